theorem dX12_glyphData_0 : decode cX12_glyphData 0 = .ok (.aload_n 0, 1) := by decide +kernel
theorem dX12_glyphData_1 : decode cX12_glyphData 1 = .ok (.getfield 9, 3) := by decide +kernel
theorem dX12_glyphData_4 : decode cX12_glyphData 4 = .ok (.sipush 142, 3) := by decide +kernel
theorem dX12_glyphData_7 : decode cX12_glyphData 7 = .ok (.iaload, 1) := by decide +kernel
theorem dX12_glyphData_8 : decode cX12_glyphData 8 = .ok (.istore_n 2, 1) := by decide +kernel
theorem dX12_glyphData_9 : decode cX12_glyphData 9 = .ok (.aload_n 0, 1) := by decide +kernel
theorem dX12_glyphData_10 : decode cX12_glyphData 10 = .ok (.getfield 16, 3) := by decide +kernel
theorem dX12_glyphData_13 : decode cX12_glyphData 13 = .ok (.iload_n 2, 1) := by decide +kernel
theorem dX12_glyphData_14 : decode cX12_glyphData 14 = .ok (.baload, 1) := by decide +kernel
theorem dX12_glyphData_15 : decode cX12_glyphData 15 = .ok (.ifCond .eq 9, 3) := by decide +kernel
theorem dX12_glyphData_18 : decode cX12_glyphData 18 = .ok (.iload_n 1, 1) := by decide +kernel
theorem dX12_glyphData_19 : decode cX12_glyphData 19 = .ok (.bipush 6, 2) := by decide +kernel
theorem dX12_glyphData_21 : decode cX12_glyphData 21 = .ok (.if_icmp .ge 4, 3) := by decide +kernel
theorem dX12_glyphData_24 : decode cX12_glyphData 24 = .ok (.return_, 1) := by decide +kernel
theorem dX12_glyphData_25 : decode cX12_glyphData 25 = .ok (.aload_n 0, 1) := by decide +kernel
theorem dX12_glyphData_26 : decode cX12_glyphData 26 = .ok (.iconst 2, 1) := by decide +kernel
theorem dX12_glyphData_27 : decode cX12_glyphData 27 = .ok (.invokevirtual 484, 3) := by decide +kernel
theorem dX12_glyphData_30 : decode cX12_glyphData 30 = .ok (.istore_n 3, 1) := by decide +kernel
theorem dX12_glyphData_31 : decode cX12_glyphData 31 = .ok (.aload_n 0, 1) := by decide +kernel
theorem dX12_glyphData_32 : decode cX12_glyphData 32 = .ok (.iconst 3, 1) := by decide +kernel
theorem dX12_glyphData_33 : decode cX12_glyphData 33 = .ok (.invokevirtual 484, 3) := by decide +kernel
theorem dX12_glyphData_36 : decode cX12_glyphData 36 = .ok (.istore 4, 2) := by decide +kernel
theorem dX12_glyphData_38 : decode cX12_glyphData 38 = .ok (.aload_n 0, 1) := by decide +kernel
theorem dX12_glyphData_39 : decode cX12_glyphData 39 = .ok (.iconst 4, 1) := by decide +kernel
theorem dX12_glyphData_40 : decode cX12_glyphData 40 = .ok (.invokevirtual 484, 3) := by decide +kernel
theorem dX12_glyphData_43 : decode cX12_glyphData 43 = .ok (.sipush 256, 3) := by decide +kernel
theorem dX12_glyphData_46 : decode cX12_glyphData 46 = .ok (.imul, 1) := by decide +kernel
theorem dX12_glyphData_47 : decode cX12_glyphData 47 = .ok (.aload_n 0, 1) := by decide +kernel
theorem dX12_glyphData_48 : decode cX12_glyphData 48 = .ok (.iconst 5, 1) := by decide +kernel
theorem dX12_glyphData_49 : decode cX12_glyphData 49 = .ok (.invokevirtual 484, 3) := by decide +kernel
theorem dX12_glyphData_52 : decode cX12_glyphData 52 = .ok (.iadd, 1) := by decide +kernel
theorem dX12_glyphData_53 : decode cX12_glyphData 53 = .ok (.istore 5, 2) := by decide +kernel
theorem dX12_glyphData_55 : decode cX12_glyphData 55 = .ok (.iload_n 3, 1) := by decide +kernel
theorem dX12_glyphData_56 : decode cX12_glyphData 56 = .ok (.bipush 7, 2) := by decide +kernel
theorem dX12_glyphData_58 : decode cX12_glyphData 58 = .ok (.iadd, 1) := by decide +kernel
theorem dX12_glyphData_59 : decode cX12_glyphData 59 = .ok (.bipush 8, 2) := by decide +kernel
theorem dX12_glyphData_61 : decode cX12_glyphData 61 = .ok (.idiv, 1) := by decide +kernel
theorem dX12_glyphData_62 : decode cX12_glyphData 62 = .ok (.istore 6, 2) := by decide +kernel
theorem dX12_glyphData_64 : decode cX12_glyphData 64 = .ok (.iload_n 3, 1) := by decide +kernel
theorem dX12_glyphData_65 : decode cX12_glyphData 65 = .ok (.iconst 1, 1) := by decide +kernel
theorem dX12_glyphData_66 : decode cX12_glyphData 66 = .ok (.if_icmp .lt 42, 3) := by decide +kernel
theorem dX12_glyphData_69 : decode cX12_glyphData 69 = .ok (.iload_n 3, 1) := by decide +kernel
theorem dX12_glyphData_70 : decode cX12_glyphData 70 = .ok (.bipush 32, 2) := by decide +kernel
theorem dX12_glyphData_72 : decode cX12_glyphData 72 = .ok (.if_icmp .gt 36, 3) := by decide +kernel
theorem dX12_glyphData_75 : decode cX12_glyphData 75 = .ok (.iload 4, 2) := by decide +kernel
theorem dX12_glyphData_77 : decode cX12_glyphData 77 = .ok (.iconst 1, 1) := by decide +kernel
theorem dX12_glyphData_78 : decode cX12_glyphData 78 = .ok (.if_icmp .lt 30, 3) := by decide +kernel
theorem dX12_glyphData_81 : decode cX12_glyphData 81 = .ok (.iload 4, 2) := by decide +kernel
theorem dX12_glyphData_83 : decode cX12_glyphData 83 = .ok (.bipush 32, 2) := by decide +kernel
theorem dX12_glyphData_85 : decode cX12_glyphData 85 = .ok (.if_icmp .gt 23, 3) := by decide +kernel
theorem dX12_glyphData_88 : decode cX12_glyphData 88 = .ok (.iload 5, 2) := by decide +kernel
theorem dX12_glyphData_90 : decode cX12_glyphData 90 = .ok (.sipush 7200, 3) := by decide +kernel
theorem dX12_glyphData_93 : decode cX12_glyphData 93 = .ok (.if_icmp .gt 15, 3) := by decide +kernel
theorem dX12_glyphData_96 : decode cX12_glyphData 96 = .ok (.iload_n 1, 1) := by decide +kernel
theorem dX12_glyphData_97 : decode cX12_glyphData 97 = .ok (.bipush 6, 2) := by decide +kernel
theorem dX12_glyphData_99 : decode cX12_glyphData 99 = .ok (.iload 6, 2) := by decide +kernel
theorem dX12_glyphData_101 : decode cX12_glyphData 101 = .ok (.iload 4, 2) := by decide +kernel
theorem dX12_glyphData_103 : decode cX12_glyphData 103 = .ok (.imul, 1) := by decide +kernel
theorem dX12_glyphData_104 : decode cX12_glyphData 104 = .ok (.iadd, 1) := by decide +kernel
theorem dX12_glyphData_105 : decode cX12_glyphData 105 = .ok (.if_icmp .ge 4, 3) := by decide +kernel
theorem dX12_glyphData_108 : decode cX12_glyphData 108 = .ok (.return_, 1) := by decide +kernel
theorem dX12_glyphData_109 : decode cX12_glyphData 109 = .ok (.sipush 256, 3) := by decide +kernel
theorem dX12_glyphData_112 : decode cX12_glyphData 112 = .ok (.iload_n 2, 1) := by decide +kernel
theorem dX12_glyphData_113 : decode cX12_glyphData 113 = .ok (.imul, 1) := by decide +kernel
theorem dX12_glyphData_114 : decode cX12_glyphData 114 = .ok (.aload_n 0, 1) := by decide +kernel
theorem dX12_glyphData_115 : decode cX12_glyphData 115 = .ok (.getfield 9, 3) := by decide +kernel
theorem dX12_glyphData_118 : decode cX12_glyphData 118 = .ok (.sipush 143, 3) := by decide +kernel
theorem dX12_glyphData_121 : decode cX12_glyphData 121 = .ok (.iaload, 1) := by decide +kernel
theorem dX12_glyphData_122 : decode cX12_glyphData 122 = .ok (.iadd, 1) := by decide +kernel
theorem dX12_glyphData_123 : decode cX12_glyphData 123 = .ok (.istore 7, 2) := by decide +kernel
theorem dX12_glyphData_125 : decode cX12_glyphData 125 = .ok (.aload_n 0, 1) := by decide +kernel
theorem dX12_glyphData_126 : decode cX12_glyphData 126 = .ok (.getfield 26, 3) := by decide +kernel
theorem dX12_glyphData_129 : decode cX12_glyphData 129 = .ok (.iload 7, 2) := by decide +kernel
theorem dX12_glyphData_131 : decode cX12_glyphData 131 = .ok (.iaload, 1) := by decide +kernel
theorem dX12_glyphData_132 : decode cX12_glyphData 132 = .ok (.iconst (-1), 1) := by decide +kernel
theorem dX12_glyphData_133 : decode cX12_glyphData 133 = .ok (.if_icmp .ne 14, 3) := by decide +kernel
theorem dX12_glyphData_136 : decode cX12_glyphData 136 = .ok (.aload_n 0, 1) := by decide +kernel
theorem dX12_glyphData_137 : decode cX12_glyphData 137 = .ok (.getfield 260, 3) := by decide +kernel
theorem dX12_glyphData_140 : decode cX12_glyphData 140 = .ok (.sipush 400, 3) := by decide +kernel
theorem dX12_glyphData_143 : decode cX12_glyphData 143 = .ok (.if_icmp .ne 4, 3) := by decide +kernel
theorem dX12_glyphData_146 : decode cX12_glyphData 146 = .ok (.return_, 1) := by decide +kernel
theorem dX12_glyphData_147 : decode cX12_glyphData 147 = .ok (.aload_n 0, 1) := by decide +kernel
theorem dX12_glyphData_148 : decode cX12_glyphData 148 = .ok (.getfield 26, 3) := by decide +kernel
theorem dX12_glyphData_151 : decode cX12_glyphData 151 = .ok (.iload 7, 2) := by decide +kernel
theorem dX12_glyphData_153 : decode cX12_glyphData 153 = .ok (.iaload, 1) := by decide +kernel
theorem dX12_glyphData_154 : decode cX12_glyphData 154 = .ok (.iconst (-1), 1) := by decide +kernel
theorem dX12_glyphData_155 : decode cX12_glyphData 155 = .ok (.if_icmp .ne 49, 3) := by decide +kernel
theorem dX12_glyphData_158 : decode cX12_glyphData 158 = .ok (.iconst 0, 1) := by decide +kernel
theorem dX12_glyphData_159 : decode cX12_glyphData 159 = .ok (.istore 8, 2) := by decide +kernel
theorem dX12_glyphData_161 : decode cX12_glyphData 161 = .ok (.aload_n 0, 1) := by decide +kernel
theorem dX12_glyphData_162 : decode cX12_glyphData 162 = .ok (.getfield 29, 3) := by decide +kernel
theorem dX12_glyphData_165 : decode cX12_glyphData 165 = .ok (.iload 8, 2) := by decide +kernel
theorem dX12_glyphData_167 : decode cX12_glyphData 167 = .ok (.baload, 1) := by decide +kernel
theorem dX12_glyphData_168 : decode cX12_glyphData 168 = .ok (.ifCond .eq 9, 3) := by decide +kernel
theorem dX12_glyphData_171 : decode cX12_glyphData 171 = .ok (.iinc 8 1, 3) := by decide +kernel
theorem dX12_glyphData_174 : decode cX12_glyphData 174 = .ok (.goto (-13), 3) := by decide +kernel
theorem dX12_glyphData_177 : decode cX12_glyphData 177 = .ok (.aload_n 0, 1) := by decide +kernel
theorem dX12_glyphData_178 : decode cX12_glyphData 178 = .ok (.getfield 29, 3) := by decide +kernel
theorem dX12_glyphData_181 : decode cX12_glyphData 181 = .ok (.iload 8, 2) := by decide +kernel
theorem dX12_glyphData_183 : decode cX12_glyphData 183 = .ok (.iconst 1, 1) := by decide +kernel
theorem dX12_glyphData_184 : decode cX12_glyphData 184 = .ok (.bastore, 1) := by decide +kernel
theorem dX12_glyphData_185 : decode cX12_glyphData 185 = .ok (.aload_n 0, 1) := by decide +kernel
theorem dX12_glyphData_186 : decode cX12_glyphData 186 = .ok (.getfield 26, 3) := by decide +kernel
theorem dX12_glyphData_189 : decode cX12_glyphData 189 = .ok (.iload 7, 2) := by decide +kernel
theorem dX12_glyphData_191 : decode cX12_glyphData 191 = .ok (.iload 8, 2) := by decide +kernel
theorem dX12_glyphData_193 : decode cX12_glyphData 193 = .ok (.iastore, 1) := by decide +kernel
theorem dX12_glyphData_194 : decode cX12_glyphData 194 = .ok (.aload_n 0, 1) := by decide +kernel
theorem dX12_glyphData_195 : decode cX12_glyphData 195 = .ok (.dup, 1) := by decide +kernel
theorem dX12_glyphData_196 : decode cX12_glyphData 196 = .ok (.getfield 260, 3) := by decide +kernel
theorem dX12_glyphData_199 : decode cX12_glyphData 199 = .ok (.iconst 1, 1) := by decide +kernel
theorem dX12_glyphData_200 : decode cX12_glyphData 200 = .ok (.iadd, 1) := by decide +kernel
theorem dX12_glyphData_201 : decode cX12_glyphData 201 = .ok (.putfield 260, 3) := by decide +kernel
theorem dX12_glyphData_204 : decode cX12_glyphData 204 = .ok (.aload_n 0, 1) := by decide +kernel
theorem dX12_glyphData_205 : decode cX12_glyphData 205 = .ok (.getfield 26, 3) := by decide +kernel
theorem dX12_glyphData_208 : decode cX12_glyphData 208 = .ok (.iload 7, 2) := by decide +kernel
theorem dX12_glyphData_210 : decode cX12_glyphData 210 = .ok (.iaload, 1) := by decide +kernel
theorem dX12_glyphData_211 : decode cX12_glyphData 211 = .ok (.istore 8, 2) := by decide +kernel
theorem dX12_glyphData_213 : decode cX12_glyphData 213 = .ok (.aload_n 0, 1) := by decide +kernel
theorem dX12_glyphData_214 : decode cX12_glyphData 214 = .ok (.getfield 32, 3) := by decide +kernel
theorem dX12_glyphData_217 : decode cX12_glyphData 217 = .ok (.iconst 5, 1) := by decide +kernel
theorem dX12_glyphData_218 : decode cX12_glyphData 218 = .ok (.iload 8, 2) := by decide +kernel
theorem dX12_glyphData_220 : decode cX12_glyphData 220 = .ok (.imul, 1) := by decide +kernel
theorem dX12_glyphData_221 : decode cX12_glyphData 221 = .ok (.aload_n 0, 1) := by decide +kernel
theorem dX12_glyphData_222 : decode cX12_glyphData 222 = .ok (.iconst 0, 1) := by decide +kernel
theorem dX12_glyphData_223 : decode cX12_glyphData 223 = .ok (.invokevirtual 487, 3) := by decide +kernel
theorem dX12_glyphData_226 : decode cX12_glyphData 226 = .ok (.iastore, 1) := by decide +kernel
theorem dX12_glyphData_227 : decode cX12_glyphData 227 = .ok (.aload_n 0, 1) := by decide +kernel
theorem dX12_glyphData_228 : decode cX12_glyphData 228 = .ok (.getfield 32, 3) := by decide +kernel
theorem dX12_glyphData_231 : decode cX12_glyphData 231 = .ok (.iconst 5, 1) := by decide +kernel
theorem dX12_glyphData_232 : decode cX12_glyphData 232 = .ok (.iload 8, 2) := by decide +kernel
theorem dX12_glyphData_234 : decode cX12_glyphData 234 = .ok (.imul, 1) := by decide +kernel
theorem dX12_glyphData_235 : decode cX12_glyphData 235 = .ok (.iconst 1, 1) := by decide +kernel
theorem dX12_glyphData_236 : decode cX12_glyphData 236 = .ok (.iadd, 1) := by decide +kernel
theorem dX12_glyphData_237 : decode cX12_glyphData 237 = .ok (.aload_n 0, 1) := by decide +kernel
theorem dX12_glyphData_238 : decode cX12_glyphData 238 = .ok (.iconst 1, 1) := by decide +kernel
theorem dX12_glyphData_239 : decode cX12_glyphData 239 = .ok (.invokevirtual 487, 3) := by decide +kernel
theorem dX12_glyphData_242 : decode cX12_glyphData 242 = .ok (.iastore, 1) := by decide +kernel
theorem dX12_glyphData_243 : decode cX12_glyphData 243 = .ok (.aload_n 0, 1) := by decide +kernel
theorem dX12_glyphData_244 : decode cX12_glyphData 244 = .ok (.getfield 32, 3) := by decide +kernel
theorem dX12_glyphData_247 : decode cX12_glyphData 247 = .ok (.iconst 5, 1) := by decide +kernel
theorem dX12_glyphData_248 : decode cX12_glyphData 248 = .ok (.iload 8, 2) := by decide +kernel
theorem dX12_glyphData_250 : decode cX12_glyphData 250 = .ok (.imul, 1) := by decide +kernel
theorem dX12_glyphData_251 : decode cX12_glyphData 251 = .ok (.iconst 2, 1) := by decide +kernel
theorem dX12_glyphData_252 : decode cX12_glyphData 252 = .ok (.iadd, 1) := by decide +kernel
theorem dX12_glyphData_253 : decode cX12_glyphData 253 = .ok (.iload_n 3, 1) := by decide +kernel
theorem dX12_glyphData_254 : decode cX12_glyphData 254 = .ok (.iastore, 1) := by decide +kernel
theorem dX12_glyphData_255 : decode cX12_glyphData 255 = .ok (.aload_n 0, 1) := by decide +kernel
theorem dX12_glyphData_256 : decode cX12_glyphData 256 = .ok (.getfield 32, 3) := by decide +kernel
theorem dX12_glyphData_259 : decode cX12_glyphData 259 = .ok (.iconst 5, 1) := by decide +kernel
theorem dX12_glyphData_260 : decode cX12_glyphData 260 = .ok (.iload 8, 2) := by decide +kernel
theorem dX12_glyphData_262 : decode cX12_glyphData 262 = .ok (.imul, 1) := by decide +kernel
theorem dX12_glyphData_263 : decode cX12_glyphData 263 = .ok (.iconst 3, 1) := by decide +kernel
theorem dX12_glyphData_264 : decode cX12_glyphData 264 = .ok (.iadd, 1) := by decide +kernel
theorem dX12_glyphData_265 : decode cX12_glyphData 265 = .ok (.iload 4, 2) := by decide +kernel
theorem dX12_glyphData_267 : decode cX12_glyphData 267 = .ok (.iastore, 1) := by decide +kernel
theorem dX12_glyphData_268 : decode cX12_glyphData 268 = .ok (.aload_n 0, 1) := by decide +kernel
theorem dX12_glyphData_269 : decode cX12_glyphData 269 = .ok (.getfield 32, 3) := by decide +kernel
theorem dX12_glyphData_272 : decode cX12_glyphData 272 = .ok (.iconst 5, 1) := by decide +kernel
theorem dX12_glyphData_273 : decode cX12_glyphData 273 = .ok (.iload 8, 2) := by decide +kernel
theorem dX12_glyphData_275 : decode cX12_glyphData 275 = .ok (.imul, 1) := by decide +kernel
theorem dX12_glyphData_276 : decode cX12_glyphData 276 = .ok (.iconst 4, 1) := by decide +kernel
theorem dX12_glyphData_277 : decode cX12_glyphData 277 = .ok (.iadd, 1) := by decide +kernel
theorem dX12_glyphData_278 : decode cX12_glyphData 278 = .ok (.iload 5, 2) := by decide +kernel
theorem dX12_glyphData_280 : decode cX12_glyphData 280 = .ok (.iastore, 1) := by decide +kernel
theorem dX12_glyphData_281 : decode cX12_glyphData 281 = .ok (.iconst 0, 1) := by decide +kernel
theorem dX12_glyphData_282 : decode cX12_glyphData 282 = .ok (.istore 9, 2) := by decide +kernel
theorem dX12_glyphData_284 : decode cX12_glyphData 284 = .ok (.iload 9, 2) := by decide +kernel
theorem dX12_glyphData_286 : decode cX12_glyphData 286 = .ok (.iload 4, 2) := by decide +kernel
theorem dX12_glyphData_288 : decode cX12_glyphData 288 = .ok (.if_icmp .ge 76, 3) := by decide +kernel
theorem dX12_glyphData_291 : decode cX12_glyphData 291 = .ok (.lconst 0, 1) := by decide +kernel
theorem dX12_glyphData_292 : decode cX12_glyphData 292 = .ok (.lstore 10, 2) := by decide +kernel
theorem dX12_glyphData_294 : decode cX12_glyphData 294 = .ok (.iconst 0, 1) := by decide +kernel
theorem dX12_glyphData_295 : decode cX12_glyphData 295 = .ok (.istore 12, 2) := by decide +kernel
theorem dX12_glyphData_297 : decode cX12_glyphData 297 = .ok (.iload 12, 2) := by decide +kernel
theorem dX12_glyphData_299 : decode cX12_glyphData 299 = .ok (.iload 6, 2) := by decide +kernel
theorem dX12_glyphData_301 : decode cX12_glyphData 301 = .ok (.if_icmp .ge 33, 3) := by decide +kernel
theorem dX12_glyphData_304 : decode cX12_glyphData 304 = .ok (.lload 10, 2) := by decide +kernel
theorem dX12_glyphData_306 : decode cX12_glyphData 306 = .ok (.bipush 8, 2) := by decide +kernel
theorem dX12_glyphData_308 : decode cX12_glyphData 308 = .ok (.lshl, 1) := by decide +kernel
theorem dX12_glyphData_309 : decode cX12_glyphData 309 = .ok (.aload_n 0, 1) := by decide +kernel
theorem dX12_glyphData_310 : decode cX12_glyphData 310 = .ok (.bipush 6, 2) := by decide +kernel
theorem dX12_glyphData_312 : decode cX12_glyphData 312 = .ok (.iload 6, 2) := by decide +kernel
theorem dX12_glyphData_314 : decode cX12_glyphData 314 = .ok (.iload 9, 2) := by decide +kernel
theorem dX12_glyphData_316 : decode cX12_glyphData 316 = .ok (.imul, 1) := by decide +kernel
theorem dX12_glyphData_317 : decode cX12_glyphData 317 = .ok (.iadd, 1) := by decide +kernel
theorem dX12_glyphData_318 : decode cX12_glyphData 318 = .ok (.iload 12, 2) := by decide +kernel
theorem dX12_glyphData_320 : decode cX12_glyphData 320 = .ok (.iadd, 1) := by decide +kernel
theorem dX12_glyphData_321 : decode cX12_glyphData 321 = .ok (.invokevirtual 484, 3) := by decide +kernel
theorem dX12_glyphData_324 : decode cX12_glyphData 324 = .ok (.i2l, 1) := by decide +kernel
theorem dX12_glyphData_325 : decode cX12_glyphData 325 = .ok (.lor, 1) := by decide +kernel
theorem dX12_glyphData_326 : decode cX12_glyphData 326 = .ok (.lstore 10, 2) := by decide +kernel
theorem dX12_glyphData_328 : decode cX12_glyphData 328 = .ok (.iinc 12 1, 3) := by decide +kernel
theorem dX12_glyphData_331 : decode cX12_glyphData 331 = .ok (.goto (-34), 3) := by decide +kernel
theorem dX12_glyphData_334 : decode cX12_glyphData 334 = .ok (.aload_n 0, 1) := by decide +kernel
theorem dX12_glyphData_335 : decode cX12_glyphData 335 = .ok (.getfield 35, 3) := by decide +kernel
theorem dX12_glyphData_338 : decode cX12_glyphData 338 = .ok (.bipush 32, 2) := by decide +kernel
theorem dX12_glyphData_340 : decode cX12_glyphData 340 = .ok (.iload 8, 2) := by decide +kernel
theorem dX12_glyphData_342 : decode cX12_glyphData 342 = .ok (.imul, 1) := by decide +kernel
theorem dX12_glyphData_343 : decode cX12_glyphData 343 = .ok (.iload 9, 2) := by decide +kernel
theorem dX12_glyphData_345 : decode cX12_glyphData 345 = .ok (.iadd, 1) := by decide +kernel
theorem dX12_glyphData_346 : decode cX12_glyphData 346 = .ok (.lload 10, 2) := by decide +kernel
theorem dX12_glyphData_348 : decode cX12_glyphData 348 = .ok (.bipush 8, 2) := by decide +kernel
theorem dX12_glyphData_350 : decode cX12_glyphData 350 = .ok (.iload 6, 2) := by decide +kernel
theorem dX12_glyphData_352 : decode cX12_glyphData 352 = .ok (.imul, 1) := by decide +kernel
theorem dX12_glyphData_353 : decode cX12_glyphData 353 = .ok (.iload_n 3, 1) := by decide +kernel
theorem dX12_glyphData_354 : decode cX12_glyphData 354 = .ok (.isub, 1) := by decide +kernel
theorem dX12_glyphData_355 : decode cX12_glyphData 355 = .ok (.lshr, 1) := by decide +kernel
theorem dX12_glyphData_356 : decode cX12_glyphData 356 = .ok (.l2i, 1) := by decide +kernel
theorem dX12_glyphData_357 : decode cX12_glyphData 357 = .ok (.iastore, 1) := by decide +kernel
theorem dX12_glyphData_358 : decode cX12_glyphData 358 = .ok (.iinc 9 1, 3) := by decide +kernel
theorem dX12_glyphData_361 : decode cX12_glyphData 361 = .ok (.goto (-77), 3) := by decide +kernel
theorem dX12_glyphData_364 : decode cX12_glyphData 364 = .ok (.return_, 1) := by decide +kernel
noncomputable def f_X12_glyphData_b297 (k284 : Int32 → Int32 → Int32 → Int32 → Int32 → Mm → Option (Unit × Mm)) (k297 : Int32 → Int32 → Int32 → Int32 → Int32 → Int64 → Int32 → Mm → Option (Unit × Mm)) (a3 : Int32) (a4 : Int32) (a6 : Int32) (a8 : Int32) (a9 : Int32) (a10 : Int64) (a12 : Int32) (T : Mm) : Option (Unit × Mm) :=
  if a6 ≤ a12 then (ix (((32 : Int32) * a8) + a9) 12800 fun j1 => lb (uA T 142 j1 ((((a10 >>> (((((8 : Int32) * a6) - a3) : Int32).toInt64 &&& 63))).toInt32))) fun T3 =>
  k284 a3 a4 a6 a8 (a9 + 1) T3)
  else (bd (f_X12_dataAt (((6 : Int32) + (a6 * a9)) + a12) T) fun v4 T5 =>
  lb (((a10 <<< ((8 : Int32).toInt64 &&& 63)) ||| ((v4).toInt64))) fun v6 =>
  k297 a3 a4 a6 a8 a9 v6 (a12 + 1) T5)
set_option maxRecDepth 100000 in
set_option maxHeartbeats 4000000 in
theorem s_X12_glyphData_b297 {x : JX} {ad : Nat → Nat} {U : Mm} {S0 : Hp} {q : Unit × Mm}  {k284 : Int32 → Int32 → Int32 → Int32 → Int32 → Mm → Option (Unit × Mm)} {k297 : Int32 → Int32 → Int32 → Int32 → Int32 → Int64 → Int32 → Mm → Option (Unit × Mm)} (hn9 : x_n x = 13) (C : CB x RX12 cX12_glyphData) (M : CMr x 2 none S0 ad false U eV q) (hk284 : ∀ (a3 : Int32) (a4 : Int32) (a6 : Int32) (a8 : Int32) (a9 : Int32) (T : Mm), k284 a3 a4 a6 a8 a9 T = some q → Jr x ad false U T [(0, .ref (ad 133)), (3, .int a3), (4, .int a4), (6, .int a6), (8, .int a8), (9, .int a9)] 284 []) (hk297 : ∀ (a3 : Int32) (a4 : Int32) (a6 : Int32) (a8 : Int32) (a9 : Int32) (a10 : Int64) (a12 : Int32) (T : Mm), k297 a3 a4 a6 a8 a9 a10 a12 T = some q → Jr x ad false U T [(0, .ref (ad 133)), (3, .int a3), (4, .int a4), (6, .int a6), (8, .int a8), (9, .int a9), (10, .long a10), (12, .int a12)] 297 []) (a3 : Int32) (a4 : Int32) (a6 : Int32) (a8 : Int32) (a9 : Int32) (a10 : Int64) (a12 : Int32) (T : Mm) (h : f_X12_glyphData_b297 k284 k297 a3 a4 a6 a8 a9 a10 a12 T = some q) : Jr x ad false U T [(0, .ref (ad 133)), (3, .int a3), (4, .int a4), (6, .int a6), (8, .int a8), (9, .int a9), (10, .long a10), (12, .int a12)] 297 [] := by
  unfold f_X12_glyphData_b297 at h
  refine r_iload C dX12_glyphData_297 7 rfl ?_
  refine r_iload C dX12_glyphData_299 3 rfl ?_
  refine r_ic_ge (tgt := 334) C dX12_glyphData_301 (by decide) h (fun h => ?_) (fun h => ?_)
  · refine r_aload_n C dX12_glyphData_334 rfl 0 rfl ?_
    refine r_getp (f := 1208) (j := 142) C flX12_35 dX12_glyphData_335 kq_133 (by decide) rfl (fun W => pt_1208 kq_133 W) ?_
    refine r_bipush (v := 32) C dX12_glyphData_338 (by decide) ?_
    refine r_iload C dX12_glyphData_340 4 rfl ?_
    refine r_imul C dX12_glyphData_342 rfl ?_
    show Jr _ _ _ _ _ _ 343 _
    refine r_iload C dX12_glyphData_343 5 rfl ?_
    refine r_iadd C dX12_glyphData_345 rfl ?_
    refine r_lload C dX12_glyphData_346 6 rfl ?_
    refine r_bipush (v := 8) C dX12_glyphData_348 (by decide) ?_
    refine r_iload C dX12_glyphData_350 3 rfl ?_
    refine r_imul C dX12_glyphData_352 rfl ?_
    show Jr _ _ _ _ _ _ 353 _
    refine r_iload_n C dX12_glyphData_353 rfl 1 rfl ?_
    refine r_isub C dX12_glyphData_354 rfl ?_
    refine r_lshr C dX12_glyphData_355 rfl ?_
    refine r_l2i C dX12_glyphData_356 rfl ?_
    refine r_iast (n := 12800) C dX12_glyphData_357 kq_142 lq_142 h (fun j1 T3 hj2 h => ?_)
    refine r_iinc (q := 5) (v := (a9 + 1)) (lv' := [(9, .int (a9 + 1)), (0, .ref (ad 133)), (3, .int a3), (4, .int a4), (6, .int a6), (8, .int a8), (10, .long a10), (12, .int a12)]) C dX12_glyphData_358 rfl (by rw [show Int32.ofInt (1) = 1 by decide]) (by rw [hn9]; decide) rfl ?_
    show Jr _ _ _ _ _ _ 361 _
    refine r_goto (tgt := 284) C dX12_glyphData_361 (by decide) ?_
    refine Jr.sub [1, 2, 3, 4, 5, 0] (lv' := [(0, .ref (ad 133)), (3, .int a3), (4, .int a4), (6, .int a6), (8, .int a8), (9, .int (a9 + 1))]) rfl ?_
    exact hk284 a3 a4 a6 a8 (a9 + 1) T3 h
  · refine r_lload C dX12_glyphData_304 6 rfl ?_
    refine r_bipush (v := 8) C dX12_glyphData_306 (by decide) ?_
    refine r_lshl C dX12_glyphData_308 rfl ?_
    refine r_aload_n C dX12_glyphData_309 rfl 0 rfl ?_
    refine r_bipush (v := 6) C dX12_glyphData_310 (by decide) ?_
    show Jr _ _ _ _ _ _ 312 _
    refine r_iload C dX12_glyphData_312 3 rfl ?_
    refine r_iload C dX12_glyphData_314 5 rfl ?_
    refine r_imul C dX12_glyphData_316 rfl ?_
    refine r_iadd C dX12_glyphData_317 rfl ?_
    refine r_iload C dX12_glyphData_318 7 rfl ?_
    refine r_iadd C dX12_glyphData_320 rfl ?_
    show Jr _ _ _ _ _ _ 321 _
    refine r_callVI C M h [.int (((6 : Int32) + (a6 * a9)) + a12)] [.long (a10 <<< ((8 : Int32).toInt64 &&& 63))] mlX12_484 mcX12_dataAt (fun q9 e9 => s_X12_dataAt (((6 : Int32) + (a6 * a9)) + a12)  e9) kq_133 rfl (by decide) (by decide) rfl rfl (Nat.le_of_ble_eq_true rfl) dX12_glyphData_321 (fun v4 T5 h => ?_)
    refine r_i2l C dX12_glyphData_324 rfl ?_
    refine r_lor C dX12_glyphData_325 rfl ?_
    refine r_lbJ h (fun v6 h => ?_)
    refine r_lstore (lv' := [(10, .long v6), (0, .ref (ad 133)), (3, .int a3), (4, .int a4), (6, .int a6), (8, .int a8), (9, .int a9), (12, .int a12)]) C dX12_glyphData_326 (by rw [hn9]; decide) rfl ?_
    refine r_iinc (q := 7) (v := (a12 + 1)) (lv' := [(12, .int (a12 + 1)), (10, .long v6), (0, .ref (ad 133)), (3, .int a3), (4, .int a4), (6, .int a6), (8, .int a8), (9, .int a9)]) C dX12_glyphData_328 rfl (by rw [show Int32.ofInt (1) = 1 by decide]) (by rw [hn9]; decide) rfl ?_
    refine r_goto (tgt := 297) C dX12_glyphData_331 (by decide) ?_
    refine Jr.sub [2, 3, 4, 5, 6, 7, 1, 0] (lv' := [(0, .ref (ad 133)), (3, .int a3), (4, .int a4), (6, .int a6), (8, .int a8), (9, .int a9), (10, .long v6), (12, .int (a12 + 1))]) rfl ?_
    exact hk297 a3 a4 a6 a8 a9 v6 (a12 + 1) T5 h
noncomputable def f_X12_glyphData_l297 (k284 : Int32 → Int32 → Int32 → Int32 → Int32 → Mm → Option (Unit × Mm)) (n : Nat) : Int32 → Int32 → Int32 → Int32 → Int32 → Int64 → Int32 → Mm → Option (Unit × Mm) := Nat.rec (fun _ _ _ _ _ _ _ _ => none) (fun _ ih => f_X12_glyphData_b297 k284 ih) n
theorem s_X12_glyphData_l297 {x : JX} {ad : Nat → Nat} {U : Mm} {S0 : Hp} {q : Unit × Mm}  {k284 : Int32 → Int32 → Int32 → Int32 → Int32 → Mm → Option (Unit × Mm)} (hn9 : x_n x = 13) (C : CB x RX12 cX12_glyphData) (M : CMr x 2 none S0 ad false U eV q) (hk284 : ∀ (a3 : Int32) (a4 : Int32) (a6 : Int32) (a8 : Int32) (a9 : Int32) (T : Mm), k284 a3 a4 a6 a8 a9 T = some q → Jr x ad false U T [(0, .ref (ad 133)), (3, .int a3), (4, .int a4), (6, .int a6), (8, .int a8), (9, .int a9)] 284 []) : ∀ (n : Nat), ∀ (a3 : Int32) (a4 : Int32) (a6 : Int32) (a8 : Int32) (a9 : Int32) (a10 : Int64) (a12 : Int32) (T : Mm), f_X12_glyphData_l297 k284 n a3 a4 a6 a8 a9 a10 a12 T = some q → Jr x ad false U T [(0, .ref (ad 133)), (3, .int a3), (4, .int a4), (6, .int a6), (8, .int a8), (9, .int a9), (10, .long a10), (12, .int a12)] 297 [] := by
  intro n
  induction n with
  | zero => intro a3 a4 a6 a8 a9 a10 a12 T  h; exact absurd h (by intro h; cases h)
  | succ n ih => exact fun a3 a4 a6 a8 a9 a10 a12 T  h => s_X12_glyphData_b297 hn9 C M hk284 (ih) a3 a4 a6 a8 a9 a10 a12 T  h
noncomputable def f_X12_glyphData_b284 (k284 : Int32 → Int32 → Int32 → Int32 → Int32 → Mm → Option (Unit × Mm)) (a3 : Int32) (a4 : Int32) (a6 : Int32) (a8 : Int32) (a9 : Int32) (T : Mm) : Option (Unit × Mm) :=
  if a4 ≤ a9 then (some ((), T))
  else (f_X12_glyphData_l297 k284 FU a3 a4 a6 a8 a9 0 0 T)
set_option maxRecDepth 100000 in
set_option maxHeartbeats 4000000 in
theorem s_X12_glyphData_b284 {x : JX} {ad : Nat → Nat} {U : Mm} {S0 : Hp} {q : Unit × Mm}  {k284 : Int32 → Int32 → Int32 → Int32 → Int32 → Mm → Option (Unit × Mm)} (hn9 : x_n x = 13) (C : CB x RX12 cX12_glyphData) (M : CMr x 2 none S0 ad false U eV q) (hk284 : ∀ (a3 : Int32) (a4 : Int32) (a6 : Int32) (a8 : Int32) (a9 : Int32) (T : Mm), k284 a3 a4 a6 a8 a9 T = some q → Jr x ad false U T [(0, .ref (ad 133)), (3, .int a3), (4, .int a4), (6, .int a6), (8, .int a8), (9, .int a9)] 284 []) (a3 : Int32) (a4 : Int32) (a6 : Int32) (a8 : Int32) (a9 : Int32) (T : Mm) (h : f_X12_glyphData_b284 k284 a3 a4 a6 a8 a9 T = some q) : Jr x ad false U T [(0, .ref (ad 133)), (3, .int a3), (4, .int a4), (6, .int a6), (8, .int a8), (9, .int a9)] 284 [] := by
  unfold f_X12_glyphData_b284 at h
  refine r_iload C dX12_glyphData_284 5 rfl ?_
  refine r_iload C dX12_glyphData_286 2 rfl ?_
  refine r_ic_ge (tgt := 364) C dX12_glyphData_288 (by decide) h (fun h => ?_) (fun h => ?_)
  · exact r_vret C M dX12_glyphData_364 h
  · refine r_lconst (v := 0) C dX12_glyphData_291 (by decide) ?_
    refine r_lstore (lv' := [(10, .long 0), (0, .ref (ad 133)), (3, .int a3), (4, .int a4), (6, .int a6), (8, .int a8), (9, .int a9)]) C dX12_glyphData_292 (by rw [hn9]; decide) rfl ?_
    refine r_iconst (v := 0) C dX12_glyphData_294 (by decide) ?_
    refine r_istore (lv' := [(12, .int 0), (10, .long 0), (0, .ref (ad 133)), (3, .int a3), (4, .int a4), (6, .int a6), (8, .int a8), (9, .int a9)]) C dX12_glyphData_295 (by rw [hn9]; decide) rfl ?_
    refine Jr.sub [2, 3, 4, 5, 6, 7, 1, 0] (lv' := [(0, .ref (ad 133)), (3, .int a3), (4, .int a4), (6, .int a6), (8, .int a8), (9, .int a9), (10, .long 0), (12, .int 0)]) rfl ?_
    exact s_X12_glyphData_l297 hn9 C M hk284 FU a3 a4 a6 a8 a9 0 0 T h
noncomputable def f_X12_glyphData_l284 (n : Nat) : Int32 → Int32 → Int32 → Int32 → Int32 → Mm → Option (Unit × Mm) := Nat.rec (fun _ _ _ _ _ _ => none) (fun _ ih => f_X12_glyphData_b284 ih) n
theorem s_X12_glyphData_l284 {x : JX} {ad : Nat → Nat} {U : Mm} {S0 : Hp} {q : Unit × Mm}  (hn9 : x_n x = 13) (C : CB x RX12 cX12_glyphData) (M : CMr x 2 none S0 ad false U eV q) : ∀ (n : Nat), ∀ (a3 : Int32) (a4 : Int32) (a6 : Int32) (a8 : Int32) (a9 : Int32) (T : Mm), f_X12_glyphData_l284  n a3 a4 a6 a8 a9 T = some q → Jr x ad false U T [(0, .ref (ad 133)), (3, .int a3), (4, .int a4), (6, .int a6), (8, .int a8), (9, .int a9)] 284 [] := by
  intro n
  induction n with
  | zero => intro a3 a4 a6 a8 a9 T  h; exact absurd h (by intro h; cases h)
  | succ n ih => exact fun a3 a4 a6 a8 a9 T  h => s_X12_glyphData_b284 hn9 C M (ih) a3 a4 a6 a8 a9 T  h
noncomputable def f_X12_glyphData_204 (a3 : Int32) (a4 : Int32) (a5 : Int32) (a6 : Int32) (a7 : Int32) (T : Mm) : Option (Unit × Mm) :=
  ix a7 4096 fun j1 =>
  lb ((gA T 139 j1)) fun v3 =>
  bd (f_X12_signedAt 0 T) fun v4 T5 =>
  ix ((5 : Int32) * v3) 2000 fun j6 => lb (uA T5 141 j6 (v4)) fun T8 =>
  bd (f_X12_signedAt 1 T8) fun v9 T10 =>
  ix (((5 : Int32) * v3) + 1) 2000 fun j11 => lb (uA T10 141 j11 (v9)) fun T13 =>
  ix (((5 : Int32) * v3) + 2) 2000 fun j14 => lb (uA T13 141 j14 (a3)) fun T16 =>
  ix (((5 : Int32) * v3) + 3) 2000 fun j17 => lb (uA T16 141 j17 (a4)) fun T19 =>
  ix (((5 : Int32) * v3) + 4) 2000 fun j20 => lb (uA T19 141 j20 (a5)) fun T22 =>
  f_X12_glyphData_l284 FU a3 a4 a6 v3 0 T22
set_option maxRecDepth 100000 in
set_option maxHeartbeats 4000000 in
theorem s_X12_glyphData_204 {x : JX} {ad : Nat → Nat} {U : Mm} {S0 : Hp} {q : Unit × Mm}  (hn9 : x_n x = 13) (C : CB x RX12 cX12_glyphData) (M : CMr x 2 none S0 ad false U eV q) (a3 : Int32) (a4 : Int32) (a5 : Int32) (a6 : Int32) (a7 : Int32) (T : Mm) (h : f_X12_glyphData_204  a3 a4 a5 a6 a7 T = some q) : Jr x ad false U T [(0, .ref (ad 133)), (3, .int a3), (4, .int a4), (5, .int a5), (6, .int a6), (7, .int a7)] 204 [] := by
  unfold f_X12_glyphData_204 at h
  refine r_aload_n C dX12_glyphData_204 rfl 0 rfl ?_
  refine r_getp (f := 1205) (j := 139) C flX12_26 dX12_glyphData_205 kq_133 (by decide) rfl (fun W => pt_1205 kq_133 W) ?_
  refine r_iload C dX12_glyphData_208 5 rfl ?_
  refine r_iald (n := 4096) C dX12_glyphData_210 kq_139 lq_139 h (fun j1 hj2 h => ?_)
  refine r_lbI h (fun v3 h => ?_)
  refine r_istore (lv' := [(8, .int v3), (0, .ref (ad 133)), (3, .int a3), (4, .int a4), (5, .int a5), (6, .int a6), (7, .int a7)]) C dX12_glyphData_211 (by rw [hn9]; decide) rfl ?_
  show Jr _ _ _ _ _ _ 213 _
  refine r_aload_n C dX12_glyphData_213 rfl 1 rfl ?_
  refine r_getp (f := 1207) (j := 141) C flX12_32 dX12_glyphData_214 kq_133 (by decide) rfl (fun W => pt_1207 kq_133 W) ?_
  refine r_iconst (v := 5) C dX12_glyphData_217 (by decide) ?_
  refine r_iload C dX12_glyphData_218 0 rfl ?_
  refine r_imul C dX12_glyphData_220 rfl ?_
  refine r_aload_n C dX12_glyphData_221 rfl 1 rfl ?_
  show Jr _ _ _ _ _ _ 222 _
  refine r_iconst (v := 0) C dX12_glyphData_222 (by decide) ?_
  refine r_callVI C M h [.int 0] [.int ((5 : Int32) * v3), .ref (ad 141)] mlX12_487 mcX12_signedAt (fun q9 e9 => s_X12_signedAt 0  e9) kq_133 rfl (by decide) (by decide) rfl rfl (Nat.le_of_ble_eq_true rfl) dX12_glyphData_223 (fun v4 T5 h => ?_)
  refine r_iast (n := 2000) C dX12_glyphData_226 kq_141 lq_141 h (fun j6 T8 hj7 h => ?_)
  refine r_aload_n C dX12_glyphData_227 rfl 1 rfl ?_
  refine r_getp (f := 1207) (j := 141) C flX12_32 dX12_glyphData_228 kq_133 (by decide) rfl (fun W => pt_1207 kq_133 W) ?_
  refine r_iconst (v := 5) C dX12_glyphData_231 (by decide) ?_
  show Jr _ _ _ _ _ _ 232 _
  refine r_iload C dX12_glyphData_232 0 rfl ?_
  refine r_imul C dX12_glyphData_234 rfl ?_
  refine r_iconst (v := 1) C dX12_glyphData_235 (by decide) ?_
  refine r_iadd C dX12_glyphData_236 rfl ?_
  refine r_aload_n C dX12_glyphData_237 rfl 1 rfl ?_
  refine r_iconst (v := 1) C dX12_glyphData_238 (by decide) ?_
  show Jr _ _ _ _ _ _ 239 _
  refine r_callVI C M h [.int 1] [.int (((5 : Int32) * v3) + 1), .ref (ad 141)] mlX12_487 mcX12_signedAt (fun q9 e9 => s_X12_signedAt 1  e9) kq_133 rfl (by decide) (by decide) rfl rfl (Nat.le_of_ble_eq_true rfl) dX12_glyphData_239 (fun v9 T10 h => ?_)
  refine r_iast (n := 2000) C dX12_glyphData_242 kq_141 lq_141 h (fun j11 T13 hj12 h => ?_)
  refine r_aload_n C dX12_glyphData_243 rfl 1 rfl ?_
  refine r_getp (f := 1207) (j := 141) C flX12_32 dX12_glyphData_244 kq_133 (by decide) rfl (fun W => pt_1207 kq_133 W) ?_
  refine r_iconst (v := 5) C dX12_glyphData_247 (by decide) ?_
  refine r_iload C dX12_glyphData_248 0 rfl ?_
  show Jr _ _ _ _ _ _ 250 _
  refine r_imul C dX12_glyphData_250 rfl ?_
  refine r_iconst (v := 2) C dX12_glyphData_251 (by decide) ?_
  refine r_iadd C dX12_glyphData_252 rfl ?_
  refine r_iload_n C dX12_glyphData_253 rfl 2 rfl ?_
  refine r_iast (n := 2000) C dX12_glyphData_254 kq_141 lq_141 h (fun j14 T16 hj15 h => ?_)
  refine r_aload_n C dX12_glyphData_255 rfl 1 rfl ?_
  show Jr _ _ _ _ _ _ 256 _
  refine r_getp (f := 1207) (j := 141) C flX12_32 dX12_glyphData_256 kq_133 (by decide) rfl (fun W => pt_1207 kq_133 W) ?_
  refine r_iconst (v := 5) C dX12_glyphData_259 (by decide) ?_
  refine r_iload C dX12_glyphData_260 0 rfl ?_
  refine r_imul C dX12_glyphData_262 rfl ?_
  refine r_iconst (v := 3) C dX12_glyphData_263 (by decide) ?_
  refine r_iadd C dX12_glyphData_264 rfl ?_
  show Jr _ _ _ _ _ _ 265 _
  refine r_iload C dX12_glyphData_265 3 rfl ?_
  refine r_iast (n := 2000) C dX12_glyphData_267 kq_141 lq_141 h (fun j17 T19 hj18 h => ?_)
  refine r_aload_n C dX12_glyphData_268 rfl 1 rfl ?_
  refine r_getp (f := 1207) (j := 141) C flX12_32 dX12_glyphData_269 kq_133 (by decide) rfl (fun W => pt_1207 kq_133 W) ?_
  refine r_iconst (v := 5) C dX12_glyphData_272 (by decide) ?_
  refine r_iload C dX12_glyphData_273 0 rfl ?_
  show Jr _ _ _ _ _ _ 275 _
  refine r_imul C dX12_glyphData_275 rfl ?_
  refine r_iconst (v := 4) C dX12_glyphData_276 (by decide) ?_
  refine r_iadd C dX12_glyphData_277 rfl ?_
  refine r_iload C dX12_glyphData_278 4 rfl ?_
  refine r_iast (n := 2000) C dX12_glyphData_280 kq_141 lq_141 h (fun j20 T22 hj21 h => ?_)
  refine r_iconst (v := 0) C dX12_glyphData_281 (by decide) ?_
  show Jr _ _ _ _ _ _ 282 _
  refine r_istore (lv' := [(9, .int 0), (8, .int v3), (0, .ref (ad 133)), (3, .int a3), (4, .int a4), (5, .int a5), (6, .int a6), (7, .int a7)]) C dX12_glyphData_282 (by rw [hn9]; decide) rfl ?_
  refine Jr.sub [2, 3, 4, 6, 1, 0] (lv' := [(0, .ref (ad 133)), (3, .int a3), (4, .int a4), (6, .int a6), (8, .int v3), (9, .int 0)]) rfl ?_
  exact s_X12_glyphData_l284 hn9 C M  FU a3 a4 a6 v3 0 T22 h
noncomputable def f_X12_glyphData_b161 (k161 : Int32 → Int32 → Int32 → Int32 → Int32 → Int32 → Mm → Option (Unit × Mm)) (a3 : Int32) (a4 : Int32) (a5 : Int32) (a6 : Int32) (a7 : Int32) (a8 : Int32) (T : Mm) : Option (Unit × Mm) :=
  ix a8 400 fun j1 =>
  if (gA T 140 j1) = 0 then (ix a8 400 fun j3 => lb (uA T 140 j3 (1)) fun T5 =>
  ix a7 4096 fun j6 => lb (uA T5 139 j6 (a8)) fun T8 =>
  lb (uI T8 1209 133 ((gI T8 1209 133) + 1)) fun T9 =>
  f_X12_glyphData_204 a3 a4 a5 a6 a7 T9)
  else (k161 a3 a4 a5 a6 a7 (a8 + 1) T)
set_option maxRecDepth 100000 in
set_option maxHeartbeats 4000000 in
theorem s_X12_glyphData_b161 {x : JX} {ad : Nat → Nat} {U : Mm} {S0 : Hp} {q : Unit × Mm}  {k161 : Int32 → Int32 → Int32 → Int32 → Int32 → Int32 → Mm → Option (Unit × Mm)} (hn9 : x_n x = 13) (C : CB x RX12 cX12_glyphData) (M : CMr x 2 none S0 ad false U eV q) (hk161 : ∀ (a3 : Int32) (a4 : Int32) (a5 : Int32) (a6 : Int32) (a7 : Int32) (a8 : Int32) (T : Mm), k161 a3 a4 a5 a6 a7 a8 T = some q → Jr x ad false U T [(0, .ref (ad 133)), (3, .int a3), (4, .int a4), (5, .int a5), (6, .int a6), (7, .int a7), (8, .int a8)] 161 []) (a3 : Int32) (a4 : Int32) (a5 : Int32) (a6 : Int32) (a7 : Int32) (a8 : Int32) (T : Mm) (h : f_X12_glyphData_b161 k161 a3 a4 a5 a6 a7 a8 T = some q) : Jr x ad false U T [(0, .ref (ad 133)), (3, .int a3), (4, .int a4), (5, .int a5), (6, .int a6), (7, .int a7), (8, .int a8)] 161 [] := by
  unfold f_X12_glyphData_b161 at h
  refine r_aload_n C dX12_glyphData_161 rfl 0 rfl ?_
  refine r_getp (f := 1206) (j := 140) C flX12_29 dX12_glyphData_162 kq_133 (by decide) rfl (fun W => pt_1206 kq_133 W) ?_
  refine r_iload C dX12_glyphData_165 6 rfl ?_
  refine r_zald (n := 400) C dX12_glyphData_167 kq_140 lq_140 h (fun j1 hj2 h => ?_)
  refine r_if_eq (tgt := 177) C dX12_glyphData_168 (by decide) h (fun h => ?_) (fun h => ?_)
  · refine r_aload_n C dX12_glyphData_177 rfl 0 rfl ?_
    refine r_getp (f := 1206) (j := 140) C flX12_29 dX12_glyphData_178 kq_133 (by decide) rfl (fun W => pt_1206 kq_133 W) ?_
    refine r_iload C dX12_glyphData_181 6 rfl ?_
    refine r_iconst (v := 1) C dX12_glyphData_183 (by decide) ?_
    refine r_zast (n := 400) C dX12_glyphData_184 kq_140 lq_140 (by decide) h (fun j3 T5 hj4 h => ?_)
    show Jr _ _ _ _ _ _ 185 _
    refine r_aload_n C dX12_glyphData_185 rfl 0 rfl ?_
    refine r_getp (f := 1205) (j := 139) C flX12_26 dX12_glyphData_186 kq_133 (by decide) rfl (fun W => pt_1205 kq_133 W) ?_
    refine r_iload C dX12_glyphData_189 5 rfl ?_
    refine r_iload C dX12_glyphData_191 6 rfl ?_
    refine r_iast (n := 4096) C dX12_glyphData_193 kq_139 lq_139 h (fun j6 T8 hj7 h => ?_)
    refine r_aload_n C dX12_glyphData_194 rfl 0 rfl ?_
    show Jr _ _ _ _ _ _ 195 _
    refine r_dup C dX12_glyphData_195 rfl ?_
    refine r_geti (f := 1209) C flX12_260 dX12_glyphData_196 kq_133 (by decide) (by decide) rfl ?_
    refine r_iconst (v := 1) C dX12_glyphData_199 (by decide) ?_
    refine r_iadd C dX12_glyphData_200 rfl ?_
    refine r_puti (f := 1209) C flX12_260 (by decide) rfl rfl dX12_glyphData_201 kq_133 rfl h (fun T9 h => ?_)
    refine Jr.sub [0, 1, 2, 3, 4, 5] (lv' := [(0, .ref (ad 133)), (3, .int a3), (4, .int a4), (5, .int a5), (6, .int a6), (7, .int a7)]) rfl ?_
    exact s_X12_glyphData_204 hn9 C M  a3 a4 a5 a6 a7 T9 h
  · refine r_iinc (q := 6) (v := (a8 + 1)) (lv' := [(8, .int (a8 + 1)), (0, .ref (ad 133)), (3, .int a3), (4, .int a4), (5, .int a5), (6, .int a6), (7, .int a7)]) C dX12_glyphData_171 rfl (by rw [show Int32.ofInt (1) = 1 by decide]) (by rw [hn9]; decide) rfl ?_
    refine r_goto (tgt := 161) C dX12_glyphData_174 (by decide) ?_
    refine Jr.sub [1, 2, 3, 4, 5, 6, 0] (lv' := [(0, .ref (ad 133)), (3, .int a3), (4, .int a4), (5, .int a5), (6, .int a6), (7, .int a7), (8, .int (a8 + 1))]) rfl ?_
    exact hk161 a3 a4 a5 a6 a7 (a8 + 1) T h
noncomputable def f_X12_glyphData_l161 (n : Nat) : Int32 → Int32 → Int32 → Int32 → Int32 → Int32 → Mm → Option (Unit × Mm) := Nat.rec (fun _ _ _ _ _ _ _ => none) (fun _ ih => f_X12_glyphData_b161 ih) n
theorem s_X12_glyphData_l161 {x : JX} {ad : Nat → Nat} {U : Mm} {S0 : Hp} {q : Unit × Mm}  (hn9 : x_n x = 13) (C : CB x RX12 cX12_glyphData) (M : CMr x 2 none S0 ad false U eV q) : ∀ (n : Nat), ∀ (a3 : Int32) (a4 : Int32) (a5 : Int32) (a6 : Int32) (a7 : Int32) (a8 : Int32) (T : Mm), f_X12_glyphData_l161  n a3 a4 a5 a6 a7 a8 T = some q → Jr x ad false U T [(0, .ref (ad 133)), (3, .int a3), (4, .int a4), (5, .int a5), (6, .int a6), (7, .int a7), (8, .int a8)] 161 [] := by
  intro n
  induction n with
  | zero => intro a3 a4 a5 a6 a7 a8 T  h; exact absurd h (by intro h; cases h)
  | succ n ih => exact fun a3 a4 a5 a6 a7 a8 T  h => s_X12_glyphData_b161 hn9 C M (ih) a3 a4 a5 a6 a7 a8 T  h
noncomputable def f_X12_glyphData_147 (a3 : Int32) (a4 : Int32) (a5 : Int32) (a6 : Int32) (a7 : Int32) (T : Mm) : Option (Unit × Mm) :=
  ix a7 4096 fun j1 =>
  if (gA T 139 j1) = (-1) then (f_X12_glyphData_l161 FU a3 a4 a5 a6 a7 0 T)
  else (f_X12_glyphData_204 a3 a4 a5 a6 a7 T)
set_option maxRecDepth 100000 in
set_option maxHeartbeats 4000000 in
theorem s_X12_glyphData_147 {x : JX} {ad : Nat → Nat} {U : Mm} {S0 : Hp} {q : Unit × Mm}  (hn9 : x_n x = 13) (C : CB x RX12 cX12_glyphData) (M : CMr x 2 none S0 ad false U eV q) (a3 : Int32) (a4 : Int32) (a5 : Int32) (a6 : Int32) (a7 : Int32) (T : Mm) (h : f_X12_glyphData_147  a3 a4 a5 a6 a7 T = some q) : Jr x ad false U T [(0, .ref (ad 133)), (3, .int a3), (4, .int a4), (5, .int a5), (6, .int a6), (7, .int a7)] 147 [] := by
  unfold f_X12_glyphData_147 at h
  refine r_aload_n C dX12_glyphData_147 rfl 0 rfl ?_
  refine r_getp (f := 1205) (j := 139) C flX12_26 dX12_glyphData_148 kq_133 (by decide) rfl (fun W => pt_1205 kq_133 W) ?_
  refine r_iload C dX12_glyphData_151 5 rfl ?_
  refine r_iald (n := 4096) C dX12_glyphData_153 kq_139 lq_139 h (fun j1 hj2 h => ?_)
  refine r_iconst (v := (-1)) C dX12_glyphData_154 (by decide) ?_
  show Jr _ _ _ _ _ _ 155 _
  refine r_ic_ne (tgt := 204) C dX12_glyphData_155 (by decide) h (fun h => ?_) (fun h => ?_)
  · exact s_X12_glyphData_204 hn9 C M  a3 a4 a5 a6 a7 T h
  · refine r_iconst (v := 0) C dX12_glyphData_158 (by decide) ?_
    refine r_istore (lv' := [(8, .int 0), (0, .ref (ad 133)), (3, .int a3), (4, .int a4), (5, .int a5), (6, .int a6), (7, .int a7)]) C dX12_glyphData_159 (by rw [hn9]; decide) rfl ?_
    refine Jr.sub [1, 2, 3, 4, 5, 6, 0] (lv' := [(0, .ref (ad 133)), (3, .int a3), (4, .int a4), (5, .int a5), (6, .int a6), (7, .int a7), (8, .int 0)]) rfl ?_
    exact s_X12_glyphData_l161 hn9 C M  FU a3 a4 a5 a6 a7 0 T h
noncomputable def f_X12_glyphData (p1 : Int32) (T : Mm) : Option (Unit × Mm) :=
  lb ((gA T 134 142)) fun v1 =>
  ix v1 17 fun j2 =>
  if (gA T 136 j2) = 0 then (some ((), T))
  else (if 6 ≤ p1 then (bd (f_X12_dataAt 2 T) fun v4 T5 =>
  bd (f_X12_dataAt 3 T5) fun v6 T7 =>
  bd (f_X12_dataAt 4 T7) fun v8 T9 =>
  bd (f_X12_dataAt 5 T9) fun v10 T11 =>
  lb (((v8 * 256) + v10)) fun v12 =>
  lb (((v4 + 7) / 8)) fun v13 =>
  if v4 < 1 then (some ((), T11))
  else (if 32 < v4 then (some ((), T11))
  else (if v6 < 1 then (some ((), T11))
  else (if 32 < v6 then (some ((), T11))
  else (if 7200 < v12 then (some ((), T11))
  else (if ((6 : Int32) + (v13 * v6)) ≤ p1 then (lb ((((256 : Int32) * v1) + (gA T11 134 143))) fun v14 =>
  ix v14 4096 fun j15 =>
  if (gA T11 139 j15) = (-1) then (if (gI T11 1209 133) = 400 then (some ((), T11))
  else (f_X12_glyphData_147 v4 v6 v12 v13 v14 T11))
  else (f_X12_glyphData_147 v4 v6 v12 v13 v14 T11))
  else (some ((), T11))))))))
  else (some ((), T)))
set_option maxRecDepth 100000 in
set_option maxHeartbeats 4000000 in
theorem s_X12_glyphData {ad : Nat → Nat} {U T : Mm} {q : Unit × Mm}  (p1 : Int32) (h : f_X12_glyphData p1 T = some q) : Cr 2 yX12_glyphData cX12_glyphData 13 none [.ref (ad 133), .int p1] ad false U T eV q := by
  refine cr_of (by decide) (Nat.le_of_ble_eq_true rfl) fun x S0 hn9 C M => ?_
  have C : CB x RX12 cX12_glyphData := C
  refine Jr.eq (lv' := [(0, .ref (ad 133)), (1, .int p1)]) (st' := []) rfl rfl ?_
  unfold f_X12_glyphData at h
  refine r_aload_n C dX12_glyphData_0 rfl 0 rfl ?_
  refine r_getp (f := 1200) (j := 134) C flX12_9 dX12_glyphData_1 kq_133 (by decide) rfl (fun W => pt_1200 kq_133 W) ?_
  refine r_sipush (v := 142) C dX12_glyphData_4 (by decide) ?_
  refine r_ialdc (n := 192) C 142 dX12_glyphData_7 kq_134 lq_134 (vp_lit (by decide)) (by decide) ?_
  refine r_lbI h (fun v1 h => ?_)
  refine r_istore_n (lv' := [(2, .int v1), (0, .ref (ad 133)), (1, .int p1)]) C dX12_glyphData_8 rfl (by rw [hn9]; decide) rfl ?_
  show Jr _ _ _ _ _ _ 9 _
  refine r_aload_n C dX12_glyphData_9 rfl 1 rfl ?_
  refine r_getp (f := 1202) (j := 136) C flX12_16 dX12_glyphData_10 kq_133 (by decide) rfl (fun W => pt_1202 kq_133 W) ?_
  refine r_iload_n C dX12_glyphData_13 rfl 0 rfl ?_
  refine r_zald (n := 17) C dX12_glyphData_14 kq_136 lq_136 h (fun j2 hj3 h => ?_)
  refine r_if_eq (tgt := 24) C dX12_glyphData_15 (by decide) h (fun h => ?_) (fun h => ?_)
  · exact r_vret C M dX12_glyphData_24 h
  · refine r_iload_n C dX12_glyphData_18 rfl 2 rfl ?_
    refine r_bipush (v := 6) C dX12_glyphData_19 (by decide) ?_
    refine r_ic_ge (tgt := 25) C dX12_glyphData_21 (by decide) h (fun h => ?_) (fun h => ?_)
    · refine r_aload_n C dX12_glyphData_25 rfl 1 rfl ?_
      refine r_iconst (v := 2) C dX12_glyphData_26 (by decide) ?_
      refine r_callVI C M h [.int 2] [] mlX12_484 mcX12_dataAt (fun q9 e9 => s_X12_dataAt 2  e9) kq_133 rfl (by decide) (by decide) rfl rfl (Nat.le_of_ble_eq_true rfl) dX12_glyphData_27 (fun v4 T5 h => ?_)
      refine r_istore_n (lv' := [(3, .int v4), (2, .int v1), (0, .ref (ad 133)), (1, .int p1)]) C dX12_glyphData_30 rfl (by rw [hn9]; decide) rfl ?_
      refine r_aload_n C dX12_glyphData_31 rfl 2 rfl ?_
      show Jr _ _ _ _ _ _ 32 _
      refine r_iconst (v := 3) C dX12_glyphData_32 (by decide) ?_
      refine r_callVI C M h [.int 3] [] mlX12_484 mcX12_dataAt (fun q9 e9 => s_X12_dataAt 3  e9) kq_133 rfl (by decide) (by decide) rfl rfl (Nat.le_of_ble_eq_true rfl) dX12_glyphData_33 (fun v6 T7 h => ?_)
      refine r_istore (lv' := [(4, .int v6), (3, .int v4), (2, .int v1), (0, .ref (ad 133)), (1, .int p1)]) C dX12_glyphData_36 (by rw [hn9]; decide) rfl ?_
      refine r_aload_n C dX12_glyphData_38 rfl 3 rfl ?_
      refine r_iconst (v := 4) C dX12_glyphData_39 (by decide) ?_
      refine r_callVI C M h [.int 4] [] mlX12_484 mcX12_dataAt (fun q9 e9 => s_X12_dataAt 4  e9) kq_133 rfl (by decide) (by decide) rfl rfl (Nat.le_of_ble_eq_true rfl) dX12_glyphData_40 (fun v8 T9 h => ?_)
      show Jr _ _ _ _ _ _ 43 _
      refine r_sipush (v := 256) C dX12_glyphData_43 (by decide) ?_
      refine r_imul C dX12_glyphData_46 rfl ?_
      refine r_aload_n C dX12_glyphData_47 rfl 3 rfl ?_
      refine r_iconst (v := 5) C dX12_glyphData_48 (by decide) ?_
      refine r_callVI C M h [.int 5] [.int (v8 * 256)] mlX12_484 mcX12_dataAt (fun q9 e9 => s_X12_dataAt 5  e9) kq_133 rfl (by decide) (by decide) rfl rfl (Nat.le_of_ble_eq_true rfl) dX12_glyphData_49 (fun v10 T11 h => ?_)
      refine r_iadd C dX12_glyphData_52 rfl ?_
      show Jr _ _ _ _ _ _ 53 _
      refine r_lbI h (fun v12 h => ?_)
      refine r_istore (lv' := [(5, .int v12), (4, .int v6), (3, .int v4), (2, .int v1), (0, .ref (ad 133)), (1, .int p1)]) C dX12_glyphData_53 (by rw [hn9]; decide) rfl ?_
      refine r_iload_n C dX12_glyphData_55 rfl 2 rfl ?_
      refine r_bipush (v := 7) C dX12_glyphData_56 (by decide) ?_
      refine r_iadd C dX12_glyphData_58 rfl ?_
      refine r_bipush (v := 8) C dX12_glyphData_59 (by decide) ?_
      refine r_idiv C dX12_glyphData_61 (by decide) rfl ?_
      show Jr _ _ _ _ _ _ 62 _
      refine r_lbI h (fun v13 h => ?_)
      refine r_istore (lv' := [(6, .int v13), (5, .int v12), (4, .int v6), (3, .int v4), (2, .int v1), (0, .ref (ad 133)), (1, .int p1)]) C dX12_glyphData_62 (by rw [hn9]; decide) rfl ?_
      refine r_iload_n C dX12_glyphData_64 rfl 3 rfl ?_
      refine r_iconst (v := 1) C dX12_glyphData_65 (by decide) ?_
      refine r_ic_lt (tgt := 108) C dX12_glyphData_66 (by decide) h (fun h => ?_) (fun h => ?_)
      · exact r_vret C M dX12_glyphData_108 h
      · refine r_iload_n C dX12_glyphData_69 rfl 3 rfl ?_
        refine r_bipush (v := 32) C dX12_glyphData_70 (by decide) ?_
        refine r_ic_gt (tgt := 108) C dX12_glyphData_72 (by decide) h (fun h => ?_) (fun h => ?_)
        · exact r_vret C M dX12_glyphData_108 h
        · refine r_iload C dX12_glyphData_75 2 rfl ?_
          refine r_iconst (v := 1) C dX12_glyphData_77 (by decide) ?_
          refine r_ic_lt (tgt := 108) C dX12_glyphData_78 (by decide) h (fun h => ?_) (fun h => ?_)
          · exact r_vret C M dX12_glyphData_108 h
          · refine r_iload C dX12_glyphData_81 2 rfl ?_
            refine r_bipush (v := 32) C dX12_glyphData_83 (by decide) ?_
            refine r_ic_gt (tgt := 108) C dX12_glyphData_85 (by decide) h (fun h => ?_) (fun h => ?_)
            · exact r_vret C M dX12_glyphData_108 h
            · refine r_iload C dX12_glyphData_88 1 rfl ?_
              refine r_sipush (v := 7200) C dX12_glyphData_90 (by decide) ?_
              refine r_ic_gt (tgt := 108) C dX12_glyphData_93 (by decide) h (fun h => ?_) (fun h => ?_)
              · exact r_vret C M dX12_glyphData_108 h
              · refine r_iload_n C dX12_glyphData_96 rfl 6 rfl ?_
                refine r_bipush (v := 6) C dX12_glyphData_97 (by decide) ?_
                refine r_iload C dX12_glyphData_99 0 rfl ?_
                refine r_iload C dX12_glyphData_101 2 rfl ?_
                refine r_imul C dX12_glyphData_103 rfl ?_
                show Jr _ _ _ _ _ _ 104 _
                refine r_iadd C dX12_glyphData_104 rfl ?_
                refine r_ic_ge (tgt := 109) C dX12_glyphData_105 (by decide) h (fun h => ?_) (fun h => ?_)
                · refine r_sipush (v := 256) C dX12_glyphData_109 (by decide) ?_
                  refine r_iload_n C dX12_glyphData_112 rfl 4 rfl ?_
                  refine r_imul C dX12_glyphData_113 rfl ?_
                  refine r_aload_n C dX12_glyphData_114 rfl 5 rfl ?_
                  refine r_getp (f := 1200) (j := 134) C flX12_9 dX12_glyphData_115 kq_133 (by decide) rfl (fun W => pt_1200 kq_133 W) ?_
                  show Jr _ _ _ _ _ _ 118 _
                  refine r_sipush (v := 143) C dX12_glyphData_118 (by decide) ?_
                  refine r_ialdc (n := 192) C 143 dX12_glyphData_121 kq_134 lq_134 (vp_lit (by decide)) (by decide) ?_
                  refine r_iadd C dX12_glyphData_122 rfl ?_
                  refine r_lbI h (fun v14 h => ?_)
                  refine r_istore (lv' := [(7, .int v14), (6, .int v13), (5, .int v12), (4, .int v6), (3, .int v4), (2, .int v1), (0, .ref (ad 133)), (1, .int p1)]) C dX12_glyphData_123 (by rw [hn9]; decide) rfl ?_
                  refine r_aload_n C dX12_glyphData_125 rfl 6 rfl ?_
                  refine r_getp (f := 1205) (j := 139) C flX12_26 dX12_glyphData_126 kq_133 (by decide) rfl (fun W => pt_1205 kq_133 W) ?_
                  show Jr _ _ _ _ _ _ 129 _
                  refine r_iload C dX12_glyphData_129 0 rfl ?_
                  refine r_iald (n := 4096) C dX12_glyphData_131 kq_139 lq_139 h (fun j15 hj16 h => ?_)
                  refine r_iconst (v := (-1)) C dX12_glyphData_132 (by decide) ?_
                  refine r_ic_ne (tgt := 147) C dX12_glyphData_133 (by decide) h (fun h => ?_) (fun h => ?_)
                  · refine Jr.sub [6, 4, 3, 2, 1, 0] (lv' := [(0, .ref (ad 133)), (3, .int v4), (4, .int v6), (5, .int v12), (6, .int v13), (7, .int v14)]) rfl ?_
                    exact s_X12_glyphData_147 hn9 C M  v4 v6 v12 v13 v14 T11 h
                  · refine r_aload_n C dX12_glyphData_136 rfl 6 rfl ?_
                    refine r_geti (f := 1209) C flX12_260 dX12_glyphData_137 kq_133 (by decide) (by decide) rfl ?_
                    refine r_sipush (v := 400) C dX12_glyphData_140 (by decide) ?_
                    refine r_ic_ne (tgt := 147) C dX12_glyphData_143 (by decide) h (fun h => ?_) (fun h => ?_)
                    · refine Jr.sub [6, 4, 3, 2, 1, 0] (lv' := [(0, .ref (ad 133)), (3, .int v4), (4, .int v6), (5, .int v12), (6, .int v13), (7, .int v14)]) rfl ?_
                      exact s_X12_glyphData_147 hn9 C M  v4 v6 v12 v13 v14 T11 h
                    · exact r_vret C M dX12_glyphData_146 h
                · exact r_vret C M dX12_glyphData_108 h
    · exact r_vret C M dX12_glyphData_24 h
theorem dX12_userData_0 : decode cX12_userData 0 = .ok (.aload_n 0, 1) := by decide +kernel
theorem dX12_userData_1 : decode cX12_userData 1 = .ok (.getfield 9, 3) := by decide +kernel
theorem dX12_userData_4 : decode cX12_userData 4 = .ok (.sipush 144, 3) := by decide +kernel
theorem dX12_userData_7 : decode cX12_userData 7 = .ok (.iaload, 1) := by decide +kernel
theorem dX12_userData_8 : decode cX12_userData 8 = .ok (.istore_n 2, 1) := by decide +kernel
theorem dX12_userData_9 : decode cX12_userData 9 = .ok (.iload_n 2, 1) := by decide +kernel
theorem dX12_userData_10 : decode cX12_userData 10 = .ok (.ifCond .lt 14, 3) := by decide +kernel
theorem dX12_userData_13 : decode cX12_userData 13 = .ok (.iload_n 2, 1) := by decide +kernel
theorem dX12_userData_14 : decode cX12_userData 14 = .ok (.bipush 15, 2) := by decide +kernel
theorem dX12_userData_16 : decode cX12_userData 16 = .ok (.if_icmp .gt 8, 3) := by decide +kernel
theorem dX12_userData_19 : decode cX12_userData 19 = .ok (.iload_n 1, 1) := by decide +kernel
theorem dX12_userData_20 : decode cX12_userData 20 = .ok (.iconst 2, 1) := by decide +kernel
theorem dX12_userData_21 : decode cX12_userData 21 = .ok (.if_icmp .ge 4, 3) := by decide +kernel
theorem dX12_userData_24 : decode cX12_userData 24 = .ok (.return_, 1) := by decide +kernel
theorem dX12_userData_25 : decode cX12_userData 25 = .ok (.aload_n 0, 1) := by decide +kernel
theorem dX12_userData_26 : decode cX12_userData 26 = .ok (.iconst 0, 1) := by decide +kernel
theorem dX12_userData_27 : decode cX12_userData 27 = .ok (.invokevirtual 484, 3) := by decide +kernel
theorem dX12_userData_30 : decode cX12_userData 30 = .ok (.istore_n 3, 1) := by decide +kernel
theorem dX12_userData_31 : decode cX12_userData 31 = .ok (.aload_n 0, 1) := by decide +kernel
theorem dX12_userData_32 : decode cX12_userData 32 = .ok (.iconst 1, 1) := by decide +kernel
theorem dX12_userData_33 : decode cX12_userData 33 = .ok (.invokevirtual 484, 3) := by decide +kernel
theorem dX12_userData_36 : decode cX12_userData 36 = .ok (.istore 4, 2) := by decide +kernel
theorem dX12_userData_38 : decode cX12_userData 38 = .ok (.iload_n 3, 1) := by decide +kernel
theorem dX12_userData_39 : decode cX12_userData 39 = .ok (.bipush 7, 2) := by decide +kernel
theorem dX12_userData_41 : decode cX12_userData 41 = .ok (.iadd, 1) := by decide +kernel
theorem dX12_userData_42 : decode cX12_userData 42 = .ok (.bipush 8, 2) := by decide +kernel
theorem dX12_userData_44 : decode cX12_userData 44 = .ok (.idiv, 1) := by decide +kernel
theorem dX12_userData_45 : decode cX12_userData 45 = .ok (.istore 5, 2) := by decide +kernel
theorem dX12_userData_47 : decode cX12_userData 47 = .ok (.iload_n 3, 1) := by decide +kernel
theorem dX12_userData_48 : decode cX12_userData 48 = .ok (.iconst 1, 1) := by decide +kernel
theorem dX12_userData_49 : decode cX12_userData 49 = .ok (.if_icmp .lt 33, 3) := by decide +kernel
theorem dX12_userData_52 : decode cX12_userData 52 = .ok (.iload_n 3, 1) := by decide +kernel
theorem dX12_userData_53 : decode cX12_userData 53 = .ok (.bipush 16, 2) := by decide +kernel
theorem dX12_userData_55 : decode cX12_userData 55 = .ok (.if_icmp .gt 27, 3) := by decide +kernel
theorem dX12_userData_58 : decode cX12_userData 58 = .ok (.iload 4, 2) := by decide +kernel
theorem dX12_userData_60 : decode cX12_userData 60 = .ok (.iconst 1, 1) := by decide +kernel
theorem dX12_userData_61 : decode cX12_userData 61 = .ok (.if_icmp .lt 21, 3) := by decide +kernel
theorem dX12_userData_64 : decode cX12_userData 64 = .ok (.iload 4, 2) := by decide +kernel
theorem dX12_userData_66 : decode cX12_userData 66 = .ok (.bipush 16, 2) := by decide +kernel
theorem dX12_userData_68 : decode cX12_userData 68 = .ok (.if_icmp .gt 14, 3) := by decide +kernel
theorem dX12_userData_71 : decode cX12_userData 71 = .ok (.iload_n 1, 1) := by decide +kernel
theorem dX12_userData_72 : decode cX12_userData 72 = .ok (.iconst 2, 1) := by decide +kernel
theorem dX12_userData_73 : decode cX12_userData 73 = .ok (.iload 5, 2) := by decide +kernel
theorem dX12_userData_75 : decode cX12_userData 75 = .ok (.iload 4, 2) := by decide +kernel
theorem dX12_userData_77 : decode cX12_userData 77 = .ok (.imul, 1) := by decide +kernel
theorem dX12_userData_78 : decode cX12_userData 78 = .ok (.iadd, 1) := by decide +kernel
theorem dX12_userData_79 : decode cX12_userData 79 = .ok (.if_icmp .ge 4, 3) := by decide +kernel
theorem dX12_userData_82 : decode cX12_userData 82 = .ok (.return_, 1) := by decide +kernel
theorem dX12_userData_83 : decode cX12_userData 83 = .ok (.aload_n 0, 1) := by decide +kernel
theorem dX12_userData_84 : decode cX12_userData 84 = .ok (.getfield 38, 3) := by decide +kernel
theorem dX12_userData_87 : decode cX12_userData 87 = .ok (.iload_n 2, 1) := by decide +kernel
theorem dX12_userData_88 : decode cX12_userData 88 = .ok (.iconst 1, 1) := by decide +kernel
theorem dX12_userData_89 : decode cX12_userData 89 = .ok (.bastore, 1) := by decide +kernel
theorem dX12_userData_90 : decode cX12_userData 90 = .ok (.aload_n 0, 1) := by decide +kernel
theorem dX12_userData_91 : decode cX12_userData 91 = .ok (.getfield 41, 3) := by decide +kernel
theorem dX12_userData_94 : decode cX12_userData 94 = .ok (.iload_n 2, 1) := by decide +kernel
theorem dX12_userData_95 : decode cX12_userData 95 = .ok (.iconst 1, 1) := by decide +kernel
theorem dX12_userData_96 : decode cX12_userData 96 = .ok (.bastore, 1) := by decide +kernel
theorem dX12_userData_97 : decode cX12_userData 97 = .ok (.aload_n 0, 1) := by decide +kernel
theorem dX12_userData_98 : decode cX12_userData 98 = .ok (.getfield 44, 3) := by decide +kernel
theorem dX12_userData_101 : decode cX12_userData 101 = .ok (.iload_n 2, 1) := by decide +kernel
theorem dX12_userData_102 : decode cX12_userData 102 = .ok (.iload_n 3, 1) := by decide +kernel
theorem dX12_userData_103 : decode cX12_userData 103 = .ok (.iastore, 1) := by decide +kernel
theorem dX12_userData_104 : decode cX12_userData 104 = .ok (.aload_n 0, 1) := by decide +kernel
theorem dX12_userData_105 : decode cX12_userData 105 = .ok (.getfield 47, 3) := by decide +kernel
theorem dX12_userData_108 : decode cX12_userData 108 = .ok (.iload_n 2, 1) := by decide +kernel
theorem dX12_userData_109 : decode cX12_userData 109 = .ok (.iload 4, 2) := by decide +kernel
theorem dX12_userData_111 : decode cX12_userData 111 = .ok (.iastore, 1) := by decide +kernel
theorem dX12_userData_112 : decode cX12_userData 112 = .ok (.iconst 0, 1) := by decide +kernel
theorem dX12_userData_113 : decode cX12_userData 113 = .ok (.istore 6, 2) := by decide +kernel
theorem dX12_userData_115 : decode cX12_userData 115 = .ok (.iload 6, 2) := by decide +kernel
theorem dX12_userData_117 : decode cX12_userData 117 = .ok (.iload 4, 2) := by decide +kernel
theorem dX12_userData_119 : decode cX12_userData 119 = .ok (.if_icmp .ge 72, 3) := by decide +kernel
theorem dX12_userData_122 : decode cX12_userData 122 = .ok (.iconst 0, 1) := by decide +kernel
theorem dX12_userData_123 : decode cX12_userData 123 = .ok (.istore 7, 2) := by decide +kernel
theorem dX12_userData_125 : decode cX12_userData 125 = .ok (.iconst 0, 1) := by decide +kernel
theorem dX12_userData_126 : decode cX12_userData 126 = .ok (.istore 8, 2) := by decide +kernel
theorem dX12_userData_128 : decode cX12_userData 128 = .ok (.iload 8, 2) := by decide +kernel
theorem dX12_userData_130 : decode cX12_userData 130 = .ok (.iload 5, 2) := by decide +kernel
theorem dX12_userData_132 : decode cX12_userData 132 = .ok (.if_icmp .ge 31, 3) := by decide +kernel
theorem dX12_userData_135 : decode cX12_userData 135 = .ok (.iload 7, 2) := by decide +kernel
theorem dX12_userData_137 : decode cX12_userData 137 = .ok (.bipush 8, 2) := by decide +kernel
theorem dX12_userData_139 : decode cX12_userData 139 = .ok (.ishl, 1) := by decide +kernel
theorem dX12_userData_140 : decode cX12_userData 140 = .ok (.aload_n 0, 1) := by decide +kernel
theorem dX12_userData_141 : decode cX12_userData 141 = .ok (.iconst 2, 1) := by decide +kernel
theorem dX12_userData_142 : decode cX12_userData 142 = .ok (.iload 5, 2) := by decide +kernel
theorem dX12_userData_144 : decode cX12_userData 144 = .ok (.iload 6, 2) := by decide +kernel
theorem dX12_userData_146 : decode cX12_userData 146 = .ok (.imul, 1) := by decide +kernel
theorem dX12_userData_147 : decode cX12_userData 147 = .ok (.iadd, 1) := by decide +kernel
theorem dX12_userData_148 : decode cX12_userData 148 = .ok (.iload 8, 2) := by decide +kernel
theorem dX12_userData_150 : decode cX12_userData 150 = .ok (.iadd, 1) := by decide +kernel
theorem dX12_userData_151 : decode cX12_userData 151 = .ok (.invokevirtual 484, 3) := by decide +kernel
theorem dX12_userData_154 : decode cX12_userData 154 = .ok (.ior, 1) := by decide +kernel
theorem dX12_userData_155 : decode cX12_userData 155 = .ok (.istore 7, 2) := by decide +kernel
theorem dX12_userData_157 : decode cX12_userData 157 = .ok (.iinc 8 1, 3) := by decide +kernel
theorem dX12_userData_160 : decode cX12_userData 160 = .ok (.goto (-32), 3) := by decide +kernel
theorem dX12_userData_163 : decode cX12_userData 163 = .ok (.aload_n 0, 1) := by decide +kernel
theorem dX12_userData_164 : decode cX12_userData 164 = .ok (.getfield 50, 3) := by decide +kernel
theorem dX12_userData_167 : decode cX12_userData 167 = .ok (.bipush 16, 2) := by decide +kernel
theorem dX12_userData_169 : decode cX12_userData 169 = .ok (.iload_n 2, 1) := by decide +kernel
theorem dX12_userData_170 : decode cX12_userData 170 = .ok (.imul, 1) := by decide +kernel
theorem dX12_userData_171 : decode cX12_userData 171 = .ok (.iload 6, 2) := by decide +kernel
theorem dX12_userData_173 : decode cX12_userData 173 = .ok (.iadd, 1) := by decide +kernel
theorem dX12_userData_174 : decode cX12_userData 174 = .ok (.iload 7, 2) := by decide +kernel
theorem dX12_userData_176 : decode cX12_userData 176 = .ok (.bipush 8, 2) := by decide +kernel
theorem dX12_userData_178 : decode cX12_userData 178 = .ok (.iload 5, 2) := by decide +kernel
theorem dX12_userData_180 : decode cX12_userData 180 = .ok (.imul, 1) := by decide +kernel
theorem dX12_userData_181 : decode cX12_userData 181 = .ok (.iload_n 3, 1) := by decide +kernel
theorem dX12_userData_182 : decode cX12_userData 182 = .ok (.isub, 1) := by decide +kernel
theorem dX12_userData_183 : decode cX12_userData 183 = .ok (.ishr, 1) := by decide +kernel
theorem dX12_userData_184 : decode cX12_userData 184 = .ok (.iastore, 1) := by decide +kernel
theorem dX12_userData_185 : decode cX12_userData 185 = .ok (.iinc 6 1, 3) := by decide +kernel
theorem dX12_userData_188 : decode cX12_userData 188 = .ok (.goto (-73), 3) := by decide +kernel
theorem dX12_userData_191 : decode cX12_userData 191 = .ok (.return_, 1) := by decide +kernel
noncomputable def f_X12_userData_b128 (k115 : Int32 → Int32 → Int32 → Int32 → Int32 → Mm → Option (Unit × Mm)) (k128 : Int32 → Int32 → Int32 → Int32 → Int32 → Int32 → Int32 → Mm → Option (Unit × Mm)) (a2 : Int32) (a3 : Int32) (a4 : Int32) (a5 : Int32) (a6 : Int32) (a7 : Int32) (a8 : Int32) (T : Mm) : Option (Unit × Mm) :=
  if a5 ≤ a8 then (ix (((16 : Int32) * a2) + a6) 256 fun j1 => lb (uA T 147 j1 ((a7 >>> ((((8 : Int32) * a5) - a3) &&& 31)))) fun T3 =>
  k115 a2 a3 a4 a5 (a6 + 1) T3)
  else (bd (f_X12_dataAt (((2 : Int32) + (a5 * a6)) + a8) T) fun v4 T5 =>
  lb (((a7 <<< ((8 : Int32) &&& 31)) ||| v4)) fun v6 =>
  k128 a2 a3 a4 a5 a6 v6 (a8 + 1) T5)
set_option maxRecDepth 100000 in
set_option maxHeartbeats 4000000 in
theorem s_X12_userData_b128 {x : JX} {ad : Nat → Nat} {U : Mm} {S0 : Hp} {q : Unit × Mm}  {k115 : Int32 → Int32 → Int32 → Int32 → Int32 → Mm → Option (Unit × Mm)} {k128 : Int32 → Int32 → Int32 → Int32 → Int32 → Int32 → Int32 → Mm → Option (Unit × Mm)} (hn9 : x_n x = 9) (C : CB x RX12 cX12_userData) (M : CMr x 2 none S0 ad false U eV q) (hk115 : ∀ (a2 : Int32) (a3 : Int32) (a4 : Int32) (a5 : Int32) (a6 : Int32) (T : Mm), k115 a2 a3 a4 a5 a6 T = some q → Jr x ad false U T [(0, .ref (ad 133)), (2, .int a2), (3, .int a3), (4, .int a4), (5, .int a5), (6, .int a6)] 115 []) (hk128 : ∀ (a2 : Int32) (a3 : Int32) (a4 : Int32) (a5 : Int32) (a6 : Int32) (a7 : Int32) (a8 : Int32) (T : Mm), k128 a2 a3 a4 a5 a6 a7 a8 T = some q → Jr x ad false U T [(0, .ref (ad 133)), (2, .int a2), (3, .int a3), (4, .int a4), (5, .int a5), (6, .int a6), (7, .int a7), (8, .int a8)] 128 []) (a2 : Int32) (a3 : Int32) (a4 : Int32) (a5 : Int32) (a6 : Int32) (a7 : Int32) (a8 : Int32) (T : Mm) (h : f_X12_userData_b128 k115 k128 a2 a3 a4 a5 a6 a7 a8 T = some q) : Jr x ad false U T [(0, .ref (ad 133)), (2, .int a2), (3, .int a3), (4, .int a4), (5, .int a5), (6, .int a6), (7, .int a7), (8, .int a8)] 128 [] := by
  unfold f_X12_userData_b128 at h
  refine r_iload C dX12_userData_128 7 rfl ?_
  refine r_iload C dX12_userData_130 4 rfl ?_
  refine r_ic_ge (tgt := 163) C dX12_userData_132 (by decide) h (fun h => ?_) (fun h => ?_)
  · refine r_aload_n C dX12_userData_163 rfl 0 rfl ?_
    refine r_getp (f := 1214) (j := 147) C flX12_50 dX12_userData_164 kq_133 (by decide) rfl (fun W => pt_1214 kq_133 W) ?_
    refine r_bipush (v := 16) C dX12_userData_167 (by decide) ?_
    refine r_iload_n C dX12_userData_169 rfl 1 rfl ?_
    refine r_imul C dX12_userData_170 rfl ?_
    show Jr _ _ _ _ _ _ 171 _
    refine r_iload C dX12_userData_171 5 rfl ?_
    refine r_iadd C dX12_userData_173 rfl ?_
    refine r_iload C dX12_userData_174 6 rfl ?_
    refine r_bipush (v := 8) C dX12_userData_176 (by decide) ?_
    refine r_iload C dX12_userData_178 4 rfl ?_
    refine r_imul C dX12_userData_180 rfl ?_
    show Jr _ _ _ _ _ _ 181 _
    refine r_iload_n C dX12_userData_181 rfl 2 rfl ?_
    refine r_isub C dX12_userData_182 rfl ?_
    refine r_ishr C dX12_userData_183 rfl ?_
    refine r_iast (n := 256) C dX12_userData_184 kq_147 lq_147 h (fun j1 T3 hj2 h => ?_)
    refine r_iinc (q := 5) (v := (a6 + 1)) (lv' := [(6, .int (a6 + 1)), (0, .ref (ad 133)), (2, .int a2), (3, .int a3), (4, .int a4), (5, .int a5), (7, .int a7), (8, .int a8)]) C dX12_userData_185 rfl (by rw [show Int32.ofInt (1) = 1 by decide]) (by rw [hn9]; decide) rfl ?_
    refine r_goto (tgt := 115) C dX12_userData_188 (by decide) ?_
    refine Jr.sub [1, 2, 3, 4, 5, 0] (lv' := [(0, .ref (ad 133)), (2, .int a2), (3, .int a3), (4, .int a4), (5, .int a5), (6, .int (a6 + 1))]) rfl ?_
    exact hk115 a2 a3 a4 a5 (a6 + 1) T3 h
  · refine r_iload C dX12_userData_135 6 rfl ?_
    refine r_bipush (v := 8) C dX12_userData_137 (by decide) ?_
    refine r_ishl C dX12_userData_139 rfl ?_
    refine r_aload_n C dX12_userData_140 rfl 0 rfl ?_
    refine r_iconst (v := 2) C dX12_userData_141 (by decide) ?_
    show Jr _ _ _ _ _ _ 142 _
    refine r_iload C dX12_userData_142 4 rfl ?_
    refine r_iload C dX12_userData_144 5 rfl ?_
    refine r_imul C dX12_userData_146 rfl ?_
    refine r_iadd C dX12_userData_147 rfl ?_
    refine r_iload C dX12_userData_148 7 rfl ?_
    refine r_iadd C dX12_userData_150 rfl ?_
    show Jr _ _ _ _ _ _ 151 _
    refine r_callVI C M h [.int (((2 : Int32) + (a5 * a6)) + a8)] [.int (a7 <<< ((8 : Int32) &&& 31))] mlX12_484 mcX12_dataAt (fun q9 e9 => s_X12_dataAt (((2 : Int32) + (a5 * a6)) + a8)  e9) kq_133 rfl (by decide) (by decide) rfl rfl (Nat.le_of_ble_eq_true rfl) dX12_userData_151 (fun v4 T5 h => ?_)
    refine r_ior C dX12_userData_154 rfl ?_
    refine r_lbI h (fun v6 h => ?_)
    refine r_istore (lv' := [(7, .int v6), (0, .ref (ad 133)), (2, .int a2), (3, .int a3), (4, .int a4), (5, .int a5), (6, .int a6), (8, .int a8)]) C dX12_userData_155 (by rw [hn9]; decide) rfl ?_
    refine r_iinc (q := 7) (v := (a8 + 1)) (lv' := [(8, .int (a8 + 1)), (7, .int v6), (0, .ref (ad 133)), (2, .int a2), (3, .int a3), (4, .int a4), (5, .int a5), (6, .int a6)]) C dX12_userData_157 rfl (by rw [show Int32.ofInt (1) = 1 by decide]) (by rw [hn9]; decide) rfl ?_
    refine r_goto (tgt := 128) C dX12_userData_160 (by decide) ?_
    refine Jr.sub [2, 3, 4, 5, 6, 7, 1, 0] (lv' := [(0, .ref (ad 133)), (2, .int a2), (3, .int a3), (4, .int a4), (5, .int a5), (6, .int a6), (7, .int v6), (8, .int (a8 + 1))]) rfl ?_
    exact hk128 a2 a3 a4 a5 a6 v6 (a8 + 1) T5 h
noncomputable def f_X12_userData_l128 (k115 : Int32 → Int32 → Int32 → Int32 → Int32 → Mm → Option (Unit × Mm)) (n : Nat) : Int32 → Int32 → Int32 → Int32 → Int32 → Int32 → Int32 → Mm → Option (Unit × Mm) := Nat.rec (fun _ _ _ _ _ _ _ _ => none) (fun _ ih => f_X12_userData_b128 k115 ih) n
theorem s_X12_userData_l128 {x : JX} {ad : Nat → Nat} {U : Mm} {S0 : Hp} {q : Unit × Mm}  {k115 : Int32 → Int32 → Int32 → Int32 → Int32 → Mm → Option (Unit × Mm)} (hn9 : x_n x = 9) (C : CB x RX12 cX12_userData) (M : CMr x 2 none S0 ad false U eV q) (hk115 : ∀ (a2 : Int32) (a3 : Int32) (a4 : Int32) (a5 : Int32) (a6 : Int32) (T : Mm), k115 a2 a3 a4 a5 a6 T = some q → Jr x ad false U T [(0, .ref (ad 133)), (2, .int a2), (3, .int a3), (4, .int a4), (5, .int a5), (6, .int a6)] 115 []) : ∀ (n : Nat), ∀ (a2 : Int32) (a3 : Int32) (a4 : Int32) (a5 : Int32) (a6 : Int32) (a7 : Int32) (a8 : Int32) (T : Mm), f_X12_userData_l128 k115 n a2 a3 a4 a5 a6 a7 a8 T = some q → Jr x ad false U T [(0, .ref (ad 133)), (2, .int a2), (3, .int a3), (4, .int a4), (5, .int a5), (6, .int a6), (7, .int a7), (8, .int a8)] 128 [] := by
  intro n
  induction n with
  | zero => intro a2 a3 a4 a5 a6 a7 a8 T  h; exact absurd h (by intro h; cases h)
  | succ n ih => exact fun a2 a3 a4 a5 a6 a7 a8 T  h => s_X12_userData_b128 hn9 C M hk115 (ih) a2 a3 a4 a5 a6 a7 a8 T  h
noncomputable def f_X12_userData_b115 (k115 : Int32 → Int32 → Int32 → Int32 → Int32 → Mm → Option (Unit × Mm)) (a2 : Int32) (a3 : Int32) (a4 : Int32) (a5 : Int32) (a6 : Int32) (T : Mm) : Option (Unit × Mm) :=
  if a4 ≤ a6 then (some ((), T))
  else (f_X12_userData_l128 k115 FU a2 a3 a4 a5 a6 0 0 T)
set_option maxRecDepth 100000 in
set_option maxHeartbeats 4000000 in
theorem s_X12_userData_b115 {x : JX} {ad : Nat → Nat} {U : Mm} {S0 : Hp} {q : Unit × Mm}  {k115 : Int32 → Int32 → Int32 → Int32 → Int32 → Mm → Option (Unit × Mm)} (hn9 : x_n x = 9) (C : CB x RX12 cX12_userData) (M : CMr x 2 none S0 ad false U eV q) (hk115 : ∀ (a2 : Int32) (a3 : Int32) (a4 : Int32) (a5 : Int32) (a6 : Int32) (T : Mm), k115 a2 a3 a4 a5 a6 T = some q → Jr x ad false U T [(0, .ref (ad 133)), (2, .int a2), (3, .int a3), (4, .int a4), (5, .int a5), (6, .int a6)] 115 []) (a2 : Int32) (a3 : Int32) (a4 : Int32) (a5 : Int32) (a6 : Int32) (T : Mm) (h : f_X12_userData_b115 k115 a2 a3 a4 a5 a6 T = some q) : Jr x ad false U T [(0, .ref (ad 133)), (2, .int a2), (3, .int a3), (4, .int a4), (5, .int a5), (6, .int a6)] 115 [] := by
  unfold f_X12_userData_b115 at h
  refine r_iload C dX12_userData_115 5 rfl ?_
  refine r_iload C dX12_userData_117 3 rfl ?_
  refine r_ic_ge (tgt := 191) C dX12_userData_119 (by decide) h (fun h => ?_) (fun h => ?_)
  · exact r_vret C M dX12_userData_191 h
  · refine r_iconst (v := 0) C dX12_userData_122 (by decide) ?_
    refine r_istore (lv' := [(7, .int 0), (0, .ref (ad 133)), (2, .int a2), (3, .int a3), (4, .int a4), (5, .int a5), (6, .int a6)]) C dX12_userData_123 (by rw [hn9]; decide) rfl ?_
    refine r_iconst (v := 0) C dX12_userData_125 (by decide) ?_
    refine r_istore (lv' := [(8, .int 0), (7, .int 0), (0, .ref (ad 133)), (2, .int a2), (3, .int a3), (4, .int a4), (5, .int a5), (6, .int a6)]) C dX12_userData_126 (by rw [hn9]; decide) rfl ?_
    refine Jr.sub [2, 3, 4, 5, 6, 7, 1, 0] (lv' := [(0, .ref (ad 133)), (2, .int a2), (3, .int a3), (4, .int a4), (5, .int a5), (6, .int a6), (7, .int 0), (8, .int 0)]) rfl ?_
    exact s_X12_userData_l128 hn9 C M hk115 FU a2 a3 a4 a5 a6 0 0 T h
noncomputable def f_X12_userData_l115 (n : Nat) : Int32 → Int32 → Int32 → Int32 → Int32 → Mm → Option (Unit × Mm) := Nat.rec (fun _ _ _ _ _ _ => none) (fun _ ih => f_X12_userData_b115 ih) n
theorem s_X12_userData_l115 {x : JX} {ad : Nat → Nat} {U : Mm} {S0 : Hp} {q : Unit × Mm}  (hn9 : x_n x = 9) (C : CB x RX12 cX12_userData) (M : CMr x 2 none S0 ad false U eV q) : ∀ (n : Nat), ∀ (a2 : Int32) (a3 : Int32) (a4 : Int32) (a5 : Int32) (a6 : Int32) (T : Mm), f_X12_userData_l115  n a2 a3 a4 a5 a6 T = some q → Jr x ad false U T [(0, .ref (ad 133)), (2, .int a2), (3, .int a3), (4, .int a4), (5, .int a5), (6, .int a6)] 115 [] := by
  intro n
  induction n with
  | zero => intro a2 a3 a4 a5 a6 T  h; exact absurd h (by intro h; cases h)
  | succ n ih => exact fun a2 a3 a4 a5 a6 T  h => s_X12_userData_b115 hn9 C M (ih) a2 a3 a4 a5 a6 T  h
noncomputable def f_X12_userData (p1 : Int32) (T : Mm) : Option (Unit × Mm) :=
  lb ((gA T 134 144)) fun v1 =>
  if v1 < 0 then (some ((), T))
  else (if 15 < v1 then (some ((), T))
  else (if 2 ≤ p1 then (bd (f_X12_dataAt 0 T) fun v2 T3 =>
  bd (f_X12_dataAt 1 T3) fun v4 T5 =>
  lb (((v2 + 7) / 8)) fun v6 =>
  if v2 < 1 then (some ((), T5))
  else (if 16 < v2 then (some ((), T5))
  else (if v4 < 1 then (some ((), T5))
  else (if 16 < v4 then (some ((), T5))
  else (if ((2 : Int32) + (v6 * v4)) ≤ p1 then (ix v1 16 fun j7 => lb (uA T5 143 j7 (1)) fun T9 =>
  ix v1 16 fun j10 => lb (uA T9 144 j10 (1)) fun T12 =>
  ix v1 16 fun j13 => lb (uA T12 145 j13 (v2)) fun T15 =>
  ix v1 16 fun j16 => lb (uA T15 146 j16 (v4)) fun T18 =>
  f_X12_userData_l115 FU v1 v2 v4 v6 0 T18)
  else (some ((), T5)))))))
  else (some ((), T))))
set_option maxRecDepth 100000 in
set_option maxHeartbeats 4000000 in
theorem s_X12_userData {ad : Nat → Nat} {U T : Mm} {q : Unit × Mm}  (p1 : Int32) (h : f_X12_userData p1 T = some q) : Cr 2 yX12_userData cX12_userData 9 none [.ref (ad 133), .int p1] ad false U T eV q := by
  refine cr_of (by decide) (Nat.le_of_ble_eq_true rfl) fun x S0 hn9 C M => ?_
  have C : CB x RX12 cX12_userData := C
  refine Jr.eq (lv' := [(0, .ref (ad 133)), (1, .int p1)]) (st' := []) rfl rfl ?_
  unfold f_X12_userData at h
  refine r_aload_n C dX12_userData_0 rfl 0 rfl ?_
  refine r_getp (f := 1200) (j := 134) C flX12_9 dX12_userData_1 kq_133 (by decide) rfl (fun W => pt_1200 kq_133 W) ?_
  refine r_sipush (v := 144) C dX12_userData_4 (by decide) ?_
  refine r_ialdc (n := 192) C 144 dX12_userData_7 kq_134 lq_134 (vp_lit (by decide)) (by decide) ?_
  refine r_lbI h (fun v1 h => ?_)
  refine r_istore_n (lv' := [(2, .int v1), (0, .ref (ad 133)), (1, .int p1)]) C dX12_userData_8 rfl (by rw [hn9]; decide) rfl ?_
  show Jr _ _ _ _ _ _ 9 _
  refine r_iload_n C dX12_userData_9 rfl 0 rfl ?_
  refine r_if_lt (tgt := 24) C dX12_userData_10 (by decide) h (fun h => ?_) (fun h => ?_)
  · exact r_vret C M dX12_userData_24 h
  · refine r_iload_n C dX12_userData_13 rfl 0 rfl ?_
    refine r_bipush (v := 15) C dX12_userData_14 (by decide) ?_
    refine r_ic_gt (tgt := 24) C dX12_userData_16 (by decide) h (fun h => ?_) (fun h => ?_)
    · exact r_vret C M dX12_userData_24 h
    · refine r_iload_n C dX12_userData_19 rfl 2 rfl ?_
      refine r_iconst (v := 2) C dX12_userData_20 (by decide) ?_
      refine r_ic_ge (tgt := 25) C dX12_userData_21 (by decide) h (fun h => ?_) (fun h => ?_)
      · refine r_aload_n C dX12_userData_25 rfl 1 rfl ?_
        refine r_iconst (v := 0) C dX12_userData_26 (by decide) ?_
        refine r_callVI C M h [.int 0] [] mlX12_484 mcX12_dataAt (fun q9 e9 => s_X12_dataAt 0  e9) kq_133 rfl (by decide) (by decide) rfl rfl (Nat.le_of_ble_eq_true rfl) dX12_userData_27 (fun v2 T3 h => ?_)
        refine r_istore_n (lv' := [(3, .int v2), (2, .int v1), (0, .ref (ad 133)), (1, .int p1)]) C dX12_userData_30 rfl (by rw [hn9]; decide) rfl ?_
        refine r_aload_n C dX12_userData_31 rfl 2 rfl ?_
        show Jr _ _ _ _ _ _ 32 _
        refine r_iconst (v := 1) C dX12_userData_32 (by decide) ?_
        refine r_callVI C M h [.int 1] [] mlX12_484 mcX12_dataAt (fun q9 e9 => s_X12_dataAt 1  e9) kq_133 rfl (by decide) (by decide) rfl rfl (Nat.le_of_ble_eq_true rfl) dX12_userData_33 (fun v4 T5 h => ?_)
        refine r_istore (lv' := [(4, .int v4), (3, .int v2), (2, .int v1), (0, .ref (ad 133)), (1, .int p1)]) C dX12_userData_36 (by rw [hn9]; decide) rfl ?_
        refine r_iload_n C dX12_userData_38 rfl 1 rfl ?_
        refine r_bipush (v := 7) C dX12_userData_39 (by decide) ?_
        refine r_iadd C dX12_userData_41 rfl ?_
        show Jr _ _ _ _ _ _ 42 _
        refine r_bipush (v := 8) C dX12_userData_42 (by decide) ?_
        refine r_idiv C dX12_userData_44 (by decide) rfl ?_
        refine r_lbI h (fun v6 h => ?_)
        refine r_istore (lv' := [(5, .int v6), (4, .int v4), (3, .int v2), (2, .int v1), (0, .ref (ad 133)), (1, .int p1)]) C dX12_userData_45 (by rw [hn9]; decide) rfl ?_
        refine r_iload_n C dX12_userData_47 rfl 2 rfl ?_
        refine r_iconst (v := 1) C dX12_userData_48 (by decide) ?_
        refine r_ic_lt (tgt := 82) C dX12_userData_49 (by decide) h (fun h => ?_) (fun h => ?_)
        · exact r_vret C M dX12_userData_82 h
        · refine r_iload_n C dX12_userData_52 rfl 2 rfl ?_
          refine r_bipush (v := 16) C dX12_userData_53 (by decide) ?_
          refine r_ic_gt (tgt := 82) C dX12_userData_55 (by decide) h (fun h => ?_) (fun h => ?_)
          · exact r_vret C M dX12_userData_82 h
          · refine r_iload C dX12_userData_58 1 rfl ?_
            refine r_iconst (v := 1) C dX12_userData_60 (by decide) ?_
            refine r_ic_lt (tgt := 82) C dX12_userData_61 (by decide) h (fun h => ?_) (fun h => ?_)
            · exact r_vret C M dX12_userData_82 h
            · refine r_iload C dX12_userData_64 1 rfl ?_
              refine r_bipush (v := 16) C dX12_userData_66 (by decide) ?_
              refine r_ic_gt (tgt := 82) C dX12_userData_68 (by decide) h (fun h => ?_) (fun h => ?_)
              · exact r_vret C M dX12_userData_82 h
              · refine r_iload_n C dX12_userData_71 rfl 5 rfl ?_
                refine r_iconst (v := 2) C dX12_userData_72 (by decide) ?_
                refine r_iload C dX12_userData_73 0 rfl ?_
                refine r_iload C dX12_userData_75 1 rfl ?_
                refine r_imul C dX12_userData_77 rfl ?_
                show Jr _ _ _ _ _ _ 78 _
                refine r_iadd C dX12_userData_78 rfl ?_
                refine r_ic_ge (tgt := 83) C dX12_userData_79 (by decide) h (fun h => ?_) (fun h => ?_)
                · refine r_aload_n C dX12_userData_83 rfl 4 rfl ?_
                  refine r_getp (f := 1210) (j := 143) C flX12_38 dX12_userData_84 kq_133 (by decide) rfl (fun W => pt_1210 kq_133 W) ?_
                  refine r_iload_n C dX12_userData_87 rfl 3 rfl ?_
                  refine r_iconst (v := 1) C dX12_userData_88 (by decide) ?_
                  refine r_zast (n := 16) C dX12_userData_89 kq_143 lq_143 (by decide) h (fun j7 T9 hj8 h => ?_)
                  show Jr _ _ _ _ _ _ 90 _
                  refine r_aload_n C dX12_userData_90 rfl 4 rfl ?_
                  refine r_getp (f := 1211) (j := 144) C flX12_41 dX12_userData_91 kq_133 (by decide) rfl (fun W => pt_1211 kq_133 W) ?_
                  refine r_iload_n C dX12_userData_94 rfl 3 rfl ?_
                  refine r_iconst (v := 1) C dX12_userData_95 (by decide) ?_
                  refine r_zast (n := 16) C dX12_userData_96 kq_144 lq_144 (by decide) h (fun j10 T12 hj11 h => ?_)
                  refine r_aload_n C dX12_userData_97 rfl 4 rfl ?_
                  show Jr _ _ _ _ _ _ 98 _
                  refine r_getp (f := 1212) (j := 145) C flX12_44 dX12_userData_98 kq_133 (by decide) rfl (fun W => pt_1212 kq_133 W) ?_
                  refine r_iload_n C dX12_userData_101 rfl 3 rfl ?_
                  refine r_iload_n C dX12_userData_102 rfl 2 rfl ?_
                  refine r_iast (n := 16) C dX12_userData_103 kq_145 lq_145 h (fun j13 T15 hj14 h => ?_)
                  refine r_aload_n C dX12_userData_104 rfl 4 rfl ?_
                  refine r_getp (f := 1213) (j := 146) C flX12_47 dX12_userData_105 kq_133 (by decide) rfl (fun W => pt_1213 kq_133 W) ?_
                  show Jr _ _ _ _ _ _ 108 _
                  refine r_iload_n C dX12_userData_108 rfl 3 rfl ?_
                  refine r_iload C dX12_userData_109 1 rfl ?_
                  refine r_iast (n := 16) C dX12_userData_111 kq_146 lq_146 h (fun j16 T18 hj17 h => ?_)
                  refine r_iconst (v := 0) C dX12_userData_112 (by decide) ?_
                  refine r_istore (lv' := [(6, .int 0), (5, .int v6), (4, .int v4), (3, .int v2), (2, .int v1), (0, .ref (ad 133)), (1, .int p1)]) C dX12_userData_113 (by rw [hn9]; decide) rfl ?_
                  refine Jr.sub [5, 4, 3, 2, 1, 0] (lv' := [(0, .ref (ad 133)), (2, .int v1), (3, .int v2), (4, .int v4), (5, .int v6), (6, .int 0)]) rfl ?_
                  exact s_X12_userData_l115 hn9 C M  FU v1 v2 v4 v6 0 T18 h
                · exact r_vret C M dX12_userData_82 h
      · exact r_vret C M dX12_userData_24 h
theorem dX12_begin_0 : decode cX12_begin 0 = .ok (.iload_n 1, 1) := by decide +kernel
theorem dX12_begin_1 : decode cX12_begin 1 = .ok (.ifCond .eq 8, 3) := by decide +kernel
theorem dX12_begin_4 : decode cX12_begin 4 = .ok (.aload_n 0, 1) := by decide +kernel
theorem dX12_begin_5 : decode cX12_begin 5 = .ok (.lconst 0, 1) := by decide +kernel
theorem dX12_begin_6 : decode cX12_begin 6 = .ok (.invokevirtual 210, 3) := by decide +kernel
theorem dX12_begin_9 : decode cX12_begin 9 = .ok (.aload_n 0, 1) := by decide +kernel
theorem dX12_begin_10 : decode cX12_begin 10 = .ok (.getfield 9, 3) := by decide +kernel
theorem dX12_begin_13 : decode cX12_begin 13 = .ok (.bipush 57, 2) := by decide +kernel
theorem dX12_begin_15 : decode cX12_begin 15 = .ok (.iconst 1, 1) := by decide +kernel
theorem dX12_begin_16 : decode cX12_begin 16 = .ok (.iastore, 1) := by decide +kernel
theorem dX12_begin_17 : decode cX12_begin 17 = .ok (.aload_n 0, 1) := by decide +kernel
theorem dX12_begin_18 : decode cX12_begin 18 = .ok (.getfield 9, 3) := by decide +kernel
theorem dX12_begin_21 : decode cX12_begin 21 = .ok (.bipush 58, 2) := by decide +kernel
theorem dX12_begin_23 : decode cX12_begin 23 = .ok (.aload_n 0, 1) := by decide +kernel
theorem dX12_begin_24 : decode cX12_begin 24 = .ok (.getfield 9, 3) := by decide +kernel
theorem dX12_begin_27 : decode cX12_begin 27 = .ok (.sipush 189, 3) := by decide +kernel
theorem dX12_begin_30 : decode cX12_begin 30 = .ok (.iaload, 1) := by decide +kernel
theorem dX12_begin_31 : decode cX12_begin 31 = .ok (.bipush 96, 2) := by decide +kernel
theorem dX12_begin_33 : decode cX12_begin 33 = .ok (.idiv, 1) := by decide +kernel
theorem dX12_begin_34 : decode cX12_begin 34 = .ok (.iastore, 1) := by decide +kernel
theorem dX12_begin_35 : decode cX12_begin 35 = .ok (.aload_n 0, 1) := by decide +kernel
theorem dX12_begin_36 : decode cX12_begin 36 = .ok (.getfield 9, 3) := by decide +kernel
theorem dX12_begin_39 : decode cX12_begin 39 = .ok (.bipush 59, 2) := by decide +kernel
theorem dX12_begin_41 : decode cX12_begin 41 = .ok (.iconst 0, 1) := by decide +kernel
theorem dX12_begin_42 : decode cX12_begin 42 = .ok (.iastore, 1) := by decide +kernel
theorem dX12_begin_43 : decode cX12_begin 43 = .ok (.iconst 0, 1) := by decide +kernel
theorem dX12_begin_44 : decode cX12_begin 44 = .ok (.istore_n 2, 1) := by decide +kernel
theorem dX12_begin_45 : decode cX12_begin 45 = .ok (.iload_n 2, 1) := by decide +kernel
theorem dX12_begin_46 : decode cX12_begin 46 = .ok (.bipush 80, 2) := by decide +kernel
theorem dX12_begin_48 : decode cX12_begin 48 = .ok (.if_icmp .ge 19, 3) := by decide +kernel
theorem dX12_begin_51 : decode cX12_begin 51 = .ok (.aload_n 0, 1) := by decide +kernel
theorem dX12_begin_52 : decode cX12_begin 52 = .ok (.getfield 9, 3) := by decide +kernel
theorem dX12_begin_55 : decode cX12_begin 55 = .ok (.bipush 60, 2) := by decide +kernel
theorem dX12_begin_57 : decode cX12_begin 57 = .ok (.iload_n 2, 1) := by decide +kernel
theorem dX12_begin_58 : decode cX12_begin 58 = .ok (.iadd, 1) := by decide +kernel
theorem dX12_begin_59 : decode cX12_begin 59 = .ok (.iconst 0, 1) := by decide +kernel
theorem dX12_begin_60 : decode cX12_begin 60 = .ok (.iastore, 1) := by decide +kernel
theorem dX12_begin_61 : decode cX12_begin 61 = .ok (.iinc 2 1, 3) := by decide +kernel
theorem dX12_begin_64 : decode cX12_begin 64 = .ok (.goto (-19), 3) := by decide +kernel
theorem dX12_begin_67 : decode cX12_begin 67 = .ok (.return_, 1) := by decide +kernel
noncomputable def f_X12_begin_b45 (k45 : Int32 → Mm → Option (Unit × Mm)) (a2 : Int32) (T : Mm) : Option (Unit × Mm) :=
  if 80 ≤ a2 then (some ((), T))
  else (ix ((60 : Int32) + a2) 192 fun j1 => lb (uA T 134 j1 (0)) fun T3 =>
  k45 (a2 + 1) T3)
set_option maxRecDepth 100000 in
set_option maxHeartbeats 4000000 in
theorem s_X12_begin_b45 {x : JX} {ad : Nat → Nat} {U : Mm} {S0 : Hp} {q : Unit × Mm}  {k45 : Int32 → Mm → Option (Unit × Mm)} (hn9 : x_n x = 3) (C : CB x RX12 cX12_begin) (M : CMr x 4 none S0 ad false U eV q) (hk45 : ∀ (a2 : Int32) (T : Mm), k45 a2 T = some q → Jr x ad false U T [(0, .ref (ad 133)), (2, .int a2)] 45 []) (a2 : Int32) (T : Mm) (h : f_X12_begin_b45 k45 a2 T = some q) : Jr x ad false U T [(0, .ref (ad 133)), (2, .int a2)] 45 [] := by
  unfold f_X12_begin_b45 at h
  refine r_iload_n C dX12_begin_45 rfl 1 rfl ?_
  refine r_bipush (v := 80) C dX12_begin_46 (by decide) ?_
  refine r_ic_ge (tgt := 67) C dX12_begin_48 (by decide) h (fun h => ?_) (fun h => ?_)
  · exact r_vret C M dX12_begin_67 h
  · refine r_aload_n C dX12_begin_51 rfl 0 rfl ?_
    refine r_getp (f := 1200) (j := 134) C flX12_9 dX12_begin_52 kq_133 (by decide) rfl (fun W => pt_1200 kq_133 W) ?_
    refine r_bipush (v := 60) C dX12_begin_55 (by decide) ?_
    refine r_iload_n C dX12_begin_57 rfl 1 rfl ?_
    refine r_iadd C dX12_begin_58 rfl ?_
    show Jr _ _ _ _ _ _ 59 _
    refine r_iconst (v := 0) C dX12_begin_59 (by decide) ?_
    refine r_iast (n := 192) C dX12_begin_60 kq_134 lq_134 h (fun j1 T3 hj2 h => ?_)
    refine r_iinc (q := 1) (v := (a2 + 1)) (lv' := [(2, .int (a2 + 1)), (0, .ref (ad 133))]) C dX12_begin_61 rfl (by rw [show Int32.ofInt (1) = 1 by decide]) (by rw [hn9]; decide) rfl ?_
    refine r_goto (tgt := 45) C dX12_begin_64 (by decide) ?_
    refine Jr.sub [1, 0] (lv' := [(0, .ref (ad 133)), (2, .int (a2 + 1))]) rfl ?_
    exact hk45 (a2 + 1) T3 h
noncomputable def f_X12_begin_l45 (n : Nat) : Int32 → Mm → Option (Unit × Mm) := Nat.rec (fun _ _ => none) (fun _ ih => f_X12_begin_b45 ih) n
theorem s_X12_begin_l45 {x : JX} {ad : Nat → Nat} {U : Mm} {S0 : Hp} {q : Unit × Mm}  (hn9 : x_n x = 3) (C : CB x RX12 cX12_begin) (M : CMr x 4 none S0 ad false U eV q) : ∀ (n : Nat), ∀ (a2 : Int32) (T : Mm), f_X12_begin_l45  n a2 T = some q → Jr x ad false U T [(0, .ref (ad 133)), (2, .int a2)] 45 [] := by
  intro n
  induction n with
  | zero => intro a2 T  h; exact absurd h (by intro h; cases h)
  | succ n ih => exact fun a2 T  h => s_X12_begin_b45 hn9 C M (ih) a2 T  h
noncomputable def f_X12_begin_9 (T : Mm) : Option (Unit × Mm) :=
  lb (uA T 134 57 (1)) fun T1 =>
  lb (uA T1 134 58 (((gA T1 134 189) / 96))) fun T2 =>
  lb (uA T2 134 59 (0)) fun T3 =>
  f_X12_begin_l45 FU 0 T3
set_option maxRecDepth 100000 in
set_option maxHeartbeats 4000000 in
theorem s_X12_begin_9 {x : JX} {ad : Nat → Nat} {U : Mm} {S0 : Hp} {q : Unit × Mm}  (hn9 : x_n x = 3) (C : CB x RX12 cX12_begin) (M : CMr x 4 none S0 ad false U eV q) (T : Mm) (h : f_X12_begin_9   T = some q) : Jr x ad false U T [(0, .ref (ad 133))] 9 [] := by
  unfold f_X12_begin_9 at h
  refine r_aload_n C dX12_begin_9 rfl 0 rfl ?_
  refine r_getp (f := 1200) (j := 134) C flX12_9 dX12_begin_10 kq_133 (by decide) rfl (fun W => pt_1200 kq_133 W) ?_
  refine r_bipush (v := 57) C dX12_begin_13 (by decide) ?_
  refine r_iconst (v := 1) C dX12_begin_15 (by decide) ?_
  refine r_iastc (n := 192) C 57 dX12_begin_16 kq_134 lq_134 (vp_lit (by decide)) (by decide) h (fun T1 h => ?_)
  show Jr _ _ _ _ _ _ 17 _
  refine r_aload_n C dX12_begin_17 rfl 0 rfl ?_
  refine r_getp (f := 1200) (j := 134) C flX12_9 dX12_begin_18 kq_133 (by decide) rfl (fun W => pt_1200 kq_133 W) ?_
  refine r_bipush (v := 58) C dX12_begin_21 (by decide) ?_
  refine r_aload_n C dX12_begin_23 rfl 0 rfl ?_
  refine r_getp (f := 1200) (j := 134) C flX12_9 dX12_begin_24 kq_133 (by decide) rfl (fun W => pt_1200 kq_133 W) ?_
  refine r_sipush (v := 189) C dX12_begin_27 (by decide) ?_
  show Jr _ _ _ _ _ _ 30 _
  refine r_ialdc (n := 192) C 189 dX12_begin_30 kq_134 lq_134 (vp_lit (by decide)) (by decide) ?_
  refine r_bipush (v := 96) C dX12_begin_31 (by decide) ?_
  refine r_idiv C dX12_begin_33 (by decide) rfl ?_
  refine r_iastc (n := 192) C 58 dX12_begin_34 kq_134 lq_134 (vp_lit (by decide)) (by decide) h (fun T2 h => ?_)
  refine r_aload_n C dX12_begin_35 rfl 0 rfl ?_
  refine r_getp (f := 1200) (j := 134) C flX12_9 dX12_begin_36 kq_133 (by decide) rfl (fun W => pt_1200 kq_133 W) ?_
  show Jr _ _ _ _ _ _ 39 _
  refine r_bipush (v := 59) C dX12_begin_39 (by decide) ?_
  refine r_iconst (v := 0) C dX12_begin_41 (by decide) ?_
  refine r_iastc (n := 192) C 59 dX12_begin_42 kq_134 lq_134 (vp_lit (by decide)) (by decide) h (fun T3 h => ?_)
  refine r_iconst (v := 0) C dX12_begin_43 (by decide) ?_
  refine r_istore_n (lv' := [(2, .int 0), (0, .ref (ad 133))]) C dX12_begin_44 rfl (by rw [hn9]; decide) rfl ?_
  refine Jr.sub [1, 0] (lv' := [(0, .ref (ad 133)), (2, .int 0)]) rfl ?_
  exact s_X12_begin_l45 hn9 C M  FU 0 T3 h
noncomputable def f_X12_begin (p1 : Int32) (T : Mm) : Option (Unit × Mm) :=
  if p1 = 0 then (f_X12_begin_9 T)
  else (bd (f_X12_setX 0 T) fun _ T1 =>
  f_X12_begin_9 T1)
set_option maxRecDepth 100000 in
set_option maxHeartbeats 4000000 in
theorem s_X12_begin {ad : Nat → Nat} {U T : Mm} {q : Unit × Mm}  (p1 : Int32) (h : f_X12_begin p1 T = some q) : Cr 4 yX12_begin cX12_begin 3 none [.ref (ad 133), .int p1] ad false U T eV q := by
  refine cr_of (by decide) (Nat.le_of_ble_eq_true rfl) fun x S0 hn9 C M => ?_
  have C : CB x RX12 cX12_begin := C
  refine Jr.eq (lv' := [(0, .ref (ad 133)), (1, .int p1)]) (st' := []) rfl rfl ?_
  unfold f_X12_begin at h
  refine r_iload_n C dX12_begin_0 rfl 1 rfl ?_
  refine r_if_eq (tgt := 9) C dX12_begin_1 (by decide) h (fun h => ?_) (fun h => ?_)
  · refine Jr.sub [0] (lv' := [(0, .ref (ad 133))]) rfl ?_
    exact s_X12_begin_9 hn9 C M  T h
  · refine r_aload_n C dX12_begin_4 rfl 0 rfl ?_
    refine r_lconst (v := 0) C dX12_begin_5 (by decide) ?_
    refine r_callVN C M h [.long 0] [] mlX12_210 mcX12_setX (fun q9 e9 => s_X12_setX 0  e9) kq_133 rfl (by decide) (by decide) rfl rfl (Nat.le_of_ble_eq_true rfl) dX12_begin_6 (fun _ T1 h => ?_)
    refine Jr.sub [0] (lv' := [(0, .ref (ad 133))]) rfl ?_
    exact s_X12_begin_9 hn9 C M  T1 h
theorem dX12_fill_0 : decode cX12_fill 0 = .ok (.aload_n 0, 1) := by decide +kernel
theorem dX12_fill_1 : decode cX12_fill 1 = .ok (.getfield 496, 3) := by decide +kernel
theorem dX12_fill_4 : decode cX12_fill 4 = .ok (.bipush 80, 2) := by decide +kernel
theorem dX12_fill_6 : decode cX12_fill 6 = .ok (.if_icmp .ge 16, 3) := by decide +kernel
theorem dX12_fill_9 : decode cX12_fill 9 = .ok (.aload_n 0, 1) := by decide +kernel
theorem dX12_fill_10 : decode cX12_fill 10 = .ok (.getfield 9, 3) := by decide +kernel
theorem dX12_fill_13 : decode cX12_fill 13 = .ok (.bipush 60, 2) := by decide +kernel
theorem dX12_fill_15 : decode cX12_fill 15 = .ok (.aload_n 0, 1) := by decide +kernel
theorem dX12_fill_16 : decode cX12_fill 16 = .ok (.getfield 496, 3) := by decide +kernel
theorem dX12_fill_19 : decode cX12_fill 19 = .ok (.iadd, 1) := by decide +kernel
theorem dX12_fill_20 : decode cX12_fill 20 = .ok (.iload_n 1, 1) := by decide +kernel
theorem dX12_fill_21 : decode cX12_fill 21 = .ok (.iastore, 1) := by decide +kernel
theorem dX12_fill_22 : decode cX12_fill 22 = .ok (.aload_n 0, 1) := by decide +kernel
theorem dX12_fill_23 : decode cX12_fill 23 = .ok (.dup, 1) := by decide +kernel
theorem dX12_fill_24 : decode cX12_fill 24 = .ok (.getfield 496, 3) := by decide +kernel
theorem dX12_fill_27 : decode cX12_fill 27 = .ok (.iconst 1, 1) := by decide +kernel
theorem dX12_fill_28 : decode cX12_fill 28 = .ok (.iadd, 1) := by decide +kernel
theorem dX12_fill_29 : decode cX12_fill 29 = .ok (.putfield 496, 3) := by decide +kernel
theorem dX12_fill_32 : decode cX12_fill 32 = .ok (.return_, 1) := by decide +kernel
noncomputable def f_X12_fill (p1 : Int32) (T : Mm) : Option (Unit × Mm) :=
  if 80 ≤ (gI T 1255 133) then (lb (uI T 1255 133 ((gI T 1255 133) + 1)) fun T1 =>
  some ((), T1))
  else (ix ((60 : Int32) + (gI T 1255 133)) 192 fun j2 => lb (uA T 134 j2 (p1)) fun T4 =>
  lb (uI T4 1255 133 ((gI T4 1255 133) + 1)) fun T5 =>
  some ((), T5))
set_option maxRecDepth 100000 in
set_option maxHeartbeats 4000000 in
theorem s_X12_fill {ad : Nat → Nat} {U T : Mm} {q : Unit × Mm}  (p1 : Int32) (h : f_X12_fill p1 T = some q) : Cr 1 yX12_fill cX12_fill 2 none [.ref (ad 133), .int p1] ad false U T eV q := by
  refine cr_of (by decide) (Nat.le_of_ble_eq_true rfl) fun x S0 hn9 C M => ?_
  have C : CB x RX12 cX12_fill := C
  refine Jr.eq (lv' := [(0, .ref (ad 133)), (1, .int p1)]) (st' := []) rfl rfl ?_
  unfold f_X12_fill at h
  refine r_aload_n C dX12_fill_0 rfl 0 rfl ?_
  refine r_geti (f := 1255) C flX12_496 dX12_fill_1 kq_133 (by decide) (by decide) rfl ?_
  refine r_bipush (v := 80) C dX12_fill_4 (by decide) ?_
  refine r_ic_ge (tgt := 22) C dX12_fill_6 (by decide) h (fun h => ?_) (fun h => ?_)
  · refine r_aload_n C dX12_fill_22 rfl 0 rfl ?_
    refine r_dup C dX12_fill_23 rfl ?_
    refine r_geti (f := 1255) C flX12_496 dX12_fill_24 kq_133 (by decide) (by decide) rfl ?_
    refine r_iconst (v := 1) C dX12_fill_27 (by decide) ?_
    refine r_iadd C dX12_fill_28 rfl ?_
    show Jr _ _ _ _ _ _ 29 _
    refine r_puti (f := 1255) C flX12_496 (by decide) rfl rfl dX12_fill_29 kq_133 rfl h (fun T1 h => ?_)
    exact r_vret C M dX12_fill_32 h
  · refine r_aload_n C dX12_fill_9 rfl 0 rfl ?_
    refine r_getp (f := 1200) (j := 134) C flX12_9 dX12_fill_10 kq_133 (by decide) rfl (fun W => pt_1200 kq_133 W) ?_
    refine r_bipush (v := 60) C dX12_fill_13 (by decide) ?_
    refine r_aload_n C dX12_fill_15 rfl 0 rfl ?_
    refine r_geti (f := 1255) C flX12_496 dX12_fill_16 kq_133 (by decide) (by decide) rfl ?_
    show Jr _ _ _ _ _ _ 19 _
    refine r_iadd C dX12_fill_19 rfl ?_
    refine r_iload_n C dX12_fill_20 rfl 1 rfl ?_
    refine r_iast (n := 192) C dX12_fill_21 kq_134 lq_134 h (fun j2 T4 hj3 h => ?_)
    refine r_aload_n C dX12_fill_22 rfl 0 rfl ?_
    refine r_dup C dX12_fill_23 rfl ?_
    refine r_geti (f := 1255) C flX12_496 dX12_fill_24 kq_133 (by decide) (by decide) rfl ?_
    show Jr _ _ _ _ _ _ 27 _
    refine r_iconst (v := 1) C dX12_fill_27 (by decide) ?_
    refine r_iadd C dX12_fill_28 rfl ?_
    refine r_puti (f := 1255) C flX12_496 (by decide) rfl rfl dX12_fill_29 kq_133 rfl h (fun T5 h => ?_)
    exact r_vret C M dX12_fill_32 h
theorem dX12_changed_0 : decode cX12_changed 0 = .ok (.iconst 0, 1) := by decide +kernel
theorem dX12_changed_1 : decode cX12_changed 1 = .ok (.istore_n 2, 1) := by decide +kernel
theorem dX12_changed_2 : decode cX12_changed 2 = .ok (.iload_n 2, 1) := by decide +kernel
theorem dX12_changed_3 : decode cX12_changed 3 = .ok (.iload_n 1, 1) := by decide +kernel
theorem dX12_changed_4 : decode cX12_changed 4 = .ok (.if_icmp .ge 132, 3) := by decide +kernel
theorem dX12_changed_7 : decode cX12_changed 7 = .ok (.aload_n 0, 1) := by decide +kernel
theorem dX12_changed_8 : decode cX12_changed 8 = .ok (.iload_n 2, 1) := by decide +kernel
theorem dX12_changed_9 : decode cX12_changed 9 = .ok (.invokevirtual 484, 3) := by decide +kernel
theorem dX12_changed_12 : decode cX12_changed 12 = .ok (.istore_n 3, 1) := by decide +kernel
theorem dX12_changed_13 : decode cX12_changed 13 = .ok (.iinc 2 1, 3) := by decide +kernel
theorem dX12_changed_16 : decode cX12_changed 16 = .ok (.iload_n 3, 1) := by decide +kernel
theorem dX12_changed_17 : decode cX12_changed 17 = .ok (.bipush 32, 2) := by decide +kernel
theorem dX12_changed_19 : decode cX12_changed 19 = .ok (.idiv, 1) := by decide +kernel
theorem dX12_changed_20 : decode cX12_changed 20 = .ok (.iconst 1, 1) := by decide +kernel
theorem dX12_changed_21 : decode cX12_changed 21 = .ok (.iadd, 1) := by decide +kernel
theorem dX12_changed_22 : decode cX12_changed 22 = .ok (.istore 4, 2) := by decide +kernel
theorem dX12_changed_24 : decode cX12_changed 24 = .ok (.iload_n 3, 1) := by decide +kernel
theorem dX12_changed_25 : decode cX12_changed 25 = .ok (.bipush 32, 2) := by decide +kernel
theorem dX12_changed_27 : decode cX12_changed 27 = .ok (.irem, 1) := by decide +kernel
theorem dX12_changed_28 : decode cX12_changed 28 = .ok (.istore 5, 2) := by decide +kernel
theorem dX12_changed_30 : decode cX12_changed 30 = .ok (.iload 5, 2) := by decide +kernel
theorem dX12_changed_32 : decode cX12_changed 32 = .ok (.bipush 31, 2) := by decide +kernel
theorem dX12_changed_34 : decode cX12_changed 34 = .ok (.if_icmp .ne 7, 3) := by decide +kernel
theorem dX12_changed_37 : decode cX12_changed 37 = .ok (.iconst 1, 1) := by decide +kernel
theorem dX12_changed_38 : decode cX12_changed 38 = .ok (.goto 4, 3) := by decide +kernel
theorem dX12_changed_41 : decode cX12_changed 41 = .ok (.iconst 0, 1) := by decide +kernel
theorem dX12_changed_42 : decode cX12_changed 42 = .ok (.istore 6, 2) := by decide +kernel
theorem dX12_changed_44 : decode cX12_changed 44 = .ok (.iload 6, 2) := by decide +kernel
theorem dX12_changed_46 : decode cX12_changed 46 = .ok (.ifCond .eq 43, 3) := by decide +kernel
theorem dX12_changed_49 : decode cX12_changed 49 = .ok (.iload_n 2, 1) := by decide +kernel
theorem dX12_changed_50 : decode cX12_changed 50 = .ok (.iload_n 1, 1) := by decide +kernel
theorem dX12_changed_51 : decode cX12_changed 51 = .ok (.if_icmp .ge 38, 3) := by decide +kernel
theorem dX12_changed_54 : decode cX12_changed 54 = .ok (.aload_n 0, 1) := by decide +kernel
theorem dX12_changed_55 : decode cX12_changed 55 = .ok (.iload_n 2, 1) := by decide +kernel
theorem dX12_changed_56 : decode cX12_changed 56 = .ok (.invokevirtual 484, 3) := by decide +kernel
theorem dX12_changed_59 : decode cX12_changed 59 = .ok (.istore 7, 2) := by decide +kernel
theorem dX12_changed_61 : decode cX12_changed 61 = .ok (.iinc 2 1, 3) := by decide +kernel
theorem dX12_changed_64 : decode cX12_changed 64 = .ok (.iload 5, 2) := by decide +kernel
theorem dX12_changed_66 : decode cX12_changed 66 = .ok (.iload 7, 2) := by decide +kernel
theorem dX12_changed_68 : decode cX12_changed 68 = .ok (.iadd, 1) := by decide +kernel
theorem dX12_changed_69 : decode cX12_changed 69 = .ok (.istore 5, 2) := by decide +kernel
theorem dX12_changed_71 : decode cX12_changed 71 = .ok (.iload 7, 2) := by decide +kernel
theorem dX12_changed_73 : decode cX12_changed 73 = .ok (.sipush 255, 3) := by decide +kernel
theorem dX12_changed_76 : decode cX12_changed 76 = .ok (.if_icmp .ne 7, 3) := by decide +kernel
theorem dX12_changed_79 : decode cX12_changed 79 = .ok (.iconst 1, 1) := by decide +kernel
theorem dX12_changed_80 : decode cX12_changed 80 = .ok (.goto 4, 3) := by decide +kernel
theorem dX12_changed_83 : decode cX12_changed 83 = .ok (.iconst 0, 1) := by decide +kernel
theorem dX12_changed_84 : decode cX12_changed 84 = .ok (.istore 6, 2) := by decide +kernel
theorem dX12_changed_86 : decode cX12_changed 86 = .ok (.goto (-42), 3) := by decide +kernel
theorem dX12_changed_89 : decode cX12_changed 89 = .ok (.aload_n 0, 1) := by decide +kernel
theorem dX12_changed_90 : decode cX12_changed 90 = .ok (.dup, 1) := by decide +kernel
theorem dX12_changed_91 : decode cX12_changed 91 = .ok (.getfield 496, 3) := by decide +kernel
theorem dX12_changed_94 : decode cX12_changed 94 = .ok (.iload 5, 2) := by decide +kernel
theorem dX12_changed_96 : decode cX12_changed 96 = .ok (.iadd, 1) := by decide +kernel
theorem dX12_changed_97 : decode cX12_changed 97 = .ok (.putfield 496, 3) := by decide +kernel
theorem dX12_changed_100 : decode cX12_changed 100 = .ok (.iconst 0, 1) := by decide +kernel
theorem dX12_changed_101 : decode cX12_changed 101 = .ok (.istore 7, 2) := by decide +kernel
theorem dX12_changed_103 : decode cX12_changed 103 = .ok (.iload 7, 2) := by decide +kernel
theorem dX12_changed_105 : decode cX12_changed 105 = .ok (.iload 4, 2) := by decide +kernel
theorem dX12_changed_107 : decode cX12_changed 107 = .ok (.if_icmp .ge 26, 3) := by decide +kernel
theorem dX12_changed_110 : decode cX12_changed 110 = .ok (.iload_n 2, 1) := by decide +kernel
theorem dX12_changed_111 : decode cX12_changed 111 = .ok (.iload_n 1, 1) := by decide +kernel
theorem dX12_changed_112 : decode cX12_changed 112 = .ok (.if_icmp .ge 21, 3) := by decide +kernel
theorem dX12_changed_115 : decode cX12_changed 115 = .ok (.aload_n 0, 1) := by decide +kernel
theorem dX12_changed_116 : decode cX12_changed 116 = .ok (.aload_n 0, 1) := by decide +kernel
theorem dX12_changed_117 : decode cX12_changed 117 = .ok (.iload_n 2, 1) := by decide +kernel
theorem dX12_changed_118 : decode cX12_changed 118 = .ok (.invokevirtual 484, 3) := by decide +kernel
theorem dX12_changed_121 : decode cX12_changed 121 = .ok (.invokevirtual 502, 3) := by decide +kernel
theorem dX12_changed_124 : decode cX12_changed 124 = .ok (.iinc 2 1, 3) := by decide +kernel
theorem dX12_changed_127 : decode cX12_changed 127 = .ok (.iinc 7 1, 3) := by decide +kernel
theorem dX12_changed_130 : decode cX12_changed 130 = .ok (.goto (-27), 3) := by decide +kernel
theorem dX12_changed_133 : decode cX12_changed 133 = .ok (.goto (-131), 3) := by decide +kernel
theorem dX12_changed_136 : decode cX12_changed 136 = .ok (.return_, 1) := by decide +kernel
noncomputable def f_X12_changed_b103 (k2 : Int32 → Int32 → Mm → Option (Unit × Mm)) (k103 : Int32 → Int32 → Int32 → Int32 → Mm → Option (Unit × Mm)) (a1 : Int32) (a2 : Int32) (a4 : Int32) (a7 : Int32) (T : Mm) : Option (Unit × Mm) :=
  if a4 ≤ a7 then (k2 a1 a2 T)
  else (if a1 ≤ a2 then (k2 a1 a2 T)
  else (bd (f_X12_dataAt a2 T) fun v1 T2 =>
  bd (f_X12_fill v1 T2) fun _ T3 =>
  k103 a1 (a2 + 1) a4 (a7 + 1) T3))
set_option maxRecDepth 100000 in
set_option maxHeartbeats 4000000 in
theorem s_X12_changed_b103 {x : JX} {ad : Nat → Nat} {U : Mm} {S0 : Hp} {q : Unit × Mm}  {k2 : Int32 → Int32 → Mm → Option (Unit × Mm)} {k103 : Int32 → Int32 → Int32 → Int32 → Mm → Option (Unit × Mm)} (hn9 : x_n x = 8) (C : CB x RX12 cX12_changed) (M : CMr x 2 none S0 ad false U eV q) (hk2 : ∀ (a1 : Int32) (a2 : Int32) (T : Mm), k2 a1 a2 T = some q → Jr x ad false U T [(0, .ref (ad 133)), (1, .int a1), (2, .int a2)] 2 []) (hk103 : ∀ (a1 : Int32) (a2 : Int32) (a4 : Int32) (a7 : Int32) (T : Mm), k103 a1 a2 a4 a7 T = some q → Jr x ad false U T [(0, .ref (ad 133)), (1, .int a1), (2, .int a2), (4, .int a4), (7, .int a7)] 103 []) (a1 : Int32) (a2 : Int32) (a4 : Int32) (a7 : Int32) (T : Mm) (h : f_X12_changed_b103 k2 k103 a1 a2 a4 a7 T = some q) : Jr x ad false U T [(0, .ref (ad 133)), (1, .int a1), (2, .int a2), (4, .int a4), (7, .int a7)] 103 [] := by
  unfold f_X12_changed_b103 at h
  refine r_iload C dX12_changed_103 4 rfl ?_
  refine r_iload C dX12_changed_105 3 rfl ?_
  refine r_ic_ge (tgt := 133) C dX12_changed_107 (by decide) h (fun h => ?_) (fun h => ?_)
  · refine r_goto (tgt := 2) C dX12_changed_133 (by decide) ?_
    refine Jr.sub [0, 1, 2] (lv' := [(0, .ref (ad 133)), (1, .int a1), (2, .int a2)]) rfl ?_
    exact hk2 a1 a2 T h
  · refine r_iload_n C dX12_changed_110 rfl 2 rfl ?_
    refine r_iload_n C dX12_changed_111 rfl 1 rfl ?_
    refine r_ic_ge (tgt := 133) C dX12_changed_112 (by decide) h (fun h => ?_) (fun h => ?_)
    · refine r_goto (tgt := 2) C dX12_changed_133 (by decide) ?_
      refine Jr.sub [0, 1, 2] (lv' := [(0, .ref (ad 133)), (1, .int a1), (2, .int a2)]) rfl ?_
      exact hk2 a1 a2 T h
    · refine r_aload_n C dX12_changed_115 rfl 0 rfl ?_
      refine r_aload_n C dX12_changed_116 rfl 0 rfl ?_
      refine r_iload_n C dX12_changed_117 rfl 2 rfl ?_
      refine r_callVI C M h [.int a2] [.ref (ad 133)] mlX12_484 mcX12_dataAt (fun q9 e9 => s_X12_dataAt a2  e9) kq_133 rfl (by decide) (by decide) rfl rfl (Nat.le_of_ble_eq_true rfl) dX12_changed_118 (fun v1 T2 h => ?_)
      refine r_callVN C M h [.int v1] [] mlX12_502 mcX12_fill (fun q9 e9 => s_X12_fill v1  e9) kq_133 rfl (by decide) (by decide) rfl rfl (Nat.le_of_ble_eq_true rfl) dX12_changed_121 (fun _ T3 h => ?_)
      show Jr _ _ _ _ _ _ 124 _
      refine r_iinc (q := 2) (v := (a2 + 1)) (lv' := [(2, .int (a2 + 1)), (0, .ref (ad 133)), (1, .int a1), (4, .int a4), (7, .int a7)]) C dX12_changed_124 rfl (by rw [show Int32.ofInt (1) = 1 by decide]) (by rw [hn9]; decide) rfl ?_
      refine r_iinc (q := 4) (v := (a7 + 1)) (lv' := [(7, .int (a7 + 1)), (2, .int (a2 + 1)), (0, .ref (ad 133)), (1, .int a1), (4, .int a4)]) C dX12_changed_127 rfl (by rw [show Int32.ofInt (1) = 1 by decide]) (by rw [hn9]; decide) rfl ?_
      refine r_goto (tgt := 103) C dX12_changed_130 (by decide) ?_
      refine Jr.sub [2, 3, 1, 4, 0] (lv' := [(0, .ref (ad 133)), (1, .int a1), (2, .int (a2 + 1)), (4, .int a4), (7, .int (a7 + 1))]) rfl ?_
      exact hk103 a1 (a2 + 1) a4 (a7 + 1) T3 h
noncomputable def f_X12_changed_l103 (k2 : Int32 → Int32 → Mm → Option (Unit × Mm)) (n : Nat) : Int32 → Int32 → Int32 → Int32 → Mm → Option (Unit × Mm) := Nat.rec (fun _ _ _ _ _ => none) (fun _ ih => f_X12_changed_b103 k2 ih) n
theorem s_X12_changed_l103 {x : JX} {ad : Nat → Nat} {U : Mm} {S0 : Hp} {q : Unit × Mm}  {k2 : Int32 → Int32 → Mm → Option (Unit × Mm)} (hn9 : x_n x = 8) (C : CB x RX12 cX12_changed) (M : CMr x 2 none S0 ad false U eV q) (hk2 : ∀ (a1 : Int32) (a2 : Int32) (T : Mm), k2 a1 a2 T = some q → Jr x ad false U T [(0, .ref (ad 133)), (1, .int a1), (2, .int a2)] 2 []) : ∀ (n : Nat), ∀ (a1 : Int32) (a2 : Int32) (a4 : Int32) (a7 : Int32) (T : Mm), f_X12_changed_l103 k2 n a1 a2 a4 a7 T = some q → Jr x ad false U T [(0, .ref (ad 133)), (1, .int a1), (2, .int a2), (4, .int a4), (7, .int a7)] 103 [] := by
  intro n
  induction n with
  | zero => intro a1 a2 a4 a7 T  h; exact absurd h (by intro h; cases h)
  | succ n ih => exact fun a1 a2 a4 a7 T  h => s_X12_changed_b103 hn9 C M hk2 (ih) a1 a2 a4 a7 T  h
noncomputable def f_X12_changed_b44 (k2 : Int32 → Int32 → Mm → Option (Unit × Mm)) (k44 : Int32 → Int32 → Int32 → Int32 → Int32 → Mm → Option (Unit × Mm)) (a1 : Int32) (a2 : Int32) (a4 : Int32) (a5 : Int32) (a6 : Int32) (T : Mm) : Option (Unit × Mm) :=
  if a6 = 0 then (lb (uI T 1255 133 ((gI T 1255 133) + a5)) fun T1 =>
  f_X12_changed_l103 k2 FU a1 a2 a4 0 T1)
  else (if a1 ≤ a2 then (lb (uI T 1255 133 ((gI T 1255 133) + a5)) fun T2 =>
  f_X12_changed_l103 k2 FU a1 a2 a4 0 T2)
  else (bd (f_X12_dataAt a2 T) fun v3 T4 =>
  lb ((a5 + v3)) fun v5 =>
  if v3 = 255 then (k44 a1 (a2 + 1) a4 v5 1 T4)
  else (k44 a1 (a2 + 1) a4 v5 0 T4)))
set_option maxRecDepth 100000 in
set_option maxHeartbeats 4000000 in
theorem s_X12_changed_b44 {x : JX} {ad : Nat → Nat} {U : Mm} {S0 : Hp} {q : Unit × Mm}  {k2 : Int32 → Int32 → Mm → Option (Unit × Mm)} {k44 : Int32 → Int32 → Int32 → Int32 → Int32 → Mm → Option (Unit × Mm)} (hn9 : x_n x = 8) (C : CB x RX12 cX12_changed) (M : CMr x 2 none S0 ad false U eV q) (hk2 : ∀ (a1 : Int32) (a2 : Int32) (T : Mm), k2 a1 a2 T = some q → Jr x ad false U T [(0, .ref (ad 133)), (1, .int a1), (2, .int a2)] 2 []) (hk44 : ∀ (a1 : Int32) (a2 : Int32) (a4 : Int32) (a5 : Int32) (a6 : Int32) (T : Mm), k44 a1 a2 a4 a5 a6 T = some q → Jr x ad false U T [(0, .ref (ad 133)), (1, .int a1), (2, .int a2), (4, .int a4), (5, .int a5), (6, .int a6)] 44 []) (a1 : Int32) (a2 : Int32) (a4 : Int32) (a5 : Int32) (a6 : Int32) (T : Mm) (h : f_X12_changed_b44 k2 k44 a1 a2 a4 a5 a6 T = some q) : Jr x ad false U T [(0, .ref (ad 133)), (1, .int a1), (2, .int a2), (4, .int a4), (5, .int a5), (6, .int a6)] 44 [] := by
  unfold f_X12_changed_b44 at h
  refine r_iload C dX12_changed_44 5 rfl ?_
  refine r_if_eq (tgt := 89) C dX12_changed_46 (by decide) h (fun h => ?_) (fun h => ?_)
  · refine r_aload_n C dX12_changed_89 rfl 0 rfl ?_
    refine r_dup C dX12_changed_90 rfl ?_
    refine r_geti (f := 1255) C flX12_496 dX12_changed_91 kq_133 (by decide) (by decide) rfl ?_
    refine r_iload C dX12_changed_94 4 rfl ?_
    refine r_iadd C dX12_changed_96 rfl ?_
    show Jr _ _ _ _ _ _ 97 _
    refine r_puti (f := 1255) C flX12_496 (by decide) rfl rfl dX12_changed_97 kq_133 rfl h (fun T1 h => ?_)
    refine r_iconst (v := 0) C dX12_changed_100 (by decide) ?_
    refine r_istore (lv' := [(7, .int 0), (0, .ref (ad 133)), (1, .int a1), (2, .int a2), (4, .int a4), (5, .int a5), (6, .int a6)]) C dX12_changed_101 (by rw [hn9]; decide) rfl ?_
    refine Jr.sub [1, 2, 3, 4, 0] (lv' := [(0, .ref (ad 133)), (1, .int a1), (2, .int a2), (4, .int a4), (7, .int 0)]) rfl ?_
    exact s_X12_changed_l103 hn9 C M hk2 FU a1 a2 a4 0 T1 h
  · refine r_iload_n C dX12_changed_49 rfl 2 rfl ?_
    refine r_iload_n C dX12_changed_50 rfl 1 rfl ?_
    refine r_ic_ge (tgt := 89) C dX12_changed_51 (by decide) h (fun h => ?_) (fun h => ?_)
    · refine r_aload_n C dX12_changed_89 rfl 0 rfl ?_
      refine r_dup C dX12_changed_90 rfl ?_
      refine r_geti (f := 1255) C flX12_496 dX12_changed_91 kq_133 (by decide) (by decide) rfl ?_
      refine r_iload C dX12_changed_94 4 rfl ?_
      refine r_iadd C dX12_changed_96 rfl ?_
      show Jr _ _ _ _ _ _ 97 _
      refine r_puti (f := 1255) C flX12_496 (by decide) rfl rfl dX12_changed_97 kq_133 rfl h (fun T2 h => ?_)
      refine r_iconst (v := 0) C dX12_changed_100 (by decide) ?_
      refine r_istore (lv' := [(7, .int 0), (0, .ref (ad 133)), (1, .int a1), (2, .int a2), (4, .int a4), (5, .int a5), (6, .int a6)]) C dX12_changed_101 (by rw [hn9]; decide) rfl ?_
      refine Jr.sub [1, 2, 3, 4, 0] (lv' := [(0, .ref (ad 133)), (1, .int a1), (2, .int a2), (4, .int a4), (7, .int 0)]) rfl ?_
      exact s_X12_changed_l103 hn9 C M hk2 FU a1 a2 a4 0 T2 h
    · refine r_aload_n C dX12_changed_54 rfl 0 rfl ?_
      refine r_iload_n C dX12_changed_55 rfl 2 rfl ?_
      refine r_callVI C M h [.int a2] [] mlX12_484 mcX12_dataAt (fun q9 e9 => s_X12_dataAt a2  e9) kq_133 rfl (by decide) (by decide) rfl rfl (Nat.le_of_ble_eq_true rfl) dX12_changed_56 (fun v3 T4 h => ?_)
      refine r_istore (lv' := [(7, .int v3), (0, .ref (ad 133)), (1, .int a1), (2, .int a2), (4, .int a4), (5, .int a5), (6, .int a6)]) C dX12_changed_59 (by rw [hn9]; decide) rfl ?_
      refine r_iinc (q := 3) (v := (a2 + 1)) (lv' := [(2, .int (a2 + 1)), (7, .int v3), (0, .ref (ad 133)), (1, .int a1), (4, .int a4), (5, .int a5), (6, .int a6)]) C dX12_changed_61 rfl (by rw [show Int32.ofInt (1) = 1 by decide]) (by rw [hn9]; decide) rfl ?_
      show Jr _ _ _ _ _ _ 64 _
      refine r_iload C dX12_changed_64 5 rfl ?_
      refine r_iload C dX12_changed_66 1 rfl ?_
      refine r_iadd C dX12_changed_68 rfl ?_
      refine r_lbI h (fun v5 h => ?_)
      refine r_istore (lv' := [(5, .int v5), (2, .int (a2 + 1)), (7, .int v3), (0, .ref (ad 133)), (1, .int a1), (4, .int a4), (6, .int a6)]) C dX12_changed_69 (by rw [hn9]; decide) rfl ?_
      refine r_iload C dX12_changed_71 2 rfl ?_
      refine r_sipush (v := 255) C dX12_changed_73 (by decide) ?_
      show Jr _ _ _ _ _ _ 76 _
      refine r_ic_ne (tgt := 83) C dX12_changed_76 (by decide) h (fun h => ?_) (fun h => ?_)
      · refine r_iconst (v := 0) C dX12_changed_83 (by decide) ?_
        refine r_istore (lv' := [(6, .int 0), (5, .int v5), (2, .int (a2 + 1)), (7, .int v3), (0, .ref (ad 133)), (1, .int a1), (4, .int a4)]) C dX12_changed_84 (by rw [hn9]; decide) rfl ?_
        refine r_goto (tgt := 44) C dX12_changed_86 (by decide) ?_
        refine Jr.sub [4, 5, 2, 6, 1, 0] (lv' := [(0, .ref (ad 133)), (1, .int a1), (2, .int (a2 + 1)), (4, .int a4), (5, .int v5), (6, .int 0)]) rfl ?_
        exact hk44 a1 (a2 + 1) a4 v5 0 T4 h
      · refine r_iconst (v := 1) C dX12_changed_79 (by decide) ?_
        refine r_goto (tgt := 84) C dX12_changed_80 (by decide) ?_
        refine r_istore (lv' := [(6, .int 1), (5, .int v5), (2, .int (a2 + 1)), (7, .int v3), (0, .ref (ad 133)), (1, .int a1), (4, .int a4)]) C dX12_changed_84 (by rw [hn9]; decide) rfl ?_
        refine r_goto (tgt := 44) C dX12_changed_86 (by decide) ?_
        refine Jr.sub [4, 5, 2, 6, 1, 0] (lv' := [(0, .ref (ad 133)), (1, .int a1), (2, .int (a2 + 1)), (4, .int a4), (5, .int v5), (6, .int 1)]) rfl ?_
        exact hk44 a1 (a2 + 1) a4 v5 1 T4 h
noncomputable def f_X12_changed_l44 (k2 : Int32 → Int32 → Mm → Option (Unit × Mm)) (n : Nat) : Int32 → Int32 → Int32 → Int32 → Int32 → Mm → Option (Unit × Mm) := Nat.rec (fun _ _ _ _ _ _ => none) (fun _ ih => f_X12_changed_b44 k2 ih) n
theorem s_X12_changed_l44 {x : JX} {ad : Nat → Nat} {U : Mm} {S0 : Hp} {q : Unit × Mm}  {k2 : Int32 → Int32 → Mm → Option (Unit × Mm)} (hn9 : x_n x = 8) (C : CB x RX12 cX12_changed) (M : CMr x 2 none S0 ad false U eV q) (hk2 : ∀ (a1 : Int32) (a2 : Int32) (T : Mm), k2 a1 a2 T = some q → Jr x ad false U T [(0, .ref (ad 133)), (1, .int a1), (2, .int a2)] 2 []) : ∀ (n : Nat), ∀ (a1 : Int32) (a2 : Int32) (a4 : Int32) (a5 : Int32) (a6 : Int32) (T : Mm), f_X12_changed_l44 k2 n a1 a2 a4 a5 a6 T = some q → Jr x ad false U T [(0, .ref (ad 133)), (1, .int a1), (2, .int a2), (4, .int a4), (5, .int a5), (6, .int a6)] 44 [] := by
  intro n
  induction n with
  | zero => intro a1 a2 a4 a5 a6 T  h; exact absurd h (by intro h; cases h)
  | succ n ih => exact fun a1 a2 a4 a5 a6 T  h => s_X12_changed_b44 hn9 C M hk2 (ih) a1 a2 a4 a5 a6 T  h
noncomputable def f_X12_changed_b2 (k2 : Int32 → Int32 → Mm → Option (Unit × Mm)) (a1 : Int32) (a2 : Int32) (T : Mm) : Option (Unit × Mm) :=
  if a1 ≤ a2 then (some ((), T))
  else (bd (f_X12_dataAt a2 T) fun v1 T2 =>
  lb (((v1 / 32) + 1)) fun v3 =>
  lb ((v1 - v1 / 32 * 32)) fun v4 =>
  if v4 = 31 then (f_X12_changed_l44 k2 FU a1 (a2 + 1) v3 v4 1 T2)
  else (f_X12_changed_l44 k2 FU a1 (a2 + 1) v3 v4 0 T2))
set_option maxRecDepth 100000 in
set_option maxHeartbeats 4000000 in
theorem s_X12_changed_b2 {x : JX} {ad : Nat → Nat} {U : Mm} {S0 : Hp} {q : Unit × Mm}  {k2 : Int32 → Int32 → Mm → Option (Unit × Mm)} (hn9 : x_n x = 8) (C : CB x RX12 cX12_changed) (M : CMr x 2 none S0 ad false U eV q) (hk2 : ∀ (a1 : Int32) (a2 : Int32) (T : Mm), k2 a1 a2 T = some q → Jr x ad false U T [(0, .ref (ad 133)), (1, .int a1), (2, .int a2)] 2 []) (a1 : Int32) (a2 : Int32) (T : Mm) (h : f_X12_changed_b2 k2 a1 a2 T = some q) : Jr x ad false U T [(0, .ref (ad 133)), (1, .int a1), (2, .int a2)] 2 [] := by
  unfold f_X12_changed_b2 at h
  refine r_iload_n C dX12_changed_2 rfl 2 rfl ?_
  refine r_iload_n C dX12_changed_3 rfl 1 rfl ?_
  refine r_ic_ge (tgt := 136) C dX12_changed_4 (by decide) h (fun h => ?_) (fun h => ?_)
  · exact r_vret C M dX12_changed_136 h
  · refine r_aload_n C dX12_changed_7 rfl 0 rfl ?_
    refine r_iload_n C dX12_changed_8 rfl 2 rfl ?_
    refine r_callVI C M h [.int a2] [] mlX12_484 mcX12_dataAt (fun q9 e9 => s_X12_dataAt a2  e9) kq_133 rfl (by decide) (by decide) rfl rfl (Nat.le_of_ble_eq_true rfl) dX12_changed_9 (fun v1 T2 h => ?_)
    refine r_istore_n (lv' := [(3, .int v1), (0, .ref (ad 133)), (1, .int a1), (2, .int a2)]) C dX12_changed_12 rfl (by rw [hn9]; decide) rfl ?_
    refine r_iinc (q := 3) (v := (a2 + 1)) (lv' := [(2, .int (a2 + 1)), (3, .int v1), (0, .ref (ad 133)), (1, .int a1)]) C dX12_changed_13 rfl (by rw [show Int32.ofInt (1) = 1 by decide]) (by rw [hn9]; decide) rfl ?_
    show Jr _ _ _ _ _ _ 16 _
    refine r_iload_n C dX12_changed_16 rfl 1 rfl ?_
    refine r_bipush (v := 32) C dX12_changed_17 (by decide) ?_
    refine r_idiv C dX12_changed_19 (by decide) rfl ?_
    refine r_iconst (v := 1) C dX12_changed_20 (by decide) ?_
    refine r_iadd C dX12_changed_21 rfl ?_
    refine r_lbI h (fun v3 h => ?_)
    refine r_istore (lv' := [(4, .int v3), (2, .int (a2 + 1)), (3, .int v1), (0, .ref (ad 133)), (1, .int a1)]) C dX12_changed_22 (by rw [hn9]; decide) rfl ?_
    show Jr _ _ _ _ _ _ 24 _
    refine r_iload_n C dX12_changed_24 rfl 2 rfl ?_
    refine r_bipush (v := 32) C dX12_changed_25 (by decide) ?_
    refine r_irem C dX12_changed_27 (by decide) rfl ?_
    refine r_lbI h (fun v4 h => ?_)
    refine r_istore (lv' := [(5, .int v4), (4, .int v3), (2, .int (a2 + 1)), (3, .int v1), (0, .ref (ad 133)), (1, .int a1)]) C dX12_changed_28 (by rw [hn9]; decide) rfl ?_
    refine r_iload C dX12_changed_30 0 rfl ?_
    refine r_bipush (v := 31) C dX12_changed_32 (by decide) ?_
    show Jr _ _ _ _ _ _ 34 _
    refine r_ic_ne (tgt := 41) C dX12_changed_34 (by decide) h (fun h => ?_) (fun h => ?_)
    · refine r_iconst (v := 0) C dX12_changed_41 (by decide) ?_
      refine r_istore (lv' := [(6, .int 0), (5, .int v4), (4, .int v3), (2, .int (a2 + 1)), (3, .int v1), (0, .ref (ad 133)), (1, .int a1)]) C dX12_changed_42 (by rw [hn9]; decide) rfl ?_
      refine Jr.sub [5, 6, 3, 2, 1, 0] (lv' := [(0, .ref (ad 133)), (1, .int a1), (2, .int (a2 + 1)), (4, .int v3), (5, .int v4), (6, .int 0)]) rfl ?_
      exact s_X12_changed_l44 hn9 C M hk2 FU a1 (a2 + 1) v3 v4 0 T2 h
    · refine r_iconst (v := 1) C dX12_changed_37 (by decide) ?_
      refine r_goto (tgt := 42) C dX12_changed_38 (by decide) ?_
      refine r_istore (lv' := [(6, .int 1), (5, .int v4), (4, .int v3), (2, .int (a2 + 1)), (3, .int v1), (0, .ref (ad 133)), (1, .int a1)]) C dX12_changed_42 (by rw [hn9]; decide) rfl ?_
      refine Jr.sub [5, 6, 3, 2, 1, 0] (lv' := [(0, .ref (ad 133)), (1, .int a1), (2, .int (a2 + 1)), (4, .int v3), (5, .int v4), (6, .int 1)]) rfl ?_
      exact s_X12_changed_l44 hn9 C M hk2 FU a1 (a2 + 1) v3 v4 1 T2 h
noncomputable def f_X12_changed_l2 (n : Nat) : Int32 → Int32 → Mm → Option (Unit × Mm) := Nat.rec (fun _ _ _ => none) (fun _ ih => f_X12_changed_b2 ih) n
theorem s_X12_changed_l2 {x : JX} {ad : Nat → Nat} {U : Mm} {S0 : Hp} {q : Unit × Mm}  (hn9 : x_n x = 8) (C : CB x RX12 cX12_changed) (M : CMr x 2 none S0 ad false U eV q) : ∀ (n : Nat), ∀ (a1 : Int32) (a2 : Int32) (T : Mm), f_X12_changed_l2  n a1 a2 T = some q → Jr x ad false U T [(0, .ref (ad 133)), (1, .int a1), (2, .int a2)] 2 [] := by
  intro n
  induction n with
  | zero => intro a1 a2 T  h; exact absurd h (by intro h; cases h)
  | succ n ih => exact fun a1 a2 T  h => s_X12_changed_b2 hn9 C M (ih) a1 a2 T  h
noncomputable def f_X12_changed (p1 : Int32) (T : Mm) : Option (Unit × Mm) :=
  f_X12_changed_l2 FU p1 0 T
set_option maxRecDepth 100000 in
set_option maxHeartbeats 4000000 in
theorem s_X12_changed {ad : Nat → Nat} {U T : Mm} {q : Unit × Mm}  (p1 : Int32) (h : f_X12_changed p1 T = some q) : Cr 2 yX12_changed cX12_changed 8 none [.ref (ad 133), .int p1] ad false U T eV q := by
  refine cr_of (by decide) (Nat.le_of_ble_eq_true rfl) fun x S0 hn9 C M => ?_
  have C : CB x RX12 cX12_changed := C
  refine Jr.eq (lv' := [(0, .ref (ad 133)), (1, .int p1)]) (st' := []) rfl rfl ?_
  unfold f_X12_changed at h
  refine r_iconst (v := 0) C dX12_changed_0 (by decide) ?_
  refine r_istore_n (lv' := [(2, .int 0), (0, .ref (ad 133)), (1, .int p1)]) C dX12_changed_1 rfl (by rw [hn9]; decide) rfl ?_
  refine Jr.sub [1, 2, 0] (lv' := [(0, .ref (ad 133)), (1, .int p1), (2, .int 0)]) rfl ?_
  exact s_X12_changed_l2 hn9 C M  FU p1 0 T h
theorem dX12_unpack_0 : decode cX12_unpack 0 = .ok (.aload_n 0, 1) := by decide +kernel
theorem dX12_unpack_1 : decode cX12_unpack 1 = .ok (.iconst 0, 1) := by decide +kernel
theorem dX12_unpack_2 : decode cX12_unpack 2 = .ok (.putfield 496, 3) := by decide +kernel
theorem dX12_unpack_5 : decode cX12_unpack 5 = .ok (.iconst 0, 1) := by decide +kernel
theorem dX12_unpack_6 : decode cX12_unpack 6 = .ok (.istore_n 2, 1) := by decide +kernel
theorem dX12_unpack_7 : decode cX12_unpack 7 = .ok (.aload_n 0, 1) := by decide +kernel
theorem dX12_unpack_8 : decode cX12_unpack 8 = .ok (.getfield 9, 3) := by decide +kernel
theorem dX12_unpack_11 : decode cX12_unpack 11 = .ok (.bipush 54, 2) := by decide +kernel
theorem dX12_unpack_13 : decode cX12_unpack 13 = .ok (.iaload, 1) := by decide +kernel
theorem dX12_unpack_14 : decode cX12_unpack 14 = .ok (.iconst 3, 1) := by decide +kernel
theorem dX12_unpack_15 : decode cX12_unpack 15 = .ok (.if_icmp .ne 9, 3) := by decide +kernel
theorem dX12_unpack_18 : decode cX12_unpack 18 = .ok (.aload_n 0, 1) := by decide +kernel
theorem dX12_unpack_19 : decode cX12_unpack 19 = .ok (.iload_n 1, 1) := by decide +kernel
theorem dX12_unpack_20 : decode cX12_unpack 20 = .ok (.invokevirtual 499, 3) := by decide +kernel
theorem dX12_unpack_23 : decode cX12_unpack 23 = .ok (.return_, 1) := by decide +kernel
theorem dX12_unpack_24 : decode cX12_unpack 24 = .ok (.aload_n 0, 1) := by decide +kernel
theorem dX12_unpack_25 : decode cX12_unpack 25 = .ok (.getfield 9, 3) := by decide +kernel
theorem dX12_unpack_28 : decode cX12_unpack 28 = .ok (.bipush 54, 2) := by decide +kernel
theorem dX12_unpack_30 : decode cX12_unpack 30 = .ok (.iaload, 1) := by decide +kernel
theorem dX12_unpack_31 : decode cX12_unpack 31 = .ok (.ifCond .ne 23, 3) := by decide +kernel
theorem dX12_unpack_34 : decode cX12_unpack 34 = .ok (.iload_n 2, 1) := by decide +kernel
theorem dX12_unpack_35 : decode cX12_unpack 35 = .ok (.iload_n 1, 1) := by decide +kernel
theorem dX12_unpack_36 : decode cX12_unpack 36 = .ok (.if_icmp .ge 178, 3) := by decide +kernel
theorem dX12_unpack_39 : decode cX12_unpack 39 = .ok (.aload_n 0, 1) := by decide +kernel
theorem dX12_unpack_40 : decode cX12_unpack 40 = .ok (.aload_n 0, 1) := by decide +kernel
theorem dX12_unpack_41 : decode cX12_unpack 41 = .ok (.iload_n 2, 1) := by decide +kernel
theorem dX12_unpack_42 : decode cX12_unpack 42 = .ok (.invokevirtual 484, 3) := by decide +kernel
theorem dX12_unpack_45 : decode cX12_unpack 45 = .ok (.invokevirtual 502, 3) := by decide +kernel
theorem dX12_unpack_48 : decode cX12_unpack 48 = .ok (.iinc 2 1, 3) := by decide +kernel
theorem dX12_unpack_51 : decode cX12_unpack 51 = .ok (.goto (-17), 3) := by decide +kernel
theorem dX12_unpack_54 : decode cX12_unpack 54 = .ok (.aload_n 0, 1) := by decide +kernel
theorem dX12_unpack_55 : decode cX12_unpack 55 = .ok (.getfield 9, 3) := by decide +kernel
theorem dX12_unpack_58 : decode cX12_unpack 58 = .ok (.bipush 54, 2) := by decide +kernel
theorem dX12_unpack_60 : decode cX12_unpack 60 = .ok (.iaload, 1) := by decide +kernel
theorem dX12_unpack_61 : decode cX12_unpack 61 = .ok (.iconst 1, 1) := by decide +kernel
theorem dX12_unpack_62 : decode cX12_unpack 62 = .ok (.if_icmp .ne 50, 3) := by decide +kernel
theorem dX12_unpack_65 : decode cX12_unpack 65 = .ok (.iload_n 2, 1) := by decide +kernel
theorem dX12_unpack_66 : decode cX12_unpack 66 = .ok (.iconst 1, 1) := by decide +kernel
theorem dX12_unpack_67 : decode cX12_unpack 67 = .ok (.iadd, 1) := by decide +kernel
theorem dX12_unpack_68 : decode cX12_unpack 68 = .ok (.iload_n 1, 1) := by decide +kernel
theorem dX12_unpack_69 : decode cX12_unpack 69 = .ok (.if_icmp .ge 145, 3) := by decide +kernel
theorem dX12_unpack_72 : decode cX12_unpack 72 = .ok (.aload_n 0, 1) := by decide +kernel
theorem dX12_unpack_73 : decode cX12_unpack 73 = .ok (.iload_n 2, 1) := by decide +kernel
theorem dX12_unpack_74 : decode cX12_unpack 74 = .ok (.invokevirtual 484, 3) := by decide +kernel
theorem dX12_unpack_77 : decode cX12_unpack 77 = .ok (.iconst 1, 1) := by decide +kernel
theorem dX12_unpack_78 : decode cX12_unpack 78 = .ok (.iadd, 1) := by decide +kernel
theorem dX12_unpack_79 : decode cX12_unpack 79 = .ok (.istore_n 3, 1) := by decide +kernel
theorem dX12_unpack_80 : decode cX12_unpack 80 = .ok (.iconst 0, 1) := by decide +kernel
theorem dX12_unpack_81 : decode cX12_unpack 81 = .ok (.istore 4, 2) := by decide +kernel
theorem dX12_unpack_83 : decode cX12_unpack 83 = .ok (.iload 4, 2) := by decide +kernel
theorem dX12_unpack_85 : decode cX12_unpack 85 = .ok (.iload_n 3, 1) := by decide +kernel
theorem dX12_unpack_86 : decode cX12_unpack 86 = .ok (.if_icmp .ge 20, 3) := by decide +kernel
theorem dX12_unpack_89 : decode cX12_unpack 89 = .ok (.aload_n 0, 1) := by decide +kernel
theorem dX12_unpack_90 : decode cX12_unpack 90 = .ok (.aload_n 0, 1) := by decide +kernel
theorem dX12_unpack_91 : decode cX12_unpack 91 = .ok (.iload_n 2, 1) := by decide +kernel
theorem dX12_unpack_92 : decode cX12_unpack 92 = .ok (.iconst 1, 1) := by decide +kernel
theorem dX12_unpack_93 : decode cX12_unpack 93 = .ok (.iadd, 1) := by decide +kernel
theorem dX12_unpack_94 : decode cX12_unpack 94 = .ok (.invokevirtual 484, 3) := by decide +kernel
theorem dX12_unpack_97 : decode cX12_unpack 97 = .ok (.invokevirtual 502, 3) := by decide +kernel
theorem dX12_unpack_100 : decode cX12_unpack 100 = .ok (.iinc 4 1, 3) := by decide +kernel
theorem dX12_unpack_103 : decode cX12_unpack 103 = .ok (.goto (-20), 3) := by decide +kernel
theorem dX12_unpack_106 : decode cX12_unpack 106 = .ok (.iinc 2 2, 3) := by decide +kernel
theorem dX12_unpack_109 : decode cX12_unpack 109 = .ok (.goto (-44), 3) := by decide +kernel
theorem dX12_unpack_112 : decode cX12_unpack 112 = .ok (.iload_n 2, 1) := by decide +kernel
theorem dX12_unpack_113 : decode cX12_unpack 113 = .ok (.iload_n 1, 1) := by decide +kernel
theorem dX12_unpack_114 : decode cX12_unpack 114 = .ok (.if_icmp .ge 100, 3) := by decide +kernel
theorem dX12_unpack_117 : decode cX12_unpack 117 = .ok (.aload_n 0, 1) := by decide +kernel
theorem dX12_unpack_118 : decode cX12_unpack 118 = .ok (.iload_n 2, 1) := by decide +kernel
theorem dX12_unpack_119 : decode cX12_unpack 119 = .ok (.invokevirtual 484, 3) := by decide +kernel
theorem dX12_unpack_122 : decode cX12_unpack 122 = .ok (.istore_n 3, 1) := by decide +kernel
theorem dX12_unpack_123 : decode cX12_unpack 123 = .ok (.iinc 2 1, 3) := by decide +kernel
theorem dX12_unpack_126 : decode cX12_unpack 126 = .ok (.iload_n 3, 1) := by decide +kernel
theorem dX12_unpack_127 : decode cX12_unpack 127 = .ok (.sipush 128, 3) := by decide +kernel
theorem dX12_unpack_130 : decode cX12_unpack 130 = .ok (.if_icmp .ge 38, 3) := by decide +kernel
theorem dX12_unpack_133 : decode cX12_unpack 133 = .ok (.iconst 0, 1) := by decide +kernel
theorem dX12_unpack_134 : decode cX12_unpack 134 = .ok (.istore 4, 2) := by decide +kernel
theorem dX12_unpack_136 : decode cX12_unpack 136 = .ok (.iload 4, 2) := by decide +kernel
theorem dX12_unpack_138 : decode cX12_unpack 138 = .ok (.iload_n 3, 1) := by decide +kernel
theorem dX12_unpack_139 : decode cX12_unpack 139 = .ok (.if_icmp .gt 26, 3) := by decide +kernel
theorem dX12_unpack_142 : decode cX12_unpack 142 = .ok (.iload_n 2, 1) := by decide +kernel
theorem dX12_unpack_143 : decode cX12_unpack 143 = .ok (.iload_n 1, 1) := by decide +kernel
theorem dX12_unpack_144 : decode cX12_unpack 144 = .ok (.if_icmp .ge 21, 3) := by decide +kernel
theorem dX12_unpack_147 : decode cX12_unpack 147 = .ok (.aload_n 0, 1) := by decide +kernel
theorem dX12_unpack_148 : decode cX12_unpack 148 = .ok (.aload_n 0, 1) := by decide +kernel
theorem dX12_unpack_149 : decode cX12_unpack 149 = .ok (.iload_n 2, 1) := by decide +kernel
theorem dX12_unpack_150 : decode cX12_unpack 150 = .ok (.invokevirtual 484, 3) := by decide +kernel
theorem dX12_unpack_153 : decode cX12_unpack 153 = .ok (.invokevirtual 502, 3) := by decide +kernel
theorem dX12_unpack_156 : decode cX12_unpack 156 = .ok (.iinc 2 1, 3) := by decide +kernel
theorem dX12_unpack_159 : decode cX12_unpack 159 = .ok (.iinc 4 1, 3) := by decide +kernel
theorem dX12_unpack_162 : decode cX12_unpack 162 = .ok (.goto (-26), 3) := by decide +kernel
theorem dX12_unpack_165 : decode cX12_unpack 165 = .ok (.goto 46, 3) := by decide +kernel
theorem dX12_unpack_168 : decode cX12_unpack 168 = .ok (.iload_n 3, 1) := by decide +kernel
theorem dX12_unpack_169 : decode cX12_unpack 169 = .ok (.sipush 128, 3) := by decide +kernel
theorem dX12_unpack_172 : decode cX12_unpack 172 = .ok (.if_icmp .le 39, 3) := by decide +kernel
theorem dX12_unpack_175 : decode cX12_unpack 175 = .ok (.iload_n 2, 1) := by decide +kernel
theorem dX12_unpack_176 : decode cX12_unpack 176 = .ok (.iload_n 1, 1) := by decide +kernel
theorem dX12_unpack_177 : decode cX12_unpack 177 = .ok (.if_icmp .ge 34, 3) := by decide +kernel
theorem dX12_unpack_180 : decode cX12_unpack 180 = .ok (.iconst 0, 1) := by decide +kernel
theorem dX12_unpack_181 : decode cX12_unpack 181 = .ok (.istore 4, 2) := by decide +kernel
theorem dX12_unpack_183 : decode cX12_unpack 183 = .ok (.iload 4, 2) := by decide +kernel
theorem dX12_unpack_185 : decode cX12_unpack 185 = .ok (.sipush 257, 3) := by decide +kernel
theorem dX12_unpack_188 : decode cX12_unpack 188 = .ok (.iload_n 3, 1) := by decide +kernel
theorem dX12_unpack_189 : decode cX12_unpack 189 = .ok (.isub, 1) := by decide +kernel
theorem dX12_unpack_190 : decode cX12_unpack 190 = .ok (.if_icmp .ge 18, 3) := by decide +kernel
theorem dX12_unpack_193 : decode cX12_unpack 193 = .ok (.aload_n 0, 1) := by decide +kernel
theorem dX12_unpack_194 : decode cX12_unpack 194 = .ok (.aload_n 0, 1) := by decide +kernel
theorem dX12_unpack_195 : decode cX12_unpack 195 = .ok (.iload_n 2, 1) := by decide +kernel
theorem dX12_unpack_196 : decode cX12_unpack 196 = .ok (.invokevirtual 484, 3) := by decide +kernel
theorem dX12_unpack_199 : decode cX12_unpack 199 = .ok (.invokevirtual 502, 3) := by decide +kernel
theorem dX12_unpack_202 : decode cX12_unpack 202 = .ok (.iinc 4 1, 3) := by decide +kernel
theorem dX12_unpack_205 : decode cX12_unpack 205 = .ok (.goto (-22), 3) := by decide +kernel
theorem dX12_unpack_208 : decode cX12_unpack 208 = .ok (.iinc 2 1, 3) := by decide +kernel
theorem dX12_unpack_211 : decode cX12_unpack 211 = .ok (.goto (-99), 3) := by decide +kernel
theorem dX12_unpack_214 : decode cX12_unpack 214 = .ok (.aload_n 0, 1) := by decide +kernel
theorem dX12_unpack_215 : decode cX12_unpack 215 = .ok (.getfield 496, 3) := by decide +kernel
theorem dX12_unpack_218 : decode cX12_unpack 218 = .ok (.bipush 80, 2) := by decide +kernel
theorem dX12_unpack_220 : decode cX12_unpack 220 = .ok (.if_icmp .ge 11, 3) := by decide +kernel
theorem dX12_unpack_223 : decode cX12_unpack 223 = .ok (.aload_n 0, 1) := by decide +kernel
theorem dX12_unpack_224 : decode cX12_unpack 224 = .ok (.iconst 0, 1) := by decide +kernel
theorem dX12_unpack_225 : decode cX12_unpack 225 = .ok (.invokevirtual 502, 3) := by decide +kernel
theorem dX12_unpack_228 : decode cX12_unpack 228 = .ok (.goto (-14), 3) := by decide +kernel
theorem dX12_unpack_231 : decode cX12_unpack 231 = .ok (.return_, 1) := by decide +kernel
noncomputable def f_X12_unpack_b214 (k214 : Mm → Option (Unit × Mm)) (T : Mm) : Option (Unit × Mm) :=
  if 80 ≤ (gI T 1255 133) then (some ((), T))
  else (bd (f_X12_fill 0 T) fun _ T1 =>
  k214 T1)
set_option maxRecDepth 100000 in
set_option maxHeartbeats 4000000 in
theorem s_X12_unpack_b214 {x : JX} {ad : Nat → Nat} {U : Mm} {S0 : Hp} {q : Unit × Mm}  {k214 : Mm → Option (Unit × Mm)} (hn9 : x_n x = 5) (C : CB x RX12 cX12_unpack) (M : CMr x 3 none S0 ad false U eV q) (hk214 : ∀ (T : Mm), k214  T = some q → Jr x ad false U T [(0, .ref (ad 133))] 214 []) (T : Mm) (h : f_X12_unpack_b214 k214  T = some q) : Jr x ad false U T [(0, .ref (ad 133))] 214 [] := by
  unfold f_X12_unpack_b214 at h
  refine r_aload_n C dX12_unpack_214 rfl 0 rfl ?_
  refine r_geti (f := 1255) C flX12_496 dX12_unpack_215 kq_133 (by decide) (by decide) rfl ?_
  refine r_bipush (v := 80) C dX12_unpack_218 (by decide) ?_
  refine r_ic_ge (tgt := 231) C dX12_unpack_220 (by decide) h (fun h => ?_) (fun h => ?_)
  · exact r_vret C M dX12_unpack_231 h
  · refine r_aload_n C dX12_unpack_223 rfl 0 rfl ?_
    refine r_iconst (v := 0) C dX12_unpack_224 (by decide) ?_
    refine r_callVN C M h [.int 0] [] mlX12_502 mcX12_fill (fun q9 e9 => s_X12_fill 0  e9) kq_133 rfl (by decide) (by decide) rfl rfl (Nat.le_of_ble_eq_true rfl) dX12_unpack_225 (fun _ T1 h => ?_)
    refine r_goto (tgt := 214) C dX12_unpack_228 (by decide) ?_
    exact hk214 T1 h
noncomputable def f_X12_unpack_l214 (n : Nat) : Mm → Option (Unit × Mm) := Nat.rec (fun  _ => none) (fun _ ih => f_X12_unpack_b214 ih) n
theorem s_X12_unpack_l214 {x : JX} {ad : Nat → Nat} {U : Mm} {S0 : Hp} {q : Unit × Mm}  (hn9 : x_n x = 5) (C : CB x RX12 cX12_unpack) (M : CMr x 3 none S0 ad false U eV q) : ∀ (n : Nat), ∀ (T : Mm), f_X12_unpack_l214  n  T = some q → Jr x ad false U T [(0, .ref (ad 133))] 214 [] := by
  intro n
  induction n with
  | zero => intro  T  h; exact absurd h (by intro h; cases h)
  | succ n ih => exact fun  T  h => s_X12_unpack_b214 hn9 C M (ih)  T  h
noncomputable def f_X12_unpack_b183 (k112 : Int32 → Int32 → Mm → Option (Unit × Mm)) (k183 : Int32 → Int32 → Int32 → Int32 → Mm → Option (Unit × Mm)) (a1 : Int32) (a2 : Int32) (a3 : Int32) (a4 : Int32) (T : Mm) : Option (Unit × Mm) :=
  if ((257 : Int32) - a3) ≤ a4 then (k112 a1 (a2 + 1) T)
  else (bd (f_X12_dataAt a2 T) fun v1 T2 =>
  bd (f_X12_fill v1 T2) fun _ T3 =>
  k183 a1 a2 a3 (a4 + 1) T3)
set_option maxRecDepth 100000 in
set_option maxHeartbeats 4000000 in
theorem s_X12_unpack_b183 {x : JX} {ad : Nat → Nat} {U : Mm} {S0 : Hp} {q : Unit × Mm}  {k112 : Int32 → Int32 → Mm → Option (Unit × Mm)} {k183 : Int32 → Int32 → Int32 → Int32 → Mm → Option (Unit × Mm)} (hn9 : x_n x = 5) (C : CB x RX12 cX12_unpack) (M : CMr x 3 none S0 ad false U eV q) (hk112 : ∀ (a1 : Int32) (a2 : Int32) (T : Mm), k112 a1 a2 T = some q → Jr x ad false U T [(0, .ref (ad 133)), (1, .int a1), (2, .int a2)] 112 []) (hk183 : ∀ (a1 : Int32) (a2 : Int32) (a3 : Int32) (a4 : Int32) (T : Mm), k183 a1 a2 a3 a4 T = some q → Jr x ad false U T [(0, .ref (ad 133)), (1, .int a1), (2, .int a2), (3, .int a3), (4, .int a4)] 183 []) (a1 : Int32) (a2 : Int32) (a3 : Int32) (a4 : Int32) (T : Mm) (h : f_X12_unpack_b183 k112 k183 a1 a2 a3 a4 T = some q) : Jr x ad false U T [(0, .ref (ad 133)), (1, .int a1), (2, .int a2), (3, .int a3), (4, .int a4)] 183 [] := by
  unfold f_X12_unpack_b183 at h
  refine r_iload C dX12_unpack_183 4 rfl ?_
  refine r_sipush (v := 257) C dX12_unpack_185 (by decide) ?_
  refine r_iload_n C dX12_unpack_188 rfl 3 rfl ?_
  refine r_isub C dX12_unpack_189 rfl ?_
  refine r_ic_ge (tgt := 208) C dX12_unpack_190 (by decide) h (fun h => ?_) (fun h => ?_)
  · refine r_iinc (q := 2) (v := (a2 + 1)) (lv' := [(2, .int (a2 + 1)), (0, .ref (ad 133)), (1, .int a1), (3, .int a3), (4, .int a4)]) C dX12_unpack_208 rfl (by rw [show Int32.ofInt (1) = 1 by decide]) (by rw [hn9]; decide) rfl ?_
    refine r_goto (tgt := 112) C dX12_unpack_211 (by decide) ?_
    refine Jr.sub [1, 2, 0] (lv' := [(0, .ref (ad 133)), (1, .int a1), (2, .int (a2 + 1))]) rfl ?_
    exact hk112 a1 (a2 + 1) T h
  · refine r_aload_n C dX12_unpack_193 rfl 0 rfl ?_
    refine r_aload_n C dX12_unpack_194 rfl 0 rfl ?_
    refine r_iload_n C dX12_unpack_195 rfl 2 rfl ?_
    refine r_callVI C M h [.int a2] [.ref (ad 133)] mlX12_484 mcX12_dataAt (fun q9 e9 => s_X12_dataAt a2  e9) kq_133 rfl (by decide) (by decide) rfl rfl (Nat.le_of_ble_eq_true rfl) dX12_unpack_196 (fun v1 T2 h => ?_)
    refine r_callVN C M h [.int v1] [] mlX12_502 mcX12_fill (fun q9 e9 => s_X12_fill v1  e9) kq_133 rfl (by decide) (by decide) rfl rfl (Nat.le_of_ble_eq_true rfl) dX12_unpack_199 (fun _ T3 h => ?_)
    show Jr _ _ _ _ _ _ 202 _
    refine r_iinc (q := 4) (v := (a4 + 1)) (lv' := [(4, .int (a4 + 1)), (0, .ref (ad 133)), (1, .int a1), (2, .int a2), (3, .int a3)]) C dX12_unpack_202 rfl (by rw [show Int32.ofInt (1) = 1 by decide]) (by rw [hn9]; decide) rfl ?_
    refine r_goto (tgt := 183) C dX12_unpack_205 (by decide) ?_
    refine Jr.sub [1, 2, 3, 4, 0] (lv' := [(0, .ref (ad 133)), (1, .int a1), (2, .int a2), (3, .int a3), (4, .int (a4 + 1))]) rfl ?_
    exact hk183 a1 a2 a3 (a4 + 1) T3 h
noncomputable def f_X12_unpack_l183 (k112 : Int32 → Int32 → Mm → Option (Unit × Mm)) (n : Nat) : Int32 → Int32 → Int32 → Int32 → Mm → Option (Unit × Mm) := Nat.rec (fun _ _ _ _ _ => none) (fun _ ih => f_X12_unpack_b183 k112 ih) n
theorem s_X12_unpack_l183 {x : JX} {ad : Nat → Nat} {U : Mm} {S0 : Hp} {q : Unit × Mm}  {k112 : Int32 → Int32 → Mm → Option (Unit × Mm)} (hn9 : x_n x = 5) (C : CB x RX12 cX12_unpack) (M : CMr x 3 none S0 ad false U eV q) (hk112 : ∀ (a1 : Int32) (a2 : Int32) (T : Mm), k112 a1 a2 T = some q → Jr x ad false U T [(0, .ref (ad 133)), (1, .int a1), (2, .int a2)] 112 []) : ∀ (n : Nat), ∀ (a1 : Int32) (a2 : Int32) (a3 : Int32) (a4 : Int32) (T : Mm), f_X12_unpack_l183 k112 n a1 a2 a3 a4 T = some q → Jr x ad false U T [(0, .ref (ad 133)), (1, .int a1), (2, .int a2), (3, .int a3), (4, .int a4)] 183 [] := by
  intro n
  induction n with
  | zero => intro a1 a2 a3 a4 T  h; exact absurd h (by intro h; cases h)
  | succ n ih => exact fun a1 a2 a3 a4 T  h => s_X12_unpack_b183 hn9 C M hk112 (ih) a1 a2 a3 a4 T  h
noncomputable def f_X12_unpack_b136 (k112 : Int32 → Int32 → Mm → Option (Unit × Mm)) (k136 : Int32 → Int32 → Int32 → Int32 → Mm → Option (Unit × Mm)) (a1 : Int32) (a2 : Int32) (a3 : Int32) (a4 : Int32) (T : Mm) : Option (Unit × Mm) :=
  if a3 < a4 then (k112 a1 a2 T)
  else (if a1 ≤ a2 then (k112 a1 a2 T)
  else (bd (f_X12_dataAt a2 T) fun v1 T2 =>
  bd (f_X12_fill v1 T2) fun _ T3 =>
  k136 a1 (a2 + 1) a3 (a4 + 1) T3))
set_option maxRecDepth 100000 in
set_option maxHeartbeats 4000000 in
theorem s_X12_unpack_b136 {x : JX} {ad : Nat → Nat} {U : Mm} {S0 : Hp} {q : Unit × Mm}  {k112 : Int32 → Int32 → Mm → Option (Unit × Mm)} {k136 : Int32 → Int32 → Int32 → Int32 → Mm → Option (Unit × Mm)} (hn9 : x_n x = 5) (C : CB x RX12 cX12_unpack) (M : CMr x 3 none S0 ad false U eV q) (hk112 : ∀ (a1 : Int32) (a2 : Int32) (T : Mm), k112 a1 a2 T = some q → Jr x ad false U T [(0, .ref (ad 133)), (1, .int a1), (2, .int a2)] 112 []) (hk136 : ∀ (a1 : Int32) (a2 : Int32) (a3 : Int32) (a4 : Int32) (T : Mm), k136 a1 a2 a3 a4 T = some q → Jr x ad false U T [(0, .ref (ad 133)), (1, .int a1), (2, .int a2), (3, .int a3), (4, .int a4)] 136 []) (a1 : Int32) (a2 : Int32) (a3 : Int32) (a4 : Int32) (T : Mm) (h : f_X12_unpack_b136 k112 k136 a1 a2 a3 a4 T = some q) : Jr x ad false U T [(0, .ref (ad 133)), (1, .int a1), (2, .int a2), (3, .int a3), (4, .int a4)] 136 [] := by
  unfold f_X12_unpack_b136 at h
  refine r_iload C dX12_unpack_136 4 rfl ?_
  refine r_iload_n C dX12_unpack_138 rfl 3 rfl ?_
  refine r_ic_gt (tgt := 165) C dX12_unpack_139 (by decide) h (fun h => ?_) (fun h => ?_)
  · refine r_goto (tgt := 211) C dX12_unpack_165 (by decide) ?_
    refine r_goto (tgt := 112) C dX12_unpack_211 (by decide) ?_
    refine Jr.sub [0, 1, 2] (lv' := [(0, .ref (ad 133)), (1, .int a1), (2, .int a2)]) rfl ?_
    exact hk112 a1 a2 T h
  · refine r_iload_n C dX12_unpack_142 rfl 2 rfl ?_
    refine r_iload_n C dX12_unpack_143 rfl 1 rfl ?_
    refine r_ic_ge (tgt := 165) C dX12_unpack_144 (by decide) h (fun h => ?_) (fun h => ?_)
    · refine r_goto (tgt := 211) C dX12_unpack_165 (by decide) ?_
      refine r_goto (tgt := 112) C dX12_unpack_211 (by decide) ?_
      refine Jr.sub [0, 1, 2] (lv' := [(0, .ref (ad 133)), (1, .int a1), (2, .int a2)]) rfl ?_
      exact hk112 a1 a2 T h
    · refine r_aload_n C dX12_unpack_147 rfl 0 rfl ?_
      refine r_aload_n C dX12_unpack_148 rfl 0 rfl ?_
      refine r_iload_n C dX12_unpack_149 rfl 2 rfl ?_
      refine r_callVI C M h [.int a2] [.ref (ad 133)] mlX12_484 mcX12_dataAt (fun q9 e9 => s_X12_dataAt a2  e9) kq_133 rfl (by decide) (by decide) rfl rfl (Nat.le_of_ble_eq_true rfl) dX12_unpack_150 (fun v1 T2 h => ?_)
      refine r_callVN C M h [.int v1] [] mlX12_502 mcX12_fill (fun q9 e9 => s_X12_fill v1  e9) kq_133 rfl (by decide) (by decide) rfl rfl (Nat.le_of_ble_eq_true rfl) dX12_unpack_153 (fun _ T3 h => ?_)
      show Jr _ _ _ _ _ _ 156 _
      refine r_iinc (q := 2) (v := (a2 + 1)) (lv' := [(2, .int (a2 + 1)), (0, .ref (ad 133)), (1, .int a1), (3, .int a3), (4, .int a4)]) C dX12_unpack_156 rfl (by rw [show Int32.ofInt (1) = 1 by decide]) (by rw [hn9]; decide) rfl ?_
      refine r_iinc (q := 4) (v := (a4 + 1)) (lv' := [(4, .int (a4 + 1)), (2, .int (a2 + 1)), (0, .ref (ad 133)), (1, .int a1), (3, .int a3)]) C dX12_unpack_159 rfl (by rw [show Int32.ofInt (1) = 1 by decide]) (by rw [hn9]; decide) rfl ?_
      refine r_goto (tgt := 136) C dX12_unpack_162 (by decide) ?_
      refine Jr.sub [2, 3, 1, 4, 0] (lv' := [(0, .ref (ad 133)), (1, .int a1), (2, .int (a2 + 1)), (3, .int a3), (4, .int (a4 + 1))]) rfl ?_
      exact hk136 a1 (a2 + 1) a3 (a4 + 1) T3 h
noncomputable def f_X12_unpack_l136 (k112 : Int32 → Int32 → Mm → Option (Unit × Mm)) (n : Nat) : Int32 → Int32 → Int32 → Int32 → Mm → Option (Unit × Mm) := Nat.rec (fun _ _ _ _ _ => none) (fun _ ih => f_X12_unpack_b136 k112 ih) n
theorem s_X12_unpack_l136 {x : JX} {ad : Nat → Nat} {U : Mm} {S0 : Hp} {q : Unit × Mm}  {k112 : Int32 → Int32 → Mm → Option (Unit × Mm)} (hn9 : x_n x = 5) (C : CB x RX12 cX12_unpack) (M : CMr x 3 none S0 ad false U eV q) (hk112 : ∀ (a1 : Int32) (a2 : Int32) (T : Mm), k112 a1 a2 T = some q → Jr x ad false U T [(0, .ref (ad 133)), (1, .int a1), (2, .int a2)] 112 []) : ∀ (n : Nat), ∀ (a1 : Int32) (a2 : Int32) (a3 : Int32) (a4 : Int32) (T : Mm), f_X12_unpack_l136 k112 n a1 a2 a3 a4 T = some q → Jr x ad false U T [(0, .ref (ad 133)), (1, .int a1), (2, .int a2), (3, .int a3), (4, .int a4)] 136 [] := by
  intro n
  induction n with
  | zero => intro a1 a2 a3 a4 T  h; exact absurd h (by intro h; cases h)
  | succ n ih => exact fun a1 a2 a3 a4 T  h => s_X12_unpack_b136 hn9 C M hk112 (ih) a1 a2 a3 a4 T  h
noncomputable def f_X12_unpack_b112 (k112 : Int32 → Int32 → Mm → Option (Unit × Mm)) (a1 : Int32) (a2 : Int32) (T : Mm) : Option (Unit × Mm) :=
  if a1 ≤ a2 then (f_X12_unpack_l214 FU T)
  else (bd (f_X12_dataAt a2 T) fun v1 T2 =>
  if 128 ≤ v1 then (if v1 ≤ 128 then (k112 a1 (a2 + 1) T2)
  else (if a1 ≤ (a2 + 1) then (k112 a1 (a2 + 1) T2)
  else (f_X12_unpack_l183 k112 FU a1 (a2 + 1) v1 0 T2)))
  else (f_X12_unpack_l136 k112 FU a1 (a2 + 1) v1 0 T2))
set_option maxRecDepth 100000 in
set_option maxHeartbeats 4000000 in
theorem s_X12_unpack_b112 {x : JX} {ad : Nat → Nat} {U : Mm} {S0 : Hp} {q : Unit × Mm}  {k112 : Int32 → Int32 → Mm → Option (Unit × Mm)} (hn9 : x_n x = 5) (C : CB x RX12 cX12_unpack) (M : CMr x 3 none S0 ad false U eV q) (hk112 : ∀ (a1 : Int32) (a2 : Int32) (T : Mm), k112 a1 a2 T = some q → Jr x ad false U T [(0, .ref (ad 133)), (1, .int a1), (2, .int a2)] 112 []) (a1 : Int32) (a2 : Int32) (T : Mm) (h : f_X12_unpack_b112 k112 a1 a2 T = some q) : Jr x ad false U T [(0, .ref (ad 133)), (1, .int a1), (2, .int a2)] 112 [] := by
  unfold f_X12_unpack_b112 at h
  refine r_iload_n C dX12_unpack_112 rfl 2 rfl ?_
  refine r_iload_n C dX12_unpack_113 rfl 1 rfl ?_
  refine r_ic_ge (tgt := 214) C dX12_unpack_114 (by decide) h (fun h => ?_) (fun h => ?_)
  · refine Jr.sub [0] (lv' := [(0, .ref (ad 133))]) rfl ?_
    exact s_X12_unpack_l214 hn9 C M  FU T h
  · refine r_aload_n C dX12_unpack_117 rfl 0 rfl ?_
    refine r_iload_n C dX12_unpack_118 rfl 2 rfl ?_
    refine r_callVI C M h [.int a2] [] mlX12_484 mcX12_dataAt (fun q9 e9 => s_X12_dataAt a2  e9) kq_133 rfl (by decide) (by decide) rfl rfl (Nat.le_of_ble_eq_true rfl) dX12_unpack_119 (fun v1 T2 h => ?_)
    refine r_istore_n (lv' := [(3, .int v1), (0, .ref (ad 133)), (1, .int a1), (2, .int a2)]) C dX12_unpack_122 rfl (by rw [hn9]; decide) rfl ?_
    refine r_iinc (q := 3) (v := (a2 + 1)) (lv' := [(2, .int (a2 + 1)), (3, .int v1), (0, .ref (ad 133)), (1, .int a1)]) C dX12_unpack_123 rfl (by rw [show Int32.ofInt (1) = 1 by decide]) (by rw [hn9]; decide) rfl ?_
    show Jr _ _ _ _ _ _ 126 _
    refine r_iload_n C dX12_unpack_126 rfl 1 rfl ?_
    refine r_sipush (v := 128) C dX12_unpack_127 (by decide) ?_
    refine r_ic_ge (tgt := 168) C dX12_unpack_130 (by decide) h (fun h => ?_) (fun h => ?_)
    · refine r_iload_n C dX12_unpack_168 rfl 1 rfl ?_
      refine r_sipush (v := 128) C dX12_unpack_169 (by decide) ?_
      refine r_ic_le (tgt := 211) C dX12_unpack_172 (by decide) h (fun h => ?_) (fun h => ?_)
      · refine r_goto (tgt := 112) C dX12_unpack_211 (by decide) ?_
        refine Jr.sub [2, 3, 0] (lv' := [(0, .ref (ad 133)), (1, .int a1), (2, .int (a2 + 1))]) rfl ?_
        exact hk112 a1 (a2 + 1) T2 h
      · refine r_iload_n C dX12_unpack_175 rfl 0 rfl ?_
        refine r_iload_n C dX12_unpack_176 rfl 3 rfl ?_
        refine r_ic_ge (tgt := 211) C dX12_unpack_177 (by decide) h (fun h => ?_) (fun h => ?_)
        · refine r_goto (tgt := 112) C dX12_unpack_211 (by decide) ?_
          refine Jr.sub [2, 3, 0] (lv' := [(0, .ref (ad 133)), (1, .int a1), (2, .int (a2 + 1))]) rfl ?_
          exact hk112 a1 (a2 + 1) T2 h
        · refine r_iconst (v := 0) C dX12_unpack_180 (by decide) ?_
          refine r_istore (lv' := [(4, .int 0), (2, .int (a2 + 1)), (3, .int v1), (0, .ref (ad 133)), (1, .int a1)]) C dX12_unpack_181 (by rw [hn9]; decide) rfl ?_
          refine Jr.sub [3, 4, 1, 2, 0] (lv' := [(0, .ref (ad 133)), (1, .int a1), (2, .int (a2 + 1)), (3, .int v1), (4, .int 0)]) rfl ?_
          exact s_X12_unpack_l183 hn9 C M hk112 FU a1 (a2 + 1) v1 0 T2 h
    · refine r_iconst (v := 0) C dX12_unpack_133 (by decide) ?_
      refine r_istore (lv' := [(4, .int 0), (2, .int (a2 + 1)), (3, .int v1), (0, .ref (ad 133)), (1, .int a1)]) C dX12_unpack_134 (by rw [hn9]; decide) rfl ?_
      refine Jr.sub [3, 4, 1, 2, 0] (lv' := [(0, .ref (ad 133)), (1, .int a1), (2, .int (a2 + 1)), (3, .int v1), (4, .int 0)]) rfl ?_
      exact s_X12_unpack_l136 hn9 C M hk112 FU a1 (a2 + 1) v1 0 T2 h
noncomputable def f_X12_unpack_l112 (n : Nat) : Int32 → Int32 → Mm → Option (Unit × Mm) := Nat.rec (fun _ _ _ => none) (fun _ ih => f_X12_unpack_b112 ih) n
theorem s_X12_unpack_l112 {x : JX} {ad : Nat → Nat} {U : Mm} {S0 : Hp} {q : Unit × Mm}  (hn9 : x_n x = 5) (C : CB x RX12 cX12_unpack) (M : CMr x 3 none S0 ad false U eV q) : ∀ (n : Nat), ∀ (a1 : Int32) (a2 : Int32) (T : Mm), f_X12_unpack_l112  n a1 a2 T = some q → Jr x ad false U T [(0, .ref (ad 133)), (1, .int a1), (2, .int a2)] 112 [] := by
  intro n
  induction n with
  | zero => intro a1 a2 T  h; exact absurd h (by intro h; cases h)
  | succ n ih => exact fun a1 a2 T  h => s_X12_unpack_b112 hn9 C M (ih) a1 a2 T  h
noncomputable def f_X12_unpack_b83 (k65 : Int32 → Int32 → Mm → Option (Unit × Mm)) (k83 : Int32 → Int32 → Int32 → Int32 → Mm → Option (Unit × Mm)) (a1 : Int32) (a2 : Int32) (a3 : Int32) (a4 : Int32) (T : Mm) : Option (Unit × Mm) :=
  if a3 ≤ a4 then (k65 a1 (a2 + 2) T)
  else (bd (f_X12_dataAt (a2 + 1) T) fun v1 T2 =>
  bd (f_X12_fill v1 T2) fun _ T3 =>
  k83 a1 a2 a3 (a4 + 1) T3)
set_option maxRecDepth 100000 in
set_option maxHeartbeats 4000000 in
theorem s_X12_unpack_b83 {x : JX} {ad : Nat → Nat} {U : Mm} {S0 : Hp} {q : Unit × Mm}  {k65 : Int32 → Int32 → Mm → Option (Unit × Mm)} {k83 : Int32 → Int32 → Int32 → Int32 → Mm → Option (Unit × Mm)} (hn9 : x_n x = 5) (C : CB x RX12 cX12_unpack) (M : CMr x 3 none S0 ad false U eV q) (hk65 : ∀ (a1 : Int32) (a2 : Int32) (T : Mm), k65 a1 a2 T = some q → Jr x ad false U T [(0, .ref (ad 133)), (1, .int a1), (2, .int a2)] 65 []) (hk83 : ∀ (a1 : Int32) (a2 : Int32) (a3 : Int32) (a4 : Int32) (T : Mm), k83 a1 a2 a3 a4 T = some q → Jr x ad false U T [(0, .ref (ad 133)), (1, .int a1), (2, .int a2), (3, .int a3), (4, .int a4)] 83 []) (a1 : Int32) (a2 : Int32) (a3 : Int32) (a4 : Int32) (T : Mm) (h : f_X12_unpack_b83 k65 k83 a1 a2 a3 a4 T = some q) : Jr x ad false U T [(0, .ref (ad 133)), (1, .int a1), (2, .int a2), (3, .int a3), (4, .int a4)] 83 [] := by
  unfold f_X12_unpack_b83 at h
  refine r_iload C dX12_unpack_83 4 rfl ?_
  refine r_iload_n C dX12_unpack_85 rfl 3 rfl ?_
  refine r_ic_ge (tgt := 106) C dX12_unpack_86 (by decide) h (fun h => ?_) (fun h => ?_)
  · refine r_iinc (q := 2) (v := (a2 + 2)) (lv' := [(2, .int (a2 + 2)), (0, .ref (ad 133)), (1, .int a1), (3, .int a3), (4, .int a4)]) C dX12_unpack_106 rfl (by rw [show Int32.ofInt (2) = 2 by decide]) (by rw [hn9]; decide) rfl ?_
    refine r_goto (tgt := 65) C dX12_unpack_109 (by decide) ?_
    refine Jr.sub [1, 2, 0] (lv' := [(0, .ref (ad 133)), (1, .int a1), (2, .int (a2 + 2))]) rfl ?_
    exact hk65 a1 (a2 + 2) T h
  · refine r_aload_n C dX12_unpack_89 rfl 0 rfl ?_
    refine r_aload_n C dX12_unpack_90 rfl 0 rfl ?_
    refine r_iload_n C dX12_unpack_91 rfl 2 rfl ?_
    refine r_iconst (v := 1) C dX12_unpack_92 (by decide) ?_
    refine r_iadd C dX12_unpack_93 rfl ?_
    show Jr _ _ _ _ _ _ 94 _
    refine r_callVI C M h [.int (a2 + 1)] [.ref (ad 133)] mlX12_484 mcX12_dataAt (fun q9 e9 => s_X12_dataAt (a2 + 1)  e9) kq_133 rfl (by decide) (by decide) rfl rfl (Nat.le_of_ble_eq_true rfl) dX12_unpack_94 (fun v1 T2 h => ?_)
    refine r_callVN C M h [.int v1] [] mlX12_502 mcX12_fill (fun q9 e9 => s_X12_fill v1  e9) kq_133 rfl (by decide) (by decide) rfl rfl (Nat.le_of_ble_eq_true rfl) dX12_unpack_97 (fun _ T3 h => ?_)
    refine r_iinc (q := 4) (v := (a4 + 1)) (lv' := [(4, .int (a4 + 1)), (0, .ref (ad 133)), (1, .int a1), (2, .int a2), (3, .int a3)]) C dX12_unpack_100 rfl (by rw [show Int32.ofInt (1) = 1 by decide]) (by rw [hn9]; decide) rfl ?_
    refine r_goto (tgt := 83) C dX12_unpack_103 (by decide) ?_
    refine Jr.sub [1, 2, 3, 4, 0] (lv' := [(0, .ref (ad 133)), (1, .int a1), (2, .int a2), (3, .int a3), (4, .int (a4 + 1))]) rfl ?_
    exact hk83 a1 a2 a3 (a4 + 1) T3 h
noncomputable def f_X12_unpack_l83 (k65 : Int32 → Int32 → Mm → Option (Unit × Mm)) (n : Nat) : Int32 → Int32 → Int32 → Int32 → Mm → Option (Unit × Mm) := Nat.rec (fun _ _ _ _ _ => none) (fun _ ih => f_X12_unpack_b83 k65 ih) n
theorem s_X12_unpack_l83 {x : JX} {ad : Nat → Nat} {U : Mm} {S0 : Hp} {q : Unit × Mm}  {k65 : Int32 → Int32 → Mm → Option (Unit × Mm)} (hn9 : x_n x = 5) (C : CB x RX12 cX12_unpack) (M : CMr x 3 none S0 ad false U eV q) (hk65 : ∀ (a1 : Int32) (a2 : Int32) (T : Mm), k65 a1 a2 T = some q → Jr x ad false U T [(0, .ref (ad 133)), (1, .int a1), (2, .int a2)] 65 []) : ∀ (n : Nat), ∀ (a1 : Int32) (a2 : Int32) (a3 : Int32) (a4 : Int32) (T : Mm), f_X12_unpack_l83 k65 n a1 a2 a3 a4 T = some q → Jr x ad false U T [(0, .ref (ad 133)), (1, .int a1), (2, .int a2), (3, .int a3), (4, .int a4)] 83 [] := by
  intro n
  induction n with
  | zero => intro a1 a2 a3 a4 T  h; exact absurd h (by intro h; cases h)
  | succ n ih => exact fun a1 a2 a3 a4 T  h => s_X12_unpack_b83 hn9 C M hk65 (ih) a1 a2 a3 a4 T  h
noncomputable def f_X12_unpack_b65 (k65 : Int32 → Int32 → Mm → Option (Unit × Mm)) (a1 : Int32) (a2 : Int32) (T : Mm) : Option (Unit × Mm) :=
  if a1 ≤ (a2 + 1) then (f_X12_unpack_l214 FU T)
  else (bd (f_X12_dataAt a2 T) fun v1 T2 =>
  lb ((v1 + 1)) fun v3 =>
  f_X12_unpack_l83 k65 FU a1 a2 v3 0 T2)
set_option maxRecDepth 100000 in
set_option maxHeartbeats 4000000 in
theorem s_X12_unpack_b65 {x : JX} {ad : Nat → Nat} {U : Mm} {S0 : Hp} {q : Unit × Mm}  {k65 : Int32 → Int32 → Mm → Option (Unit × Mm)} (hn9 : x_n x = 5) (C : CB x RX12 cX12_unpack) (M : CMr x 3 none S0 ad false U eV q) (hk65 : ∀ (a1 : Int32) (a2 : Int32) (T : Mm), k65 a1 a2 T = some q → Jr x ad false U T [(0, .ref (ad 133)), (1, .int a1), (2, .int a2)] 65 []) (a1 : Int32) (a2 : Int32) (T : Mm) (h : f_X12_unpack_b65 k65 a1 a2 T = some q) : Jr x ad false U T [(0, .ref (ad 133)), (1, .int a1), (2, .int a2)] 65 [] := by
  unfold f_X12_unpack_b65 at h
  refine r_iload_n C dX12_unpack_65 rfl 2 rfl ?_
  refine r_iconst (v := 1) C dX12_unpack_66 (by decide) ?_
  refine r_iadd C dX12_unpack_67 rfl ?_
  refine r_iload_n C dX12_unpack_68 rfl 1 rfl ?_
  refine r_ic_ge (tgt := 214) C dX12_unpack_69 (by decide) h (fun h => ?_) (fun h => ?_)
  · refine Jr.sub [0] (lv' := [(0, .ref (ad 133))]) rfl ?_
    exact s_X12_unpack_l214 hn9 C M  FU T h
  · refine r_aload_n C dX12_unpack_72 rfl 0 rfl ?_
    refine r_iload_n C dX12_unpack_73 rfl 2 rfl ?_
    refine r_callVI C M h [.int a2] [] mlX12_484 mcX12_dataAt (fun q9 e9 => s_X12_dataAt a2  e9) kq_133 rfl (by decide) (by decide) rfl rfl (Nat.le_of_ble_eq_true rfl) dX12_unpack_74 (fun v1 T2 h => ?_)
    refine r_iconst (v := 1) C dX12_unpack_77 (by decide) ?_
    refine r_iadd C dX12_unpack_78 rfl ?_
    show Jr _ _ _ _ _ _ 79 _
    refine r_lbI h (fun v3 h => ?_)
    refine r_istore_n (lv' := [(3, .int v3), (0, .ref (ad 133)), (1, .int a1), (2, .int a2)]) C dX12_unpack_79 rfl (by rw [hn9]; decide) rfl ?_
    refine r_iconst (v := 0) C dX12_unpack_80 (by decide) ?_
    refine r_istore (lv' := [(4, .int 0), (3, .int v3), (0, .ref (ad 133)), (1, .int a1), (2, .int a2)]) C dX12_unpack_81 (by rw [hn9]; decide) rfl ?_
    refine Jr.sub [2, 3, 4, 1, 0] (lv' := [(0, .ref (ad 133)), (1, .int a1), (2, .int a2), (3, .int v3), (4, .int 0)]) rfl ?_
    exact s_X12_unpack_l83 hn9 C M hk65 FU a1 a2 v3 0 T2 h
noncomputable def f_X12_unpack_l65 (n : Nat) : Int32 → Int32 → Mm → Option (Unit × Mm) := Nat.rec (fun _ _ _ => none) (fun _ ih => f_X12_unpack_b65 ih) n
theorem s_X12_unpack_l65 {x : JX} {ad : Nat → Nat} {U : Mm} {S0 : Hp} {q : Unit × Mm}  (hn9 : x_n x = 5) (C : CB x RX12 cX12_unpack) (M : CMr x 3 none S0 ad false U eV q) : ∀ (n : Nat), ∀ (a1 : Int32) (a2 : Int32) (T : Mm), f_X12_unpack_l65  n a1 a2 T = some q → Jr x ad false U T [(0, .ref (ad 133)), (1, .int a1), (2, .int a2)] 65 [] := by
  intro n
  induction n with
  | zero => intro a1 a2 T  h; exact absurd h (by intro h; cases h)
  | succ n ih => exact fun a1 a2 T  h => s_X12_unpack_b65 hn9 C M (ih) a1 a2 T  h
noncomputable def f_X12_unpack_b34 (k34 : Int32 → Int32 → Mm → Option (Unit × Mm)) (a1 : Int32) (a2 : Int32) (T : Mm) : Option (Unit × Mm) :=
  if a1 ≤ a2 then (f_X12_unpack_l214 FU T)
  else (bd (f_X12_dataAt a2 T) fun v1 T2 =>
  bd (f_X12_fill v1 T2) fun _ T3 =>
  k34 a1 (a2 + 1) T3)
set_option maxRecDepth 100000 in
set_option maxHeartbeats 4000000 in
theorem s_X12_unpack_b34 {x : JX} {ad : Nat → Nat} {U : Mm} {S0 : Hp} {q : Unit × Mm}  {k34 : Int32 → Int32 → Mm → Option (Unit × Mm)} (hn9 : x_n x = 5) (C : CB x RX12 cX12_unpack) (M : CMr x 3 none S0 ad false U eV q) (hk34 : ∀ (a1 : Int32) (a2 : Int32) (T : Mm), k34 a1 a2 T = some q → Jr x ad false U T [(0, .ref (ad 133)), (1, .int a1), (2, .int a2)] 34 []) (a1 : Int32) (a2 : Int32) (T : Mm) (h : f_X12_unpack_b34 k34 a1 a2 T = some q) : Jr x ad false U T [(0, .ref (ad 133)), (1, .int a1), (2, .int a2)] 34 [] := by
  unfold f_X12_unpack_b34 at h
  refine r_iload_n C dX12_unpack_34 rfl 2 rfl ?_
  refine r_iload_n C dX12_unpack_35 rfl 1 rfl ?_
  refine r_ic_ge (tgt := 214) C dX12_unpack_36 (by decide) h (fun h => ?_) (fun h => ?_)
  · refine Jr.sub [0] (lv' := [(0, .ref (ad 133))]) rfl ?_
    exact s_X12_unpack_l214 hn9 C M  FU T h
  · refine r_aload_n C dX12_unpack_39 rfl 0 rfl ?_
    refine r_aload_n C dX12_unpack_40 rfl 0 rfl ?_
    refine r_iload_n C dX12_unpack_41 rfl 2 rfl ?_
    refine r_callVI C M h [.int a2] [.ref (ad 133)] mlX12_484 mcX12_dataAt (fun q9 e9 => s_X12_dataAt a2  e9) kq_133 rfl (by decide) (by decide) rfl rfl (Nat.le_of_ble_eq_true rfl) dX12_unpack_42 (fun v1 T2 h => ?_)
    refine r_callVN C M h [.int v1] [] mlX12_502 mcX12_fill (fun q9 e9 => s_X12_fill v1  e9) kq_133 rfl (by decide) (by decide) rfl rfl (Nat.le_of_ble_eq_true rfl) dX12_unpack_45 (fun _ T3 h => ?_)
    show Jr _ _ _ _ _ _ 48 _
    refine r_iinc (q := 2) (v := (a2 + 1)) (lv' := [(2, .int (a2 + 1)), (0, .ref (ad 133)), (1, .int a1)]) C dX12_unpack_48 rfl (by rw [show Int32.ofInt (1) = 1 by decide]) (by rw [hn9]; decide) rfl ?_
    refine r_goto (tgt := 34) C dX12_unpack_51 (by decide) ?_
    refine Jr.sub [1, 2, 0] (lv' := [(0, .ref (ad 133)), (1, .int a1), (2, .int (a2 + 1))]) rfl ?_
    exact hk34 a1 (a2 + 1) T3 h
noncomputable def f_X12_unpack_l34 (n : Nat) : Int32 → Int32 → Mm → Option (Unit × Mm) := Nat.rec (fun _ _ _ => none) (fun _ ih => f_X12_unpack_b34 ih) n
theorem s_X12_unpack_l34 {x : JX} {ad : Nat → Nat} {U : Mm} {S0 : Hp} {q : Unit × Mm}  (hn9 : x_n x = 5) (C : CB x RX12 cX12_unpack) (M : CMr x 3 none S0 ad false U eV q) : ∀ (n : Nat), ∀ (a1 : Int32) (a2 : Int32) (T : Mm), f_X12_unpack_l34  n a1 a2 T = some q → Jr x ad false U T [(0, .ref (ad 133)), (1, .int a1), (2, .int a2)] 34 [] := by
  intro n
  induction n with
  | zero => intro a1 a2 T  h; exact absurd h (by intro h; cases h)
  | succ n ih => exact fun a1 a2 T  h => s_X12_unpack_b34 hn9 C M (ih) a1 a2 T  h
noncomputable def f_X12_unpack (p1 : Int32) (T : Mm) : Option (Unit × Mm) :=
  lb (uI T 1255 133 0) fun T1 =>
  if (gA T1 134 54) = 3 then (bd (f_X12_changed p1 T1) fun _ T2 =>
  some ((), T2))
  else (if (gA T1 134 54) = 0 then (f_X12_unpack_l34 FU p1 0 T1)
  else (if (gA T1 134 54) = 1 then (f_X12_unpack_l65 FU p1 0 T1)
  else (f_X12_unpack_l112 FU p1 0 T1)))
set_option maxRecDepth 100000 in
set_option maxHeartbeats 4000000 in
theorem s_X12_unpack {ad : Nat → Nat} {U T : Mm} {q : Unit × Mm}  (p1 : Int32) (h : f_X12_unpack p1 T = some q) : Cr 3 yX12_unpack cX12_unpack 5 none [.ref (ad 133), .int p1] ad false U T eV q := by
  refine cr_of (by decide) (Nat.le_of_ble_eq_true rfl) fun x S0 hn9 C M => ?_
  have C : CB x RX12 cX12_unpack := C
  refine Jr.eq (lv' := [(0, .ref (ad 133)), (1, .int p1)]) (st' := []) rfl rfl ?_
  unfold f_X12_unpack at h
  refine r_aload_n C dX12_unpack_0 rfl 0 rfl ?_
  refine r_iconst (v := 0) C dX12_unpack_1 (by decide) ?_
  refine r_puti (f := 1255) C flX12_496 (by decide) rfl rfl dX12_unpack_2 kq_133 rfl h (fun T1 h => ?_)
  refine r_iconst (v := 0) C dX12_unpack_5 (by decide) ?_
  refine r_istore_n (lv' := [(2, .int 0), (0, .ref (ad 133)), (1, .int p1)]) C dX12_unpack_6 rfl (by rw [hn9]; decide) rfl ?_
  show Jr _ _ _ _ _ _ 7 _
  refine r_aload_n C dX12_unpack_7 rfl 1 rfl ?_
  refine r_getp (f := 1200) (j := 134) C flX12_9 dX12_unpack_8 kq_133 (by decide) rfl (fun W => pt_1200 kq_133 W) ?_
  refine r_bipush (v := 54) C dX12_unpack_11 (by decide) ?_
  refine r_ialdc (n := 192) C 54 dX12_unpack_13 kq_134 lq_134 (vp_lit (by decide)) (by decide) ?_
  refine r_iconst (v := 3) C dX12_unpack_14 (by decide) ?_
  refine r_ic_ne (tgt := 24) C dX12_unpack_15 (by decide) h (fun h => ?_) (fun h => ?_)
  · refine r_aload_n C dX12_unpack_24 rfl 1 rfl ?_
    refine r_getp (f := 1200) (j := 134) C flX12_9 dX12_unpack_25 kq_133 (by decide) rfl (fun W => pt_1200 kq_133 W) ?_
    refine r_bipush (v := 54) C dX12_unpack_28 (by decide) ?_
    refine r_ialdc (n := 192) C 54 dX12_unpack_30 kq_134 lq_134 (vp_lit (by decide)) (by decide) ?_
    refine r_if_ne (tgt := 54) C dX12_unpack_31 (by decide) h (fun h => ?_) (fun h => ?_)
    · refine r_aload_n C dX12_unpack_54 rfl 1 rfl ?_
      refine r_getp (f := 1200) (j := 134) C flX12_9 dX12_unpack_55 kq_133 (by decide) rfl (fun W => pt_1200 kq_133 W) ?_
      refine r_bipush (v := 54) C dX12_unpack_58 (by decide) ?_
      refine r_ialdc (n := 192) C 54 dX12_unpack_60 kq_134 lq_134 (vp_lit (by decide)) (by decide) ?_
      refine r_iconst (v := 1) C dX12_unpack_61 (by decide) ?_
      show Jr _ _ _ _ _ _ 62 _
      refine r_ic_ne (tgt := 112) C dX12_unpack_62 (by decide) h (fun h => ?_) (fun h => ?_)
      · refine Jr.sub [1, 2, 0] (lv' := [(0, .ref (ad 133)), (1, .int p1), (2, .int 0)]) rfl ?_
        exact s_X12_unpack_l112 hn9 C M  FU p1 0 T1 h
      · refine Jr.sub [1, 2, 0] (lv' := [(0, .ref (ad 133)), (1, .int p1), (2, .int 0)]) rfl ?_
        exact s_X12_unpack_l65 hn9 C M  FU p1 0 T1 h
    · refine Jr.sub [1, 2, 0] (lv' := [(0, .ref (ad 133)), (1, .int p1), (2, .int 0)]) rfl ?_
      exact s_X12_unpack_l34 hn9 C M  FU p1 0 T1 h
  · refine r_aload_n C dX12_unpack_18 rfl 1 rfl ?_
    refine r_iload_n C dX12_unpack_19 rfl 2 rfl ?_
    refine r_callVN C M h [.int p1] [] mlX12_499 mcX12_changed (fun q9 e9 => s_X12_changed p1  e9) kq_133 rfl (by decide) (by decide) rfl rfl (Nat.le_of_ble_eq_true rfl) dX12_unpack_20 (fun _ T2 h => ?_)
    exact r_vret C M dX12_unpack_23 h
theorem dX12_rowData_0 : decode cX12_rowData 0 = .ok (.aload_n 0, 1) := by decide +kernel
theorem dX12_rowData_1 : decode cX12_rowData 1 = .ok (.getfield 9, 3) := by decide +kernel
theorem dX12_rowData_4 : decode cX12_rowData 4 = .ok (.bipush 57, 2) := by decide +kernel
theorem dX12_rowData_6 : decode cX12_rowData 6 = .ok (.iaload, 1) := by decide +kernel
theorem dX12_rowData_7 : decode cX12_rowData 7 = .ok (.ifCond .ne 8, 3) := by decide +kernel
theorem dX12_rowData_10 : decode cX12_rowData 10 = .ok (.aload_n 0, 1) := by decide +kernel
theorem dX12_rowData_11 : decode cX12_rowData 11 = .ok (.iconst 1, 1) := by decide +kernel
theorem dX12_rowData_12 : decode cX12_rowData 12 = .ok (.invokevirtual 490, 3) := by decide +kernel
theorem dX12_rowData_15 : decode cX12_rowData 15 = .ok (.aload_n 0, 1) := by decide +kernel
theorem dX12_rowData_16 : decode cX12_rowData 16 = .ok (.getfield 9, 3) := by decide +kernel
theorem dX12_rowData_19 : decode cX12_rowData 19 = .ok (.bipush 56, 2) := by decide +kernel
theorem dX12_rowData_21 : decode cX12_rowData 21 = .ok (.iaload, 1) := by decide +kernel
theorem dX12_rowData_22 : decode cX12_rowData 22 = .ok (.iconst (-1), 1) := by decide +kernel
theorem dX12_rowData_23 : decode cX12_rowData 23 = .ok (.if_icmp .eq 21, 3) := by decide +kernel
theorem dX12_rowData_26 : decode cX12_rowData 26 = .ok (.aload_n 0, 1) := by decide +kernel
theorem dX12_rowData_27 : decode cX12_rowData 27 = .ok (.getfield 9, 3) := by decide +kernel
theorem dX12_rowData_30 : decode cX12_rowData 30 = .ok (.bipush 59, 2) := by decide +kernel
theorem dX12_rowData_32 : decode cX12_rowData 32 = .ok (.iaload, 1) := by decide +kernel
theorem dX12_rowData_33 : decode cX12_rowData 33 = .ok (.aload_n 0, 1) := by decide +kernel
theorem dX12_rowData_34 : decode cX12_rowData 34 = .ok (.getfield 9, 3) := by decide +kernel
theorem dX12_rowData_37 : decode cX12_rowData 37 = .ok (.bipush 56, 2) := by decide +kernel
theorem dX12_rowData_39 : decode cX12_rowData 39 = .ok (.iaload, 1) := by decide +kernel
theorem dX12_rowData_40 : decode cX12_rowData 40 = .ok (.if_icmp .lt 4, 3) := by decide +kernel
theorem dX12_rowData_43 : decode cX12_rowData 43 = .ok (.return_, 1) := by decide +kernel
theorem dX12_rowData_44 : decode cX12_rowData 44 = .ok (.aload_n 0, 1) := by decide +kernel
theorem dX12_rowData_45 : decode cX12_rowData 45 = .ok (.iload_n 1, 1) := by decide +kernel
theorem dX12_rowData_46 : decode cX12_rowData 46 = .ok (.invokevirtual 493, 3) := by decide +kernel
theorem dX12_rowData_49 : decode cX12_rowData 49 = .ok (.aload_n 0, 1) := by decide +kernel
theorem dX12_rowData_50 : decode cX12_rowData 50 = .ok (.getfield 9, 3) := by decide +kernel
theorem dX12_rowData_53 : decode cX12_rowData 53 = .ok (.bipush 55, 2) := by decide +kernel
theorem dX12_rowData_55 : decode cX12_rowData 55 = .ok (.iaload, 1) := by decide +kernel
theorem dX12_rowData_56 : decode cX12_rowData 56 = .ok (.iconst (-1), 1) := by decide +kernel
theorem dX12_rowData_57 : decode cX12_rowData 57 = .ok (.if_icmp .eq 16, 3) := by decide +kernel
theorem dX12_rowData_60 : decode cX12_rowData 60 = .ok (.aload_n 0, 1) := by decide +kernel
theorem dX12_rowData_61 : decode cX12_rowData 61 = .ok (.getfield 9, 3) := by decide +kernel
theorem dX12_rowData_64 : decode cX12_rowData 64 = .ok (.bipush 55, 2) := by decide +kernel
theorem dX12_rowData_66 : decode cX12_rowData 66 = .ok (.iaload, 1) := by decide +kernel
theorem dX12_rowData_67 : decode cX12_rowData 67 = .ok (.sipush 640, 3) := by decide +kernel
theorem dX12_rowData_70 : decode cX12_rowData 70 = .ok (.if_icmp .le 9, 3) := by decide +kernel
theorem dX12_rowData_73 : decode cX12_rowData 73 = .ok (.sipush 640, 3) := by decide +kernel
theorem dX12_rowData_76 : decode cX12_rowData 76 = .ok (.goto 10, 3) := by decide +kernel
theorem dX12_rowData_79 : decode cX12_rowData 79 = .ok (.aload_n 0, 1) := by decide +kernel
theorem dX12_rowData_80 : decode cX12_rowData 80 = .ok (.getfield 9, 3) := by decide +kernel
theorem dX12_rowData_83 : decode cX12_rowData 83 = .ok (.bipush 55, 2) := by decide +kernel
theorem dX12_rowData_85 : decode cX12_rowData 85 = .ok (.iaload, 1) := by decide +kernel
theorem dX12_rowData_86 : decode cX12_rowData 86 = .ok (.istore_n 2, 1) := by decide +kernel
theorem dX12_rowData_87 : decode cX12_rowData 87 = .ok (.aload_n 0, 1) := by decide +kernel
theorem dX12_rowData_88 : decode cX12_rowData 88 = .ok (.getfield 9, 3) := by decide +kernel
theorem dX12_rowData_91 : decode cX12_rowData 91 = .ok (.bipush 53, 2) := by decide +kernel
theorem dX12_rowData_93 : decode cX12_rowData 93 = .ok (.iaload, 1) := by decide +kernel
theorem dX12_rowData_94 : decode cX12_rowData 94 = .ok (.istore_n 3, 1) := by decide +kernel
theorem dX12_rowData_95 : decode cX12_rowData 95 = .ok (.aload_n 0, 1) := by decide +kernel
theorem dX12_rowData_96 : decode cX12_rowData 96 = .ok (.getfield 9, 3) := by decide +kernel
theorem dX12_rowData_99 : decode cX12_rowData 99 = .ok (.sipush 190, 3) := by decide +kernel
theorem dX12_rowData_102 : decode cX12_rowData 102 = .ok (.iaload, 1) := by decide +kernel
theorem dX12_rowData_103 : decode cX12_rowData 103 = .ok (.bipush 96, 2) := by decide +kernel
theorem dX12_rowData_105 : decode cX12_rowData 105 = .ok (.idiv, 1) := by decide +kernel
theorem dX12_rowData_106 : decode cX12_rowData 106 = .ok (.istore 4, 2) := by decide +kernel
theorem dX12_rowData_108 : decode cX12_rowData 108 = .ok (.aload_n 0, 1) := by decide +kernel
theorem dX12_rowData_109 : decode cX12_rowData 109 = .ok (.aload_n 0, 1) := by decide +kernel
theorem dX12_rowData_110 : decode cX12_rowData 110 = .ok (.getfield 9, 3) := by decide +kernel
theorem dX12_rowData_113 : decode cX12_rowData 113 = .ok (.bipush 58, 2) := by decide +kernel
theorem dX12_rowData_115 : decode cX12_rowData 115 = .ok (.iaload, 1) := by decide +kernel
theorem dX12_rowData_116 : decode cX12_rowData 116 = .ok (.i2l, 1) := by decide +kernel
theorem dX12_rowData_117 : decode cX12_rowData 117 = .ok (.iload 4, 2) := by decide +kernel
theorem dX12_rowData_119 : decode cX12_rowData 119 = .ok (.i2l, 1) := by decide +kernel
theorem dX12_rowData_120 : decode cX12_rowData 120 = .ok (.iload_n 2, 1) := by decide +kernel
theorem dX12_rowData_121 : decode cX12_rowData 121 = .ok (.iload_n 3, 1) := by decide +kernel
theorem dX12_rowData_122 : decode cX12_rowData 122 = .ok (.imul, 1) := by decide +kernel
theorem dX12_rowData_123 : decode cX12_rowData 123 = .ok (.i2l, 1) := by decide +kernel
theorem dX12_rowData_124 : decode cX12_rowData 124 = .ok (.iload_n 3, 1) := by decide +kernel
theorem dX12_rowData_125 : decode cX12_rowData 125 = .ok (.i2l, 1) := by decide +kernel
theorem dX12_rowData_126 : decode cX12_rowData 126 = .ok (.invokevirtual 317, 3) := by decide +kernel
theorem dX12_rowData_129 : decode cX12_rowData 129 = .ok (.ifCond .ne 4, 3) := by decide +kernel
theorem dX12_rowData_132 : decode cX12_rowData 132 = .ok (.return_, 1) := by decide +kernel
theorem dX12_rowData_133 : decode cX12_rowData 133 = .ok (.aload_n 0, 1) := by decide +kernel
theorem dX12_rowData_134 : decode cX12_rowData 134 = .ok (.invokevirtual 321, 3) := by decide +kernel
theorem dX12_rowData_137 : decode cX12_rowData 137 = .ok (.iconst 0, 1) := by decide +kernel
theorem dX12_rowData_138 : decode cX12_rowData 138 = .ok (.istore 5, 2) := by decide +kernel
theorem dX12_rowData_140 : decode cX12_rowData 140 = .ok (.iload 5, 2) := by decide +kernel
theorem dX12_rowData_142 : decode cX12_rowData 142 = .ok (.iload_n 2, 1) := by decide +kernel
theorem dX12_rowData_143 : decode cX12_rowData 143 = .ok (.if_icmp .ge 91, 3) := by decide +kernel
theorem dX12_rowData_146 : decode cX12_rowData 146 = .ok (.aload_n 0, 1) := by decide +kernel
theorem dX12_rowData_147 : decode cX12_rowData 147 = .ok (.getfield 9, 3) := by decide +kernel
theorem dX12_rowData_150 : decode cX12_rowData 150 = .ok (.bipush 60, 2) := by decide +kernel
theorem dX12_rowData_152 : decode cX12_rowData 152 = .ok (.iload 5, 2) := by decide +kernel
theorem dX12_rowData_154 : decode cX12_rowData 154 = .ok (.bipush 8, 2) := by decide +kernel
theorem dX12_rowData_156 : decode cX12_rowData 156 = .ok (.idiv, 1) := by decide +kernel
theorem dX12_rowData_157 : decode cX12_rowData 157 = .ok (.iadd, 1) := by decide +kernel
theorem dX12_rowData_158 : decode cX12_rowData 158 = .ok (.iaload, 1) := by decide +kernel
theorem dX12_rowData_159 : decode cX12_rowData 159 = .ok (.bipush 7, 2) := by decide +kernel
theorem dX12_rowData_161 : decode cX12_rowData 161 = .ok (.iload 5, 2) := by decide +kernel
theorem dX12_rowData_163 : decode cX12_rowData 163 = .ok (.bipush 8, 2) := by decide +kernel
theorem dX12_rowData_165 : decode cX12_rowData 165 = .ok (.irem, 1) := by decide +kernel
theorem dX12_rowData_166 : decode cX12_rowData 166 = .ok (.isub, 1) := by decide +kernel
theorem dX12_rowData_167 : decode cX12_rowData 167 = .ok (.ishr, 1) := by decide +kernel
theorem dX12_rowData_168 : decode cX12_rowData 168 = .ok (.iconst 1, 1) := by decide +kernel
theorem dX12_rowData_169 : decode cX12_rowData 169 = .ok (.iand, 1) := by decide +kernel
theorem dX12_rowData_170 : decode cX12_rowData 170 = .ok (.istore 6, 2) := by decide +kernel
theorem dX12_rowData_172 : decode cX12_rowData 172 = .ok (.iconst 0, 1) := by decide +kernel
theorem dX12_rowData_173 : decode cX12_rowData 173 = .ok (.istore 7, 2) := by decide +kernel
theorem dX12_rowData_175 : decode cX12_rowData 175 = .ok (.iload 7, 2) := by decide +kernel
theorem dX12_rowData_177 : decode cX12_rowData 177 = .ok (.iload_n 3, 1) := by decide +kernel
theorem dX12_rowData_178 : decode cX12_rowData 178 = .ok (.if_icmp .ge 50, 3) := by decide +kernel
theorem dX12_rowData_181 : decode cX12_rowData 181 = .ok (.iconst 0, 1) := by decide +kernel
theorem dX12_rowData_182 : decode cX12_rowData 182 = .ok (.istore 8, 2) := by decide +kernel
theorem dX12_rowData_184 : decode cX12_rowData 184 = .ok (.iload 8, 2) := by decide +kernel
theorem dX12_rowData_186 : decode cX12_rowData 186 = .ok (.iload_n 3, 1) := by decide +kernel
theorem dX12_rowData_187 : decode cX12_rowData 187 = .ok (.if_icmp .ge 35, 3) := by decide +kernel
theorem dX12_rowData_190 : decode cX12_rowData 190 = .ok (.aload_n 0, 1) := by decide +kernel
theorem dX12_rowData_191 : decode cX12_rowData 191 = .ok (.aload_n 0, 1) := by decide +kernel
theorem dX12_rowData_192 : decode cX12_rowData 192 = .ok (.getfield 9, 3) := by decide +kernel
theorem dX12_rowData_195 : decode cX12_rowData 195 = .ok (.bipush 58, 2) := by decide +kernel
theorem dX12_rowData_197 : decode cX12_rowData 197 = .ok (.iaload, 1) := by decide +kernel
theorem dX12_rowData_198 : decode cX12_rowData 198 = .ok (.iload_n 3, 1) := by decide +kernel
theorem dX12_rowData_199 : decode cX12_rowData 199 = .ok (.iload 5, 2) := by decide +kernel
theorem dX12_rowData_201 : decode cX12_rowData 201 = .ok (.imul, 1) := by decide +kernel
theorem dX12_rowData_202 : decode cX12_rowData 202 = .ok (.iadd, 1) := by decide +kernel
theorem dX12_rowData_203 : decode cX12_rowData 203 = .ok (.iload 8, 2) := by decide +kernel
theorem dX12_rowData_205 : decode cX12_rowData 205 = .ok (.iadd, 1) := by decide +kernel
theorem dX12_rowData_206 : decode cX12_rowData 206 = .ok (.iload 4, 2) := by decide +kernel
theorem dX12_rowData_208 : decode cX12_rowData 208 = .ok (.iload 7, 2) := by decide +kernel
theorem dX12_rowData_210 : decode cX12_rowData 210 = .ok (.iadd, 1) := by decide +kernel
theorem dX12_rowData_211 : decode cX12_rowData 211 = .ok (.iload 6, 2) := by decide +kernel
theorem dX12_rowData_213 : decode cX12_rowData 213 = .ok (.invokevirtual 331, 3) := by decide +kernel
theorem dX12_rowData_216 : decode cX12_rowData 216 = .ok (.iinc 8 1, 3) := by decide +kernel
theorem dX12_rowData_219 : decode cX12_rowData 219 = .ok (.goto (-35), 3) := by decide +kernel
theorem dX12_rowData_222 : decode cX12_rowData 222 = .ok (.iinc 7 1, 3) := by decide +kernel
theorem dX12_rowData_225 : decode cX12_rowData 225 = .ok (.goto (-50), 3) := by decide +kernel
theorem dX12_rowData_228 : decode cX12_rowData 228 = .ok (.iinc 5 1, 3) := by decide +kernel
theorem dX12_rowData_231 : decode cX12_rowData 231 = .ok (.goto (-91), 3) := by decide +kernel
theorem dX12_rowData_234 : decode cX12_rowData 234 = .ok (.aload_n 0, 1) := by decide +kernel
theorem dX12_rowData_235 : decode cX12_rowData 235 = .ok (.getfield 9, 3) := by decide +kernel
theorem dX12_rowData_238 : decode cX12_rowData 238 = .ok (.bipush 59, 2) := by decide +kernel
theorem dX12_rowData_240 : decode cX12_rowData 240 = .ok (.dup2, 1) := by decide +kernel
theorem dX12_rowData_241 : decode cX12_rowData 241 = .ok (.iaload, 1) := by decide +kernel
theorem dX12_rowData_242 : decode cX12_rowData 242 = .ok (.iconst 1, 1) := by decide +kernel
theorem dX12_rowData_243 : decode cX12_rowData 243 = .ok (.iadd, 1) := by decide +kernel
theorem dX12_rowData_244 : decode cX12_rowData 244 = .ok (.iastore, 1) := by decide +kernel
theorem dX12_rowData_245 : decode cX12_rowData 245 = .ok (.aload_n 0, 1) := by decide +kernel
theorem dX12_rowData_246 : decode cX12_rowData 246 = .ok (.aload_n 0, 1) := by decide +kernel
theorem dX12_rowData_247 : decode cX12_rowData 247 = .ok (.getfield 9, 3) := by decide +kernel
theorem dX12_rowData_250 : decode cX12_rowData 250 = .ok (.sipush 190, 3) := by decide +kernel
theorem dX12_rowData_253 : decode cX12_rowData 253 = .ok (.iaload, 1) := by decide +kernel
theorem dX12_rowData_254 : decode cX12_rowData 254 = .ok (.i2l, 1) := by decide +kernel
theorem dX12_rowData_255 : decode cX12_rowData 255 = .ok (.ldc2_w 204, 3) := by decide +kernel
theorem dX12_rowData_258 : decode cX12_rowData 258 = .ok (.iload_n 3, 1) := by decide +kernel
theorem dX12_rowData_259 : decode cX12_rowData 259 = .ok (.i2l, 1) := by decide +kernel
theorem dX12_rowData_260 : decode cX12_rowData 260 = .ok (.lmul, 1) := by decide +kernel
theorem dX12_rowData_261 : decode cX12_rowData 261 = .ok (.ladd, 1) := by decide +kernel
theorem dX12_rowData_262 : decode cX12_rowData 262 = .ok (.invokevirtual 206, 3) := by decide +kernel
theorem dX12_rowData_265 : decode cX12_rowData 265 = .ok (.return_, 1) := by decide +kernel
noncomputable def f_X12_rowData_b184 (k175 : Int32 → Int32 → Int32 → Int32 → Int32 → Int32 → Mm → Option (Unit × Mm)) (k184 : Int32 → Int32 → Int32 → Int32 → Int32 → Int32 → Int32 → Mm → Option (Unit × Mm)) (a2 : Int32) (a3 : Int32) (a4 : Int32) (a5 : Int32) (a6 : Int32) (a7 : Int32) (a8 : Int32) (T : Mm) : Option (Unit × Mm) :=
  if a3 ≤ a8 then (k175 a2 a3 a4 a5 a6 (a7 + 1) T)
  else (bd (f_X12_lay_ (((gA T 134 58) + (a3 * a5)) + a8) (a4 + a7) a6 T) fun _ T1 =>
  k184 a2 a3 a4 a5 a6 a7 (a8 + 1) T1)
set_option maxRecDepth 100000 in
set_option maxHeartbeats 4000000 in
theorem s_X12_rowData_b184 {x : JX} {ad : Nat → Nat} {U : Mm} {S0 : Hp} {q : Unit × Mm}  {k175 : Int32 → Int32 → Int32 → Int32 → Int32 → Int32 → Mm → Option (Unit × Mm)} {k184 : Int32 → Int32 → Int32 → Int32 → Int32 → Int32 → Int32 → Mm → Option (Unit × Mm)} (hn9 : x_n x = 9) (C : CB x RX12 cX12_rowData) (M : CMr x 5 none S0 ad false U eV q) (hk175 : ∀ (a2 : Int32) (a3 : Int32) (a4 : Int32) (a5 : Int32) (a6 : Int32) (a7 : Int32) (T : Mm), k175 a2 a3 a4 a5 a6 a7 T = some q → Jr x ad false U T [(0, .ref (ad 133)), (2, .int a2), (3, .int a3), (4, .int a4), (5, .int a5), (6, .int a6), (7, .int a7)] 175 []) (hk184 : ∀ (a2 : Int32) (a3 : Int32) (a4 : Int32) (a5 : Int32) (a6 : Int32) (a7 : Int32) (a8 : Int32) (T : Mm), k184 a2 a3 a4 a5 a6 a7 a8 T = some q → Jr x ad false U T [(0, .ref (ad 133)), (2, .int a2), (3, .int a3), (4, .int a4), (5, .int a5), (6, .int a6), (7, .int a7), (8, .int a8)] 184 []) (a2 : Int32) (a3 : Int32) (a4 : Int32) (a5 : Int32) (a6 : Int32) (a7 : Int32) (a8 : Int32) (T : Mm) (h : f_X12_rowData_b184 k175 k184 a2 a3 a4 a5 a6 a7 a8 T = some q) : Jr x ad false U T [(0, .ref (ad 133)), (2, .int a2), (3, .int a3), (4, .int a4), (5, .int a5), (6, .int a6), (7, .int a7), (8, .int a8)] 184 [] := by
  unfold f_X12_rowData_b184 at h
  refine r_iload C dX12_rowData_184 7 rfl ?_
  refine r_iload_n C dX12_rowData_186 rfl 2 rfl ?_
  refine r_ic_ge (tgt := 222) C dX12_rowData_187 (by decide) h (fun h => ?_) (fun h => ?_)
  · refine r_iinc (q := 6) (v := (a7 + 1)) (lv' := [(7, .int (a7 + 1)), (0, .ref (ad 133)), (2, .int a2), (3, .int a3), (4, .int a4), (5, .int a5), (6, .int a6), (8, .int a8)]) C dX12_rowData_222 rfl (by rw [show Int32.ofInt (1) = 1 by decide]) (by rw [hn9]; decide) rfl ?_
    refine r_goto (tgt := 175) C dX12_rowData_225 (by decide) ?_
    refine Jr.sub [1, 2, 3, 4, 5, 6, 0] (lv' := [(0, .ref (ad 133)), (2, .int a2), (3, .int a3), (4, .int a4), (5, .int a5), (6, .int a6), (7, .int (a7 + 1))]) rfl ?_
    exact hk175 a2 a3 a4 a5 a6 (a7 + 1) T h
  · refine r_aload_n C dX12_rowData_190 rfl 0 rfl ?_
    refine r_aload_n C dX12_rowData_191 rfl 0 rfl ?_
    refine r_getp (f := 1200) (j := 134) C flX12_9 dX12_rowData_192 kq_133 (by decide) rfl (fun W => pt_1200 kq_133 W) ?_
    refine r_bipush (v := 58) C dX12_rowData_195 (by decide) ?_
    refine r_ialdc (n := 192) C 58 dX12_rowData_197 kq_134 lq_134 (vp_lit (by decide)) (by decide) ?_
    show Jr _ _ _ _ _ _ 198 _
    refine r_iload_n C dX12_rowData_198 rfl 2 rfl ?_
    refine r_iload C dX12_rowData_199 4 rfl ?_
    refine r_imul C dX12_rowData_201 rfl ?_
    refine r_iadd C dX12_rowData_202 rfl ?_
    refine r_iload C dX12_rowData_203 7 rfl ?_
    refine r_iadd C dX12_rowData_205 rfl ?_
    show Jr _ _ _ _ _ _ 206 _
    refine r_iload C dX12_rowData_206 3 rfl ?_
    refine r_iload C dX12_rowData_208 6 rfl ?_
    refine r_iadd C dX12_rowData_210 rfl ?_
    refine r_iload C dX12_rowData_211 5 rfl ?_
    refine r_callVN C M h [.int (((gA T 134 58) + (a3 * a5)) + a8), .int (a4 + a7), .int a6] [] mlX12_331 mcX12_lay_ (fun q9 e9 => s_X12_lay_ (((gA T 134 58) + (a3 * a5)) + a8) (a4 + a7) a6  e9) kq_133 rfl (by decide) (by decide) rfl rfl (Nat.le_of_ble_eq_true rfl) dX12_rowData_213 (fun _ T1 h => ?_)
    refine r_iinc (q := 7) (v := (a8 + 1)) (lv' := [(8, .int (a8 + 1)), (0, .ref (ad 133)), (2, .int a2), (3, .int a3), (4, .int a4), (5, .int a5), (6, .int a6), (7, .int a7)]) C dX12_rowData_216 rfl (by rw [show Int32.ofInt (1) = 1 by decide]) (by rw [hn9]; decide) rfl ?_
    show Jr _ _ _ _ _ _ 219 _
    refine r_goto (tgt := 184) C dX12_rowData_219 (by decide) ?_
    refine Jr.sub [1, 2, 3, 4, 5, 6, 7, 0] (lv' := [(0, .ref (ad 133)), (2, .int a2), (3, .int a3), (4, .int a4), (5, .int a5), (6, .int a6), (7, .int a7), (8, .int (a8 + 1))]) rfl ?_
    exact hk184 a2 a3 a4 a5 a6 a7 (a8 + 1) T1 h
noncomputable def f_X12_rowData_l184 (k175 : Int32 → Int32 → Int32 → Int32 → Int32 → Int32 → Mm → Option (Unit × Mm)) (n : Nat) : Int32 → Int32 → Int32 → Int32 → Int32 → Int32 → Int32 → Mm → Option (Unit × Mm) := Nat.rec (fun _ _ _ _ _ _ _ _ => none) (fun _ ih => f_X12_rowData_b184 k175 ih) n
theorem s_X12_rowData_l184 {x : JX} {ad : Nat → Nat} {U : Mm} {S0 : Hp} {q : Unit × Mm}  {k175 : Int32 → Int32 → Int32 → Int32 → Int32 → Int32 → Mm → Option (Unit × Mm)} (hn9 : x_n x = 9) (C : CB x RX12 cX12_rowData) (M : CMr x 5 none S0 ad false U eV q) (hk175 : ∀ (a2 : Int32) (a3 : Int32) (a4 : Int32) (a5 : Int32) (a6 : Int32) (a7 : Int32) (T : Mm), k175 a2 a3 a4 a5 a6 a7 T = some q → Jr x ad false U T [(0, .ref (ad 133)), (2, .int a2), (3, .int a3), (4, .int a4), (5, .int a5), (6, .int a6), (7, .int a7)] 175 []) : ∀ (n : Nat), ∀ (a2 : Int32) (a3 : Int32) (a4 : Int32) (a5 : Int32) (a6 : Int32) (a7 : Int32) (a8 : Int32) (T : Mm), f_X12_rowData_l184 k175 n a2 a3 a4 a5 a6 a7 a8 T = some q → Jr x ad false U T [(0, .ref (ad 133)), (2, .int a2), (3, .int a3), (4, .int a4), (5, .int a5), (6, .int a6), (7, .int a7), (8, .int a8)] 184 [] := by
  intro n
  induction n with
  | zero => intro a2 a3 a4 a5 a6 a7 a8 T  h; exact absurd h (by intro h; cases h)
  | succ n ih => exact fun a2 a3 a4 a5 a6 a7 a8 T  h => s_X12_rowData_b184 hn9 C M hk175 (ih) a2 a3 a4 a5 a6 a7 a8 T  h
noncomputable def f_X12_rowData_b175 (k140 : Int32 → Int32 → Int32 → Int32 → Mm → Option (Unit × Mm)) (k175 : Int32 → Int32 → Int32 → Int32 → Int32 → Int32 → Mm → Option (Unit × Mm)) (a2 : Int32) (a3 : Int32) (a4 : Int32) (a5 : Int32) (a6 : Int32) (a7 : Int32) (T : Mm) : Option (Unit × Mm) :=
  if a3 ≤ a7 then (k140 a2 a3 a4 (a5 + 1) T)
  else (f_X12_rowData_l184 k175 FU a2 a3 a4 a5 a6 a7 0 T)
set_option maxRecDepth 100000 in
set_option maxHeartbeats 4000000 in
theorem s_X12_rowData_b175 {x : JX} {ad : Nat → Nat} {U : Mm} {S0 : Hp} {q : Unit × Mm}  {k140 : Int32 → Int32 → Int32 → Int32 → Mm → Option (Unit × Mm)} {k175 : Int32 → Int32 → Int32 → Int32 → Int32 → Int32 → Mm → Option (Unit × Mm)} (hn9 : x_n x = 9) (C : CB x RX12 cX12_rowData) (M : CMr x 5 none S0 ad false U eV q) (hk140 : ∀ (a2 : Int32) (a3 : Int32) (a4 : Int32) (a5 : Int32) (T : Mm), k140 a2 a3 a4 a5 T = some q → Jr x ad false U T [(0, .ref (ad 133)), (2, .int a2), (3, .int a3), (4, .int a4), (5, .int a5)] 140 []) (hk175 : ∀ (a2 : Int32) (a3 : Int32) (a4 : Int32) (a5 : Int32) (a6 : Int32) (a7 : Int32) (T : Mm), k175 a2 a3 a4 a5 a6 a7 T = some q → Jr x ad false U T [(0, .ref (ad 133)), (2, .int a2), (3, .int a3), (4, .int a4), (5, .int a5), (6, .int a6), (7, .int a7)] 175 []) (a2 : Int32) (a3 : Int32) (a4 : Int32) (a5 : Int32) (a6 : Int32) (a7 : Int32) (T : Mm) (h : f_X12_rowData_b175 k140 k175 a2 a3 a4 a5 a6 a7 T = some q) : Jr x ad false U T [(0, .ref (ad 133)), (2, .int a2), (3, .int a3), (4, .int a4), (5, .int a5), (6, .int a6), (7, .int a7)] 175 [] := by
  unfold f_X12_rowData_b175 at h
  refine r_iload C dX12_rowData_175 6 rfl ?_
  refine r_iload_n C dX12_rowData_177 rfl 2 rfl ?_
  refine r_ic_ge (tgt := 228) C dX12_rowData_178 (by decide) h (fun h => ?_) (fun h => ?_)
  · refine r_iinc (q := 4) (v := (a5 + 1)) (lv' := [(5, .int (a5 + 1)), (0, .ref (ad 133)), (2, .int a2), (3, .int a3), (4, .int a4), (6, .int a6), (7, .int a7)]) C dX12_rowData_228 rfl (by rw [show Int32.ofInt (1) = 1 by decide]) (by rw [hn9]; decide) rfl ?_
    refine r_goto (tgt := 140) C dX12_rowData_231 (by decide) ?_
    refine Jr.sub [1, 2, 3, 4, 0] (lv' := [(0, .ref (ad 133)), (2, .int a2), (3, .int a3), (4, .int a4), (5, .int (a5 + 1))]) rfl ?_
    exact hk140 a2 a3 a4 (a5 + 1) T h
  · refine r_iconst (v := 0) C dX12_rowData_181 (by decide) ?_
    refine r_istore (lv' := [(8, .int 0), (0, .ref (ad 133)), (2, .int a2), (3, .int a3), (4, .int a4), (5, .int a5), (6, .int a6), (7, .int a7)]) C dX12_rowData_182 (by rw [hn9]; decide) rfl ?_
    refine Jr.sub [1, 2, 3, 4, 5, 6, 7, 0] (lv' := [(0, .ref (ad 133)), (2, .int a2), (3, .int a3), (4, .int a4), (5, .int a5), (6, .int a6), (7, .int a7), (8, .int 0)]) rfl ?_
    exact s_X12_rowData_l184 hn9 C M hk175 FU a2 a3 a4 a5 a6 a7 0 T h
noncomputable def f_X12_rowData_l175 (k140 : Int32 → Int32 → Int32 → Int32 → Mm → Option (Unit × Mm)) (n : Nat) : Int32 → Int32 → Int32 → Int32 → Int32 → Int32 → Mm → Option (Unit × Mm) := Nat.rec (fun _ _ _ _ _ _ _ => none) (fun _ ih => f_X12_rowData_b175 k140 ih) n
theorem s_X12_rowData_l175 {x : JX} {ad : Nat → Nat} {U : Mm} {S0 : Hp} {q : Unit × Mm}  {k140 : Int32 → Int32 → Int32 → Int32 → Mm → Option (Unit × Mm)} (hn9 : x_n x = 9) (C : CB x RX12 cX12_rowData) (M : CMr x 5 none S0 ad false U eV q) (hk140 : ∀ (a2 : Int32) (a3 : Int32) (a4 : Int32) (a5 : Int32) (T : Mm), k140 a2 a3 a4 a5 T = some q → Jr x ad false U T [(0, .ref (ad 133)), (2, .int a2), (3, .int a3), (4, .int a4), (5, .int a5)] 140 []) : ∀ (n : Nat), ∀ (a2 : Int32) (a3 : Int32) (a4 : Int32) (a5 : Int32) (a6 : Int32) (a7 : Int32) (T : Mm), f_X12_rowData_l175 k140 n a2 a3 a4 a5 a6 a7 T = some q → Jr x ad false U T [(0, .ref (ad 133)), (2, .int a2), (3, .int a3), (4, .int a4), (5, .int a5), (6, .int a6), (7, .int a7)] 175 [] := by
  intro n
  induction n with
  | zero => intro a2 a3 a4 a5 a6 a7 T  h; exact absurd h (by intro h; cases h)
  | succ n ih => exact fun a2 a3 a4 a5 a6 a7 T  h => s_X12_rowData_b175 hn9 C M hk140 (ih) a2 a3 a4 a5 a6 a7 T  h
noncomputable def f_X12_rowData_b140 (k140 : Int32 → Int32 → Int32 → Int32 → Mm → Option (Unit × Mm)) (a2 : Int32) (a3 : Int32) (a4 : Int32) (a5 : Int32) (T : Mm) : Option (Unit × Mm) :=
  if a2 ≤ a5 then (lb (uA T 134 59 (((gA T 134 59) + 1))) fun T1 =>
  bd (f_X12_setY ((((gA T1 134 190)).toInt64) + ((96 : Int64) * ((a3).toInt64))) T1) fun _ T2 =>
  some ((), T2))
  else (ix ((60 : Int32) + (a5 / 8)) 192 fun j3 =>
  lb ((((gA T 134 j3) >>> (((7 : Int32) - (a5 - a5 / 8 * 8)) &&& 31)) &&& 1)) fun v5 =>
  f_X12_rowData_l175 k140 FU a2 a3 a4 a5 v5 0 T)
set_option maxRecDepth 100000 in
set_option maxHeartbeats 4000000 in
theorem s_X12_rowData_b140 {x : JX} {ad : Nat → Nat} {U : Mm} {S0 : Hp} {q : Unit × Mm}  {k140 : Int32 → Int32 → Int32 → Int32 → Mm → Option (Unit × Mm)} (hn9 : x_n x = 9) (C : CB x RX12 cX12_rowData) (M : CMr x 5 none S0 ad false U eV q) (hk140 : ∀ (a2 : Int32) (a3 : Int32) (a4 : Int32) (a5 : Int32) (T : Mm), k140 a2 a3 a4 a5 T = some q → Jr x ad false U T [(0, .ref (ad 133)), (2, .int a2), (3, .int a3), (4, .int a4), (5, .int a5)] 140 []) (a2 : Int32) (a3 : Int32) (a4 : Int32) (a5 : Int32) (T : Mm) (h : f_X12_rowData_b140 k140 a2 a3 a4 a5 T = some q) : Jr x ad false U T [(0, .ref (ad 133)), (2, .int a2), (3, .int a3), (4, .int a4), (5, .int a5)] 140 [] := by
  unfold f_X12_rowData_b140 at h
  refine r_iload C dX12_rowData_140 4 rfl ?_
  refine r_iload_n C dX12_rowData_142 rfl 1 rfl ?_
  refine r_ic_ge (tgt := 234) C dX12_rowData_143 (by decide) h (fun h => ?_) (fun h => ?_)
  · refine r_aload_n C dX12_rowData_234 rfl 0 rfl ?_
    refine r_getp (f := 1200) (j := 134) C flX12_9 dX12_rowData_235 kq_133 (by decide) rfl (fun W => pt_1200 kq_133 W) ?_
    refine r_bipush (v := 59) C dX12_rowData_238 (by decide) ?_
    refine r_dup2 C dX12_rowData_240 rfl rfl ?_
    refine r_ialdc (n := 192) C 59 dX12_rowData_241 kq_134 lq_134 (vp_lit (by decide)) (by decide) ?_
    show Jr _ _ _ _ _ _ 242 _
    refine r_iconst (v := 1) C dX12_rowData_242 (by decide) ?_
    refine r_iadd C dX12_rowData_243 rfl ?_
    refine r_iastc (n := 192) C 59 dX12_rowData_244 kq_134 lq_134 (vp_lit (by decide)) (by decide) h (fun T1 h => ?_)
    refine r_aload_n C dX12_rowData_245 rfl 0 rfl ?_
    refine r_aload_n C dX12_rowData_246 rfl 0 rfl ?_
    refine r_getp (f := 1200) (j := 134) C flX12_9 dX12_rowData_247 kq_133 (by decide) rfl (fun W => pt_1200 kq_133 W) ?_
    show Jr _ _ _ _ _ _ 250 _
    refine r_sipush (v := 190) C dX12_rowData_250 (by decide) ?_
    refine r_ialdc (n := 192) C 190 dX12_rowData_253 kq_134 lq_134 (vp_lit (by decide)) (by decide) ?_
    refine r_i2l C dX12_rowData_254 rfl ?_
    refine r_ldc2 (v := 96) C dX12_rowData_255 kcX12_204 ?_
    refine r_iload_n C dX12_rowData_258 rfl 2 rfl ?_
    refine r_i2l C dX12_rowData_259 rfl ?_
    show Jr _ _ _ _ _ _ 260 _
    refine r_lmul C dX12_rowData_260 rfl ?_
    refine r_ladd C dX12_rowData_261 rfl ?_
    refine r_callVN C M h [.long ((((gA T1 134 190)).toInt64) + ((96 : Int64) * ((a3).toInt64)))] [] mlX12_206 mcX12_setY (fun q9 e9 => s_X12_setY ((((gA T1 134 190)).toInt64) + ((96 : Int64) * ((a3).toInt64)))  e9) kq_133 rfl (by decide) (by decide) rfl rfl (Nat.le_of_ble_eq_true rfl) dX12_rowData_262 (fun _ T2 h => ?_)
    exact r_vret C M dX12_rowData_265 h
  · refine r_aload_n C dX12_rowData_146 rfl 0 rfl ?_
    refine r_getp (f := 1200) (j := 134) C flX12_9 dX12_rowData_147 kq_133 (by decide) rfl (fun W => pt_1200 kq_133 W) ?_
    refine r_bipush (v := 60) C dX12_rowData_150 (by decide) ?_
    refine r_iload C dX12_rowData_152 4 rfl ?_
    refine r_bipush (v := 8) C dX12_rowData_154 (by decide) ?_
    show Jr _ _ _ _ _ _ 156 _
    refine r_idiv C dX12_rowData_156 (by decide) rfl ?_
    refine r_iadd C dX12_rowData_157 rfl ?_
    refine r_iald (n := 192) C dX12_rowData_158 kq_134 lq_134 h (fun j3 hj4 h => ?_)
    refine r_bipush (v := 7) C dX12_rowData_159 (by decide) ?_
    refine r_iload C dX12_rowData_161 4 rfl ?_
    refine r_bipush (v := 8) C dX12_rowData_163 (by decide) ?_
    show Jr _ _ _ _ _ _ 165 _
    refine r_irem C dX12_rowData_165 (by decide) rfl ?_
    refine r_isub C dX12_rowData_166 rfl ?_
    refine r_ishr C dX12_rowData_167 rfl ?_
    refine r_iconst (v := 1) C dX12_rowData_168 (by decide) ?_
    refine r_iand C dX12_rowData_169 rfl ?_
    refine r_lbI h (fun v5 h => ?_)
    refine r_istore (lv' := [(6, .int v5), (0, .ref (ad 133)), (2, .int a2), (3, .int a3), (4, .int a4), (5, .int a5)]) C dX12_rowData_170 (by rw [hn9]; decide) rfl ?_
    show Jr _ _ _ _ _ _ 172 _
    refine r_iconst (v := 0) C dX12_rowData_172 (by decide) ?_
    refine r_istore (lv' := [(7, .int 0), (6, .int v5), (0, .ref (ad 133)), (2, .int a2), (3, .int a3), (4, .int a4), (5, .int a5)]) C dX12_rowData_173 (by rw [hn9]; decide) rfl ?_
    refine Jr.sub [2, 3, 4, 5, 6, 1, 0] (lv' := [(0, .ref (ad 133)), (2, .int a2), (3, .int a3), (4, .int a4), (5, .int a5), (6, .int v5), (7, .int 0)]) rfl ?_
    exact s_X12_rowData_l175 hn9 C M hk140 FU a2 a3 a4 a5 v5 0 T h
noncomputable def f_X12_rowData_l140 (n : Nat) : Int32 → Int32 → Int32 → Int32 → Mm → Option (Unit × Mm) := Nat.rec (fun _ _ _ _ _ => none) (fun _ ih => f_X12_rowData_b140 ih) n
theorem s_X12_rowData_l140 {x : JX} {ad : Nat → Nat} {U : Mm} {S0 : Hp} {q : Unit × Mm}  (hn9 : x_n x = 9) (C : CB x RX12 cX12_rowData) (M : CMr x 5 none S0 ad false U eV q) : ∀ (n : Nat), ∀ (a2 : Int32) (a3 : Int32) (a4 : Int32) (a5 : Int32) (T : Mm), f_X12_rowData_l140  n a2 a3 a4 a5 T = some q → Jr x ad false U T [(0, .ref (ad 133)), (2, .int a2), (3, .int a3), (4, .int a4), (5, .int a5)] 140 [] := by
  intro n
  induction n with
  | zero => intro a2 a3 a4 a5 T  h; exact absurd h (by intro h; cases h)
  | succ n ih => exact fun a2 a3 a4 a5 T  h => s_X12_rowData_b140 hn9 C M (ih) a2 a3 a4 a5 T  h
noncomputable def f_X12_rowData_86 (b0 : Int32) (T : Mm) : Option (Unit × Mm) :=
  lb ((gA T 134 53)) fun v1 =>
  lb (((gA T 134 190) / 96)) fun v2 =>
  bd (f_X12_mark (((gA T 134 58)).toInt64) ((v2).toInt64) (((b0 * v1)).toInt64) ((v1).toInt64) T) fun v3 T4 =>
  if v3 = 0 then (some ((), T4))
  else (bd (f_X12_useAtHand T4) fun _ T5 =>
  f_X12_rowData_l140 FU b0 v1 v2 0 T5)
set_option maxRecDepth 100000 in
set_option maxHeartbeats 4000000 in
theorem s_X12_rowData_86 {x : JX} {ad : Nat → Nat} {U : Mm} {S0 : Hp} {q : Unit × Mm}  (hn9 : x_n x = 9) (C : CB x RX12 cX12_rowData) (M : CMr x 5 none S0 ad false U eV q) (b0 : Int32) (T : Mm) (h : f_X12_rowData_86  b0 T = some q) : Jr x ad false U T [(0, .ref (ad 133))] 86 [.int b0] := by
  unfold f_X12_rowData_86 at h
  refine r_istore_n (lv' := [(2, .int b0), (0, .ref (ad 133))]) C dX12_rowData_86 rfl (by rw [hn9]; decide) rfl ?_
  refine r_aload_n C dX12_rowData_87 rfl 1 rfl ?_
  refine r_getp (f := 1200) (j := 134) C flX12_9 dX12_rowData_88 kq_133 (by decide) rfl (fun W => pt_1200 kq_133 W) ?_
  refine r_bipush (v := 53) C dX12_rowData_91 (by decide) ?_
  refine r_ialdc (n := 192) C 53 dX12_rowData_93 kq_134 lq_134 (vp_lit (by decide)) (by decide) ?_
  show Jr _ _ _ _ _ _ 94 _
  refine r_lbI h (fun v1 h => ?_)
  refine r_istore_n (lv' := [(3, .int v1), (2, .int b0), (0, .ref (ad 133))]) C dX12_rowData_94 rfl (by rw [hn9]; decide) rfl ?_
  refine r_aload_n C dX12_rowData_95 rfl 2 rfl ?_
  refine r_getp (f := 1200) (j := 134) C flX12_9 dX12_rowData_96 kq_133 (by decide) rfl (fun W => pt_1200 kq_133 W) ?_
  refine r_sipush (v := 190) C dX12_rowData_99 (by decide) ?_
  refine r_ialdc (n := 192) C 190 dX12_rowData_102 kq_134 lq_134 (vp_lit (by decide)) (by decide) ?_
  refine r_bipush (v := 96) C dX12_rowData_103 (by decide) ?_
  show Jr _ _ _ _ _ _ 105 _
  refine r_idiv C dX12_rowData_105 (by decide) rfl ?_
  refine r_lbI h (fun v2 h => ?_)
  refine r_istore (lv' := [(4, .int v2), (3, .int v1), (2, .int b0), (0, .ref (ad 133))]) C dX12_rowData_106 (by rw [hn9]; decide) rfl ?_
  refine r_aload_n C dX12_rowData_108 rfl 3 rfl ?_
  refine r_aload_n C dX12_rowData_109 rfl 3 rfl ?_
  refine r_getp (f := 1200) (j := 134) C flX12_9 dX12_rowData_110 kq_133 (by decide) rfl (fun W => pt_1200 kq_133 W) ?_
  refine r_bipush (v := 58) C dX12_rowData_113 (by decide) ?_
  show Jr _ _ _ _ _ _ 115 _
  refine r_ialdc (n := 192) C 58 dX12_rowData_115 kq_134 lq_134 (vp_lit (by decide)) (by decide) ?_
  refine r_i2l C dX12_rowData_116 rfl ?_
  refine r_iload C dX12_rowData_117 0 rfl ?_
  refine r_i2l C dX12_rowData_119 rfl ?_
  refine r_iload_n C dX12_rowData_120 rfl 2 rfl ?_
  refine r_iload_n C dX12_rowData_121 rfl 1 rfl ?_
  show Jr _ _ _ _ _ _ 122 _
  refine r_imul C dX12_rowData_122 rfl ?_
  refine r_i2l C dX12_rowData_123 rfl ?_
  refine r_iload_n C dX12_rowData_124 rfl 1 rfl ?_
  refine r_i2l C dX12_rowData_125 rfl ?_
  refine r_callVI C M h [.long (((gA T 134 58)).toInt64), .long ((v2).toInt64), .long (((b0 * v1)).toInt64), .long ((v1).toInt64)] [] mlX12_317 mcX12_mark (fun q9 e9 => s_X12_mark (((gA T 134 58)).toInt64) ((v2).toInt64) (((b0 * v1)).toInt64) ((v1).toInt64)  e9) kq_133 rfl (by decide) (by decide) rfl rfl (Nat.le_of_ble_eq_true rfl) dX12_rowData_126 (fun v3 T4 h => ?_)
  refine r_if_ne (tgt := 133) C dX12_rowData_129 (by decide) h (fun h => ?_) (fun h => ?_)
  · refine r_aload_n C dX12_rowData_133 rfl 3 rfl ?_
    refine r_callVN C M h [] [] mlX12_321 mcX12_useAtHand (fun q9 e9 => s_X12_useAtHand   e9) kq_133 rfl (by decide) (by decide) rfl rfl (Nat.le_of_ble_eq_true rfl) dX12_rowData_134 (fun _ T5 h => ?_)
    refine r_iconst (v := 0) C dX12_rowData_137 (by decide) ?_
    refine r_istore (lv' := [(5, .int 0), (4, .int v2), (3, .int v1), (2, .int b0), (0, .ref (ad 133))]) C dX12_rowData_138 (by rw [hn9]; decide) rfl ?_
    refine Jr.sub [4, 3, 2, 1, 0] (lv' := [(0, .ref (ad 133)), (2, .int b0), (3, .int v1), (4, .int v2), (5, .int 0)]) rfl ?_
    exact s_X12_rowData_l140 hn9 C M  FU b0 v1 v2 0 T5 h
  · exact r_vret C M dX12_rowData_132 h
noncomputable def f_X12_rowData_44 (a1 : Int32) (T : Mm) : Option (Unit × Mm) :=
  bd (f_X12_unpack a1 T) fun _ T1 =>
  if (gA T1 134 55) = (-1) then (f_X12_rowData_86 640 T1)
  else (if (gA T1 134 55) ≤ 640 then (f_X12_rowData_86 (gA T1 134 55) T1)
  else (f_X12_rowData_86 640 T1))
set_option maxRecDepth 100000 in
set_option maxHeartbeats 4000000 in
theorem s_X12_rowData_44 {x : JX} {ad : Nat → Nat} {U : Mm} {S0 : Hp} {q : Unit × Mm}  (hn9 : x_n x = 9) (C : CB x RX12 cX12_rowData) (M : CMr x 5 none S0 ad false U eV q) (a1 : Int32) (T : Mm) (h : f_X12_rowData_44  a1 T = some q) : Jr x ad false U T [(0, .ref (ad 133)), (1, .int a1)] 44 [] := by
  unfold f_X12_rowData_44 at h
  refine r_aload_n C dX12_rowData_44 rfl 0 rfl ?_
  refine r_iload_n C dX12_rowData_45 rfl 1 rfl ?_
  refine r_callVN C M h [.int a1] [] mlX12_493 mcX12_unpack (fun q9 e9 => s_X12_unpack a1  e9) kq_133 rfl (by decide) (by decide) rfl rfl (Nat.le_of_ble_eq_true rfl) dX12_rowData_46 (fun _ T1 h => ?_)
  refine r_aload_n C dX12_rowData_49 rfl 0 rfl ?_
  refine r_getp (f := 1200) (j := 134) C flX12_9 dX12_rowData_50 kq_133 (by decide) rfl (fun W => pt_1200 kq_133 W) ?_
  show Jr _ _ _ _ _ _ 53 _
  refine r_bipush (v := 55) C dX12_rowData_53 (by decide) ?_
  refine r_ialdc (n := 192) C 55 dX12_rowData_55 kq_134 lq_134 (vp_lit (by decide)) (by decide) ?_
  refine r_iconst (v := (-1)) C dX12_rowData_56 (by decide) ?_
  refine r_ic_eq (tgt := 73) C dX12_rowData_57 (by decide) h (fun h => ?_) (fun h => ?_)
  · refine r_sipush (v := 640) C dX12_rowData_73 (by decide) ?_
    refine r_goto (tgt := 86) C dX12_rowData_76 (by decide) ?_
    refine Jr.sub [0] (lv' := [(0, .ref (ad 133))]) rfl ?_
    exact s_X12_rowData_86 hn9 C M  640 T1 h
  · refine r_aload_n C dX12_rowData_60 rfl 0 rfl ?_
    refine r_getp (f := 1200) (j := 134) C flX12_9 dX12_rowData_61 kq_133 (by decide) rfl (fun W => pt_1200 kq_133 W) ?_
    refine r_bipush (v := 55) C dX12_rowData_64 (by decide) ?_
    refine r_ialdc (n := 192) C 55 dX12_rowData_66 kq_134 lq_134 (vp_lit (by decide)) (by decide) ?_
    refine r_sipush (v := 640) C dX12_rowData_67 (by decide) ?_
    show Jr _ _ _ _ _ _ 70 _
    refine r_ic_le (tgt := 79) C dX12_rowData_70 (by decide) h (fun h => ?_) (fun h => ?_)
    · refine r_aload_n C dX12_rowData_79 rfl 0 rfl ?_
      refine r_getp (f := 1200) (j := 134) C flX12_9 dX12_rowData_80 kq_133 (by decide) rfl (fun W => pt_1200 kq_133 W) ?_
      refine r_bipush (v := 55) C dX12_rowData_83 (by decide) ?_
      refine r_ialdc (n := 192) C 55 dX12_rowData_85 kq_134 lq_134 (vp_lit (by decide)) (by decide) ?_
      refine Jr.sub [0] (lv' := [(0, .ref (ad 133))]) rfl ?_
      exact s_X12_rowData_86 hn9 C M  (gA T1 134 55) T1 h
    · refine r_sipush (v := 640) C dX12_rowData_73 (by decide) ?_
      refine r_goto (tgt := 86) C dX12_rowData_76 (by decide) ?_
      refine Jr.sub [0] (lv' := [(0, .ref (ad 133))]) rfl ?_
      exact s_X12_rowData_86 hn9 C M  640 T1 h
noncomputable def f_X12_rowData_15 (a1 : Int32) (T : Mm) : Option (Unit × Mm) :=
  if (gA T 134 56) = (-1) then (f_X12_rowData_44 a1 T)
  else (if (gA T 134 59) < (gA T 134 56) then (f_X12_rowData_44 a1 T)
  else (some ((), T)))
set_option maxRecDepth 100000 in
set_option maxHeartbeats 4000000 in
theorem s_X12_rowData_15 {x : JX} {ad : Nat → Nat} {U : Mm} {S0 : Hp} {q : Unit × Mm}  (hn9 : x_n x = 9) (C : CB x RX12 cX12_rowData) (M : CMr x 5 none S0 ad false U eV q) (a1 : Int32) (T : Mm) (h : f_X12_rowData_15  a1 T = some q) : Jr x ad false U T [(0, .ref (ad 133)), (1, .int a1)] 15 [] := by
  unfold f_X12_rowData_15 at h
  refine r_aload_n C dX12_rowData_15 rfl 0 rfl ?_
  refine r_getp (f := 1200) (j := 134) C flX12_9 dX12_rowData_16 kq_133 (by decide) rfl (fun W => pt_1200 kq_133 W) ?_
  refine r_bipush (v := 56) C dX12_rowData_19 (by decide) ?_
  refine r_ialdc (n := 192) C 56 dX12_rowData_21 kq_134 lq_134 (vp_lit (by decide)) (by decide) ?_
  refine r_iconst (v := (-1)) C dX12_rowData_22 (by decide) ?_
  show Jr _ _ _ _ _ _ 23 _
  refine r_ic_eq (tgt := 44) C dX12_rowData_23 (by decide) h (fun h => ?_) (fun h => ?_)
  · exact s_X12_rowData_44 hn9 C M  a1 T h
  · refine r_aload_n C dX12_rowData_26 rfl 0 rfl ?_
    refine r_getp (f := 1200) (j := 134) C flX12_9 dX12_rowData_27 kq_133 (by decide) rfl (fun W => pt_1200 kq_133 W) ?_
    refine r_bipush (v := 59) C dX12_rowData_30 (by decide) ?_
    refine r_ialdc (n := 192) C 59 dX12_rowData_32 kq_134 lq_134 (vp_lit (by decide)) (by decide) ?_
    refine r_aload_n C dX12_rowData_33 rfl 0 rfl ?_
    show Jr _ _ _ _ _ _ 34 _
    refine r_getp (f := 1200) (j := 134) C flX12_9 dX12_rowData_34 kq_133 (by decide) rfl (fun W => pt_1200 kq_133 W) ?_
    refine r_bipush (v := 56) C dX12_rowData_37 (by decide) ?_
    refine r_ialdc (n := 192) C 56 dX12_rowData_39 kq_134 lq_134 (vp_lit (by decide)) (by decide) ?_
    refine r_ic_lt (tgt := 44) C dX12_rowData_40 (by decide) h (fun h => ?_) (fun h => ?_)
    · exact s_X12_rowData_44 hn9 C M  a1 T h
    · exact r_vret C M dX12_rowData_43 h
noncomputable def f_X12_rowData (p1 : Int32) (T : Mm) : Option (Unit × Mm) :=
  if (gA T 134 57) = 0 then (bd (f_X12_begin 1 T) fun _ T1 =>
  f_X12_rowData_15 p1 T1)
  else (f_X12_rowData_15 p1 T)
set_option maxRecDepth 100000 in
set_option maxHeartbeats 4000000 in
theorem s_X12_rowData {ad : Nat → Nat} {U T : Mm} {q : Unit × Mm}  (p1 : Int32) (h : f_X12_rowData p1 T = some q) : Cr 5 yX12_rowData cX12_rowData 9 none [.ref (ad 133), .int p1] ad false U T eV q := by
  refine cr_of (by decide) (Nat.le_of_ble_eq_true rfl) fun x S0 hn9 C M => ?_
  have C : CB x RX12 cX12_rowData := C
  refine Jr.eq (lv' := [(0, .ref (ad 133)), (1, .int p1)]) (st' := []) rfl rfl ?_
  unfold f_X12_rowData at h
  refine r_aload_n C dX12_rowData_0 rfl 0 rfl ?_
  refine r_getp (f := 1200) (j := 134) C flX12_9 dX12_rowData_1 kq_133 (by decide) rfl (fun W => pt_1200 kq_133 W) ?_
  refine r_bipush (v := 57) C dX12_rowData_4 (by decide) ?_
  refine r_ialdc (n := 192) C 57 dX12_rowData_6 kq_134 lq_134 (vp_lit (by decide)) (by decide) ?_
  refine r_if_ne (tgt := 15) C dX12_rowData_7 (by decide) h (fun h => ?_) (fun h => ?_)
  · exact s_X12_rowData_15 hn9 C M  p1 T h
  · refine r_aload_n C dX12_rowData_10 rfl 0 rfl ?_
    refine r_iconst (v := 1) C dX12_rowData_11 (by decide) ?_
    refine r_callVN C M h [.int 1] [] mlX12_490 mcX12_begin (fun q9 e9 => s_X12_begin 1  e9) kq_133 rfl (by decide) (by decide) rfl rfl (Nat.le_of_ble_eq_true rfl) dX12_rowData_12 (fun _ T1 h => ?_)
    exact s_X12_rowData_15 hn9 C M  p1 T1 h
theorem dX12_withData_0 : decode cX12_withData 0 = .ok (.aload_n 0, 1) := by decide +kernel
theorem dX12_withData_1 : decode cX12_withData 1 = .ok (.getfield 379, 3) := by decide +kernel
theorem dX12_withData_4 : decode cX12_withData 4 = .ok (.ifCond .ge 7, 3) := by decide +kernel
theorem dX12_withData_7 : decode cX12_withData 7 = .ok (.iconst 0, 1) := by decide +kernel
theorem dX12_withData_8 : decode cX12_withData 8 = .ok (.goto 7, 3) := by decide +kernel
theorem dX12_withData_11 : decode cX12_withData 11 = .ok (.aload_n 0, 1) := by decide +kernel
theorem dX12_withData_12 : decode cX12_withData 12 = .ok (.getfield 379, 3) := by decide +kernel
theorem dX12_withData_15 : decode cX12_withData 15 = .ok (.istore 4, 2) := by decide +kernel
theorem dX12_withData_17 : decode cX12_withData 17 = .ok (.iload 4, 2) := by decide +kernel
theorem dX12_withData_19 : decode cX12_withData 19 = .ok (.aload_n 0, 1) := by decide +kernel
theorem dX12_withData_20 : decode cX12_withData 20 = .ok (.getfield 266, 3) := by decide +kernel
theorem dX12_withData_23 : decode cX12_withData 23 = .ok (.aload_n 0, 1) := by decide +kernel
theorem dX12_withData_24 : decode cX12_withData 24 = .ok (.getfield 263, 3) := by decide +kernel
theorem dX12_withData_27 : decode cX12_withData 27 = .ok (.isub, 1) := by decide +kernel
theorem dX12_withData_28 : decode cX12_withData 28 = .ok (.if_icmp .le 15, 3) := by decide +kernel
theorem dX12_withData_31 : decode cX12_withData 31 = .ok (.aload_n 0, 1) := by decide +kernel
theorem dX12_withData_32 : decode cX12_withData 32 = .ok (.getfield 266, 3) := by decide +kernel
theorem dX12_withData_35 : decode cX12_withData 35 = .ok (.aload_n 0, 1) := by decide +kernel
theorem dX12_withData_36 : decode cX12_withData 36 = .ok (.getfield 263, 3) := by decide +kernel
theorem dX12_withData_39 : decode cX12_withData 39 = .ok (.isub, 1) := by decide +kernel
theorem dX12_withData_40 : decode cX12_withData 40 = .ok (.goto 5, 3) := by decide +kernel
theorem dX12_withData_43 : decode cX12_withData 43 = .ok (.iload 4, 2) := by decide +kernel
theorem dX12_withData_45 : decode cX12_withData 45 = .ok (.istore 4, 2) := by decide +kernel
theorem dX12_withData_47 : decode cX12_withData 47 = .ok (.aload_n 0, 1) := by decide +kernel
theorem dX12_withData_48 : decode cX12_withData 48 = .ok (.iload 4, 2) := by decide +kernel
theorem dX12_withData_50 : decode cX12_withData 50 = .ok (.invokevirtual 269, 3) := by decide +kernel
theorem dX12_withData_53 : decode cX12_withData 53 = .ok (.aload_n 0, 1) := by decide +kernel
theorem dX12_withData_54 : decode cX12_withData 54 = .ok (.getfield 191, 3) := by decide +kernel
theorem dX12_withData_57 : decode cX12_withData 57 = .ok (.ifCond .eq 4, 3) := by decide +kernel
theorem dX12_withData_60 : decode cX12_withData 60 = .ok (.return_, 1) := by decide +kernel
theorem dX12_withData_61 : decode cX12_withData 61 = .ok (.aload_n 0, 1) := by decide +kernel
theorem dX12_withData_62 : decode cX12_withData 62 = .ok (.getfield 263, 3) := by decide +kernel
theorem dX12_withData_65 : decode cX12_withData 65 = .ok (.istore 5, 2) := by decide +kernel
theorem dX12_withData_67 : decode cX12_withData 67 = .ok (.iload_n 3, 1) := by decide +kernel
theorem dX12_withData_68 : decode cX12_withData 68 = .ok (.bipush 88, 2) := by decide +kernel
theorem dX12_withData_70 : decode cX12_withData 70 = .ok (.if_icmp .ne 47, 3) := by decide +kernel
theorem dX12_withData_73 : decode cX12_withData 73 = .ok (.iconst 0, 1) := by decide +kernel
theorem dX12_withData_74 : decode cX12_withData 74 = .ok (.istore 6, 2) := by decide +kernel
theorem dX12_withData_76 : decode cX12_withData 76 = .ok (.iload 6, 2) := by decide +kernel
theorem dX12_withData_78 : decode cX12_withData 78 = .ok (.iload 4, 2) := by decide +kernel
theorem dX12_withData_80 : decode cX12_withData 80 = .ok (.if_icmp .ge 34, 3) := by decide +kernel
theorem dX12_withData_83 : decode cX12_withData 83 = .ok (.aload_n 0, 1) := by decide +kernel
theorem dX12_withData_84 : decode cX12_withData 84 = .ok (.getfield 191, 3) := by decide +kernel
theorem dX12_withData_87 : decode cX12_withData 87 = .ok (.ifCond .ne 27, 3) := by decide +kernel
theorem dX12_withData_90 : decode cX12_withData 90 = .ok (.aload_n 0, 1) := by decide +kernel
theorem dX12_withData_91 : decode cX12_withData 91 = .ok (.aload_n 0, 1) := by decide +kernel
theorem dX12_withData_92 : decode cX12_withData 92 = .ok (.getfield 272, 3) := by decide +kernel
theorem dX12_withData_95 : decode cX12_withData 95 = .ok (.iload 5, 2) := by decide +kernel
theorem dX12_withData_97 : decode cX12_withData 97 = .ok (.iload 6, 2) := by decide +kernel
theorem dX12_withData_99 : decode cX12_withData 99 = .ok (.iadd, 1) := by decide +kernel
theorem dX12_withData_100 : decode cX12_withData 100 = .ok (.baload, 1) := by decide +kernel
theorem dX12_withData_101 : decode cX12_withData 101 = .ok (.sipush 255, 3) := by decide +kernel
theorem dX12_withData_104 : decode cX12_withData 104 = .ok (.iand, 1) := by decide +kernel
theorem dX12_withData_105 : decode cX12_withData 105 = .ok (.invokevirtual 298, 3) := by decide +kernel
theorem dX12_withData_108 : decode cX12_withData 108 = .ok (.iinc 6 1, 3) := by decide +kernel
theorem dX12_withData_111 : decode cX12_withData 111 = .ok (.goto (-35), 3) := by decide +kernel
theorem dX12_withData_114 : decode cX12_withData 114 = .ok (.goto 84, 3) := by decide +kernel
theorem dX12_withData_117 : decode cX12_withData 117 = .ok (.iload_n 1, 1) := by decide +kernel
theorem dX12_withData_118 : decode cX12_withData 118 = .ok (.bipush 41, 2) := by decide +kernel
theorem dX12_withData_120 : decode cX12_withData 120 = .ok (.if_icmp .ne 18, 3) := by decide +kernel
theorem dX12_withData_123 : decode cX12_withData 123 = .ok (.iload_n 2, 1) := by decide +kernel
theorem dX12_withData_124 : decode cX12_withData 124 = .ok (.bipush 115, 2) := by decide +kernel
theorem dX12_withData_126 : decode cX12_withData 126 = .ok (.if_icmp .ne 12, 3) := by decide +kernel
theorem dX12_withData_129 : decode cX12_withData 129 = .ok (.aload_n 0, 1) := by decide +kernel
theorem dX12_withData_130 : decode cX12_withData 130 = .ok (.iload 4, 2) := by decide +kernel
theorem dX12_withData_132 : decode cX12_withData 132 = .ok (.invokevirtual 472, 3) := by decide +kernel
theorem dX12_withData_135 : decode cX12_withData 135 = .ok (.goto 63, 3) := by decide +kernel
theorem dX12_withData_138 : decode cX12_withData 138 = .ok (.iload_n 1, 1) := by decide +kernel
theorem dX12_withData_139 : decode cX12_withData 139 = .ok (.bipush 40, 2) := by decide +kernel
theorem dX12_withData_141 : decode cX12_withData 141 = .ok (.if_icmp .ne 18, 3) := by decide +kernel
theorem dX12_withData_144 : decode cX12_withData 144 = .ok (.iload_n 2, 1) := by decide +kernel
theorem dX12_withData_145 : decode cX12_withData 145 = .ok (.bipush 115, 2) := by decide +kernel
theorem dX12_withData_147 : decode cX12_withData 147 = .ok (.if_icmp .ne 12, 3) := by decide +kernel
theorem dX12_withData_150 : decode cX12_withData 150 = .ok (.aload_n 0, 1) := by decide +kernel
theorem dX12_withData_151 : decode cX12_withData 151 = .ok (.iload 4, 2) := by decide +kernel
theorem dX12_withData_153 : decode cX12_withData 153 = .ok (.invokevirtual 475, 3) := by decide +kernel
theorem dX12_withData_156 : decode cX12_withData 156 = .ok (.goto 42, 3) := by decide +kernel
theorem dX12_withData_159 : decode cX12_withData 159 = .ok (.iload_n 1, 1) := by decide +kernel
theorem dX12_withData_160 : decode cX12_withData 160 = .ok (.bipush 42, 2) := by decide +kernel
theorem dX12_withData_162 : decode cX12_withData 162 = .ok (.if_icmp .ne 18, 3) := by decide +kernel
theorem dX12_withData_165 : decode cX12_withData 165 = .ok (.iload_n 2, 1) := by decide +kernel
theorem dX12_withData_166 : decode cX12_withData 166 = .ok (.bipush 99, 2) := by decide +kernel
theorem dX12_withData_168 : decode cX12_withData 168 = .ok (.if_icmp .ne 12, 3) := by decide +kernel
theorem dX12_withData_171 : decode cX12_withData 171 = .ok (.aload_n 0, 1) := by decide +kernel
theorem dX12_withData_172 : decode cX12_withData 172 = .ok (.iload 4, 2) := by decide +kernel
theorem dX12_withData_174 : decode cX12_withData 174 = .ok (.invokevirtual 478, 3) := by decide +kernel
theorem dX12_withData_177 : decode cX12_withData 177 = .ok (.goto 21, 3) := by decide +kernel
theorem dX12_withData_180 : decode cX12_withData 180 = .ok (.iload_n 1, 1) := by decide +kernel
theorem dX12_withData_181 : decode cX12_withData 181 = .ok (.bipush 42, 2) := by decide +kernel
theorem dX12_withData_183 : decode cX12_withData 183 = .ok (.if_icmp .ne 15, 3) := by decide +kernel
theorem dX12_withData_186 : decode cX12_withData 186 = .ok (.iload_n 2, 1) := by decide +kernel
theorem dX12_withData_187 : decode cX12_withData 187 = .ok (.bipush 98, 2) := by decide +kernel
theorem dX12_withData_189 : decode cX12_withData 189 = .ok (.if_icmp .ne 9, 3) := by decide +kernel
theorem dX12_withData_192 : decode cX12_withData 192 = .ok (.aload_n 0, 1) := by decide +kernel
theorem dX12_withData_193 : decode cX12_withData 193 = .ok (.iload 4, 2) := by decide +kernel
theorem dX12_withData_195 : decode cX12_withData 195 = .ok (.invokevirtual 481, 3) := by decide +kernel
theorem dX12_withData_198 : decode cX12_withData 198 = .ok (.aload_n 0, 1) := by decide +kernel
theorem dX12_withData_199 : decode cX12_withData 199 = .ok (.iload 5, 2) := by decide +kernel
theorem dX12_withData_201 : decode cX12_withData 201 = .ok (.iload 4, 2) := by decide +kernel
theorem dX12_withData_203 : decode cX12_withData 203 = .ok (.iadd, 1) := by decide +kernel
theorem dX12_withData_204 : decode cX12_withData 204 = .ok (.putfield 263, 3) := by decide +kernel
theorem dX12_withData_207 : decode cX12_withData 207 = .ok (.return_, 1) := by decide +kernel
noncomputable def f_X12_withData_180 (G : Int32 → Mm → Option (Unit × Mm)) (a1 : Int32) (a2 : Int32) (a4 : Int32) (a5 : Int32) (T : Mm) : Option (Unit × Mm) :=
  if a1 = 42 then (if a2 = 98 then (bd (f_X12_rowData a4 T) fun _ T3 =>
  lb (uI T3 1227 133 (a5 + a4)) fun T4 =>
  some ((), T4))
  else (lb (uI T 1227 133 (a5 + a4)) fun T2 =>
  some ((), T2)))
  else (lb (uI T 1227 133 (a5 + a4)) fun T1 =>
  some ((), T1))
set_option maxRecDepth 100000 in
set_option maxHeartbeats 4000000 in
theorem s_X12_withData_180 {x : JX} {ad : Nat → Nat} {U : Mm} {S0 : Hp} {q : Unit × Mm} {D : Nat} {G : Int32 → Mm → Option (Unit × Mm)}  (hn9 : x_n x = 7) (C : CB x RX12 cX12_withData) (M : CMr x (D + 4) none S0 ad false U eV q) (hD : 40 ≤ D) (hG : ∀ (i : Int32) (T : Mm) (q : Unit × Mm), G i T = some q → Cr D yX12_through cX12_through 8 none [.ref (ad 133), .int i] ad false U T eV q) (a1 : Int32) (a2 : Int32) (a4 : Int32) (a5 : Int32) (T : Mm) (h : f_X12_withData_180 G  a1 a2 a4 a5 T = some q) : Jr x ad false U T [(0, .ref (ad 133)), (1, .int a1), (2, .int a2), (4, .int a4), (5, .int a5)] 180 [] := by
  unfold f_X12_withData_180 at h
  refine r_iload_n C dX12_withData_180 rfl 1 rfl ?_
  refine r_bipush (v := 42) C dX12_withData_181 (by decide) ?_
  refine r_ic_ne (tgt := 198) C dX12_withData_183 (by decide) h (fun h => ?_) (fun h => ?_)
  · refine r_aload_n C dX12_withData_198 rfl 0 rfl ?_
    refine r_iload C dX12_withData_199 4 rfl ?_
    refine r_iload C dX12_withData_201 3 rfl ?_
    refine r_iadd C dX12_withData_203 rfl ?_
    refine r_puti (f := 1227) C flX12_263 (by decide) rfl rfl dX12_withData_204 kq_133 rfl h (fun T1 h => ?_)
    show Jr _ _ _ _ _ _ 207 _
    exact r_vret C M dX12_withData_207 h
  · refine r_iload_n C dX12_withData_186 rfl 2 rfl ?_
    refine r_bipush (v := 98) C dX12_withData_187 (by decide) ?_
    refine r_ic_ne (tgt := 198) C dX12_withData_189 (by decide) h (fun h => ?_) (fun h => ?_)
    · refine r_aload_n C dX12_withData_198 rfl 0 rfl ?_
      refine r_iload C dX12_withData_199 4 rfl ?_
      refine r_iload C dX12_withData_201 3 rfl ?_
      refine r_iadd C dX12_withData_203 rfl ?_
      refine r_puti (f := 1227) C flX12_263 (by decide) rfl rfl dX12_withData_204 kq_133 rfl h (fun T2 h => ?_)
      show Jr _ _ _ _ _ _ 207 _
      exact r_vret C M dX12_withData_207 h
    · refine r_aload_n C dX12_withData_192 rfl 0 rfl ?_
      refine r_iload C dX12_withData_193 3 rfl ?_
      refine r_callVN C M h [.int a4] [] mlX12_481 mcX12_rowData (fun q9 e9 => s_X12_rowData a4  e9) kq_133 rfl (by omega) (by decide) rfl rfl (Nat.le_of_ble_eq_true rfl) dX12_withData_195 (fun _ T3 h => ?_)
      refine r_aload_n C dX12_withData_198 rfl 0 rfl ?_
      refine r_iload C dX12_withData_199 4 rfl ?_
      show Jr _ _ _ _ _ _ 201 _
      refine r_iload C dX12_withData_201 3 rfl ?_
      refine r_iadd C dX12_withData_203 rfl ?_
      refine r_puti (f := 1227) C flX12_263 (by decide) rfl rfl dX12_withData_204 kq_133 rfl h (fun T4 h => ?_)
      exact r_vret C M dX12_withData_207 h
noncomputable def f_X12_withData_159 (G : Int32 → Mm → Option (Unit × Mm)) (a1 : Int32) (a2 : Int32) (a4 : Int32) (a5 : Int32) (T : Mm) : Option (Unit × Mm) :=
  if a1 = 42 then (if a2 = 99 then (bd (f_X12_userData a4 T) fun _ T1 =>
  lb (uI T1 1227 133 (a5 + a4)) fun T2 =>
  some ((), T2))
  else (f_X12_withData_180 G a1 a2 a4 a5 T))
  else (f_X12_withData_180 G a1 a2 a4 a5 T)
set_option maxRecDepth 100000 in
set_option maxHeartbeats 4000000 in
theorem s_X12_withData_159 {x : JX} {ad : Nat → Nat} {U : Mm} {S0 : Hp} {q : Unit × Mm} {D : Nat} {G : Int32 → Mm → Option (Unit × Mm)}  (hn9 : x_n x = 7) (C : CB x RX12 cX12_withData) (M : CMr x (D + 4) none S0 ad false U eV q) (hD : 40 ≤ D) (hG : ∀ (i : Int32) (T : Mm) (q : Unit × Mm), G i T = some q → Cr D yX12_through cX12_through 8 none [.ref (ad 133), .int i] ad false U T eV q) (a1 : Int32) (a2 : Int32) (a4 : Int32) (a5 : Int32) (T : Mm) (h : f_X12_withData_159 G  a1 a2 a4 a5 T = some q) : Jr x ad false U T [(0, .ref (ad 133)), (1, .int a1), (2, .int a2), (4, .int a4), (5, .int a5)] 159 [] := by
  unfold f_X12_withData_159 at h
  refine r_iload_n C dX12_withData_159 rfl 1 rfl ?_
  refine r_bipush (v := 42) C dX12_withData_160 (by decide) ?_
  refine r_ic_ne (tgt := 180) C dX12_withData_162 (by decide) h (fun h => ?_) (fun h => ?_)
  · exact s_X12_withData_180 hn9 C M hD hG  a1 a2 a4 a5 T h
  · refine r_iload_n C dX12_withData_165 rfl 2 rfl ?_
    refine r_bipush (v := 99) C dX12_withData_166 (by decide) ?_
    refine r_ic_ne (tgt := 180) C dX12_withData_168 (by decide) h (fun h => ?_) (fun h => ?_)
    · exact s_X12_withData_180 hn9 C M hD hG  a1 a2 a4 a5 T h
    · refine r_aload_n C dX12_withData_171 rfl 0 rfl ?_
      refine r_iload C dX12_withData_172 3 rfl ?_
      refine r_callVN C M h [.int a4] [] mlX12_478 mcX12_userData (fun q9 e9 => s_X12_userData a4  e9) kq_133 rfl (by omega) (by decide) rfl rfl (Nat.le_of_ble_eq_true rfl) dX12_withData_174 (fun _ T1 h => ?_)
      refine r_goto (tgt := 198) C dX12_withData_177 (by decide) ?_
      refine r_aload_n C dX12_withData_198 rfl 0 rfl ?_
      show Jr _ _ _ _ _ _ 199 _
      refine r_iload C dX12_withData_199 4 rfl ?_
      refine r_iload C dX12_withData_201 3 rfl ?_
      refine r_iadd C dX12_withData_203 rfl ?_
      refine r_puti (f := 1227) C flX12_263 (by decide) rfl rfl dX12_withData_204 kq_133 rfl h (fun T2 h => ?_)
      exact r_vret C M dX12_withData_207 h
noncomputable def f_X12_withData_138 (G : Int32 → Mm → Option (Unit × Mm)) (a1 : Int32) (a2 : Int32) (a4 : Int32) (a5 : Int32) (T : Mm) : Option (Unit × Mm) :=
  if a1 = 40 then (if a2 = 115 then (bd (f_X12_glyphData a4 T) fun _ T1 =>
  lb (uI T1 1227 133 (a5 + a4)) fun T2 =>
  some ((), T2))
  else (f_X12_withData_159 G a1 a2 a4 a5 T))
  else (f_X12_withData_159 G a1 a2 a4 a5 T)
set_option maxRecDepth 100000 in
set_option maxHeartbeats 4000000 in
theorem s_X12_withData_138 {x : JX} {ad : Nat → Nat} {U : Mm} {S0 : Hp} {q : Unit × Mm} {D : Nat} {G : Int32 → Mm → Option (Unit × Mm)}  (hn9 : x_n x = 7) (C : CB x RX12 cX12_withData) (M : CMr x (D + 4) none S0 ad false U eV q) (hD : 40 ≤ D) (hG : ∀ (i : Int32) (T : Mm) (q : Unit × Mm), G i T = some q → Cr D yX12_through cX12_through 8 none [.ref (ad 133), .int i] ad false U T eV q) (a1 : Int32) (a2 : Int32) (a4 : Int32) (a5 : Int32) (T : Mm) (h : f_X12_withData_138 G  a1 a2 a4 a5 T = some q) : Jr x ad false U T [(0, .ref (ad 133)), (1, .int a1), (2, .int a2), (4, .int a4), (5, .int a5)] 138 [] := by
  unfold f_X12_withData_138 at h
  refine r_iload_n C dX12_withData_138 rfl 1 rfl ?_
  refine r_bipush (v := 40) C dX12_withData_139 (by decide) ?_
  refine r_ic_ne (tgt := 159) C dX12_withData_141 (by decide) h (fun h => ?_) (fun h => ?_)
  · exact s_X12_withData_159 hn9 C M hD hG  a1 a2 a4 a5 T h
  · refine r_iload_n C dX12_withData_144 rfl 2 rfl ?_
    refine r_bipush (v := 115) C dX12_withData_145 (by decide) ?_
    refine r_ic_ne (tgt := 159) C dX12_withData_147 (by decide) h (fun h => ?_) (fun h => ?_)
    · exact s_X12_withData_159 hn9 C M hD hG  a1 a2 a4 a5 T h
    · refine r_aload_n C dX12_withData_150 rfl 0 rfl ?_
      refine r_iload C dX12_withData_151 3 rfl ?_
      refine r_callVN C M h [.int a4] [] mlX12_475 mcX12_glyphData (fun q9 e9 => s_X12_glyphData a4  e9) kq_133 rfl (by omega) (by decide) rfl rfl (Nat.le_of_ble_eq_true rfl) dX12_withData_153 (fun _ T1 h => ?_)
      refine r_goto (tgt := 198) C dX12_withData_156 (by decide) ?_
      refine r_aload_n C dX12_withData_198 rfl 0 rfl ?_
      show Jr _ _ _ _ _ _ 199 _
      refine r_iload C dX12_withData_199 4 rfl ?_
      refine r_iload C dX12_withData_201 3 rfl ?_
      refine r_iadd C dX12_withData_203 rfl ?_
      refine r_puti (f := 1227) C flX12_263 (by decide) rfl rfl dX12_withData_204 kq_133 rfl h (fun T2 h => ?_)
      exact r_vret C M dX12_withData_207 h
noncomputable def f_X12_withData_b76 (G : Int32 → Mm → Option (Unit × Mm)) (k76 : Int32 → Int32 → Int32 → Mm → Option (Unit × Mm)) (a4 : Int32) (a5 : Int32) (a6 : Int32) (T : Mm) : Option (Unit × Mm) :=
  if a4 ≤ a6 then (lb (uI T 1227 133 (a5 + a4)) fun T1 =>
  some ((), T1))
  else (if (gI T 1233 133) = 0 then (rf false (gR T 1226 133) 13 fun j3 =>
  ix (a5 + a6) (LN j3) fun j5 =>
  bd (f_X12_show G ((gA T j3 j5) &&& 255) T) fun _ T7 =>
  k76 a4 a5 (a6 + 1) T7)
  else (lb (uI T 1227 133 (a5 + a4)) fun T2 =>
  some ((), T2)))
set_option maxRecDepth 100000 in
set_option maxHeartbeats 4000000 in
theorem s_X12_withData_b76 {x : JX} {ad : Nat → Nat} {U : Mm} {S0 : Hp} {q : Unit × Mm} {D : Nat} {G : Int32 → Mm → Option (Unit × Mm)}  {k76 : Int32 → Int32 → Int32 → Mm → Option (Unit × Mm)} (hn9 : x_n x = 7) (C : CB x RX12 cX12_withData) (M : CMr x (D + 4) none S0 ad false U eV q) (hD : 40 ≤ D) (hG : ∀ (i : Int32) (T : Mm) (q : Unit × Mm), G i T = some q → Cr D yX12_through cX12_through 8 none [.ref (ad 133), .int i] ad false U T eV q) (hk76 : ∀ (a4 : Int32) (a5 : Int32) (a6 : Int32) (T : Mm), k76 a4 a5 a6 T = some q → Jr x ad false U T [(0, .ref (ad 133)), (4, .int a4), (5, .int a5), (6, .int a6)] 76 []) (a4 : Int32) (a5 : Int32) (a6 : Int32) (T : Mm) (h : f_X12_withData_b76 G k76 a4 a5 a6 T = some q) : Jr x ad false U T [(0, .ref (ad 133)), (4, .int a4), (5, .int a5), (6, .int a6)] 76 [] := by
  unfold f_X12_withData_b76 at h
  refine r_iload C dX12_withData_76 3 rfl ?_
  refine r_iload C dX12_withData_78 1 rfl ?_
  refine r_ic_ge (tgt := 114) C dX12_withData_80 (by decide) h (fun h => ?_) (fun h => ?_)
  · refine r_goto (tgt := 198) C dX12_withData_114 (by decide) ?_
    refine r_aload_n C dX12_withData_198 rfl 0 rfl ?_
    refine r_iload C dX12_withData_199 2 rfl ?_
    refine r_iload C dX12_withData_201 1 rfl ?_
    refine r_iadd C dX12_withData_203 rfl ?_
    show Jr _ _ _ _ _ _ 204 _
    refine r_puti (f := 1227) C flX12_263 (by decide) rfl rfl dX12_withData_204 kq_133 rfl h (fun T1 h => ?_)
    exact r_vret C M dX12_withData_207 h
  · refine r_aload_n C dX12_withData_83 rfl 0 rfl ?_
    refine r_geti (f := 1233) C flX12_191 dX12_withData_84 kq_133 (by decide) (by decide) rfl ?_
    refine r_if_ne (tgt := 114) C dX12_withData_87 (by decide) h (fun h => ?_) (fun h => ?_)
    · refine r_goto (tgt := 198) C dX12_withData_114 (by decide) ?_
      refine r_aload_n C dX12_withData_198 rfl 0 rfl ?_
      refine r_iload C dX12_withData_199 2 rfl ?_
      refine r_iload C dX12_withData_201 1 rfl ?_
      refine r_iadd C dX12_withData_203 rfl ?_
      show Jr _ _ _ _ _ _ 204 _
      refine r_puti (f := 1227) C flX12_263 (by decide) rfl rfl dX12_withData_204 kq_133 rfl h (fun T2 h => ?_)
      exact r_vret C M dX12_withData_207 h
    · refine r_aload_n C dX12_withData_90 rfl 0 rfl ?_
      refine r_aload_n C dX12_withData_91 rfl 0 rfl ?_
      refine r_getr (f := 1226) (c := 13) C flX12_272 dX12_withData_92 kq_133 (by decide) rfl h (fun j3 hj4 h => ?_)
      refine r_iload C dX12_withData_95 2 rfl ?_
      refine r_iload C dX12_withData_97 3 rfl ?_
      show Jr _ _ _ _ _ _ 99 _
      refine r_iadd C dX12_withData_99 rfl ?_
      refine r_bald (n := (LN j3)) C dX12_withData_100 hj4 rfl h (fun j5 hj6 h => ?_)
      refine r_sipush (v := 255) C dX12_withData_101 (by decide) ?_
      refine r_iand C dX12_withData_104 rfl ?_
      refine r_callVN C M h [.int ((gA T j3 j5) &&& 255)] [] mlX12_298 mcX12_show (fun q9 e9 => s_X12_show hD (fun i9 T9 q9 e9 => hG i9 T9 q9 e9) ((gA T j3 j5) &&& 255)  e9) kq_133 rfl (by omega) (by decide) rfl rfl (Nat.le_of_ble_eq_true rfl) dX12_withData_105 (fun _ T7 h => ?_)
      refine r_iinc (q := 3) (v := (a6 + 1)) (lv' := [(6, .int (a6 + 1)), (0, .ref (ad 133)), (4, .int a4), (5, .int a5)]) C dX12_withData_108 rfl (by rw [show Int32.ofInt (1) = 1 by decide]) (by rw [hn9]; decide) rfl ?_
      show Jr _ _ _ _ _ _ 111 _
      refine r_goto (tgt := 76) C dX12_withData_111 (by decide) ?_
      refine Jr.sub [1, 2, 3, 0] (lv' := [(0, .ref (ad 133)), (4, .int a4), (5, .int a5), (6, .int (a6 + 1))]) rfl ?_
      exact hk76 a4 a5 (a6 + 1) T7 h
noncomputable def f_X12_withData_l76 (G : Int32 → Mm → Option (Unit × Mm)) (n : Nat) : Int32 → Int32 → Int32 → Mm → Option (Unit × Mm) := Nat.rec (fun _ _ _ _ => none) (fun _ ih => f_X12_withData_b76 G ih) n
theorem s_X12_withData_l76 {x : JX} {ad : Nat → Nat} {U : Mm} {S0 : Hp} {q : Unit × Mm} {D : Nat} {G : Int32 → Mm → Option (Unit × Mm)}  (hn9 : x_n x = 7) (C : CB x RX12 cX12_withData) (M : CMr x (D + 4) none S0 ad false U eV q) (hD : 40 ≤ D) (hG : ∀ (i : Int32) (T : Mm) (q : Unit × Mm), G i T = some q → Cr D yX12_through cX12_through 8 none [.ref (ad 133), .int i] ad false U T eV q) : ∀ (n : Nat), ∀ (a4 : Int32) (a5 : Int32) (a6 : Int32) (T : Mm), f_X12_withData_l76 G  n a4 a5 a6 T = some q → Jr x ad false U T [(0, .ref (ad 133)), (4, .int a4), (5, .int a5), (6, .int a6)] 76 [] := by
  intro n
  induction n with
  | zero => intro a4 a5 a6 T  h; exact absurd h (by intro h; cases h)
  | succ n ih => exact fun a4 a5 a6 T  h => s_X12_withData_b76 hn9 C M hD hG (ih) a4 a5 a6 T  h
noncomputable def f_X12_withData_45 (G : Int32 → Mm → Option (Unit × Mm)) (a1 : Int32) (a2 : Int32) (a3 : Int32) (b0 : Int32) (T : Mm) : Option (Unit × Mm) :=
  bd (f_X12_count b0 T) fun _ T1 =>
  if (gI T1 1233 133) = 0 then (lb ((gI T1 1227 133)) fun v2 =>
  if a3 = 88 then (f_X12_withData_l76 G FU b0 v2 0 T1)
  else (if a1 = 41 then (if a2 = 115 then (bd (f_X12_fontData b0 T1) fun _ T3 =>
  lb (uI T3 1227 133 (v2 + b0)) fun T4 =>
  some ((), T4))
  else (f_X12_withData_138 G a1 a2 b0 v2 T1))
  else (f_X12_withData_138 G a1 a2 b0 v2 T1)))
  else (some ((), T1))
set_option maxRecDepth 100000 in
set_option maxHeartbeats 4000000 in
theorem s_X12_withData_45 {x : JX} {ad : Nat → Nat} {U : Mm} {S0 : Hp} {q : Unit × Mm} {D : Nat} {G : Int32 → Mm → Option (Unit × Mm)}  (hn9 : x_n x = 7) (C : CB x RX12 cX12_withData) (M : CMr x (D + 4) none S0 ad false U eV q) (hD : 40 ≤ D) (hG : ∀ (i : Int32) (T : Mm) (q : Unit × Mm), G i T = some q → Cr D yX12_through cX12_through 8 none [.ref (ad 133), .int i] ad false U T eV q) (a1 : Int32) (a2 : Int32) (a3 : Int32) (b0 : Int32) (T : Mm) (h : f_X12_withData_45 G  a1 a2 a3 b0 T = some q) : Jr x ad false U T [(0, .ref (ad 133)), (1, .int a1), (2, .int a2), (3, .int a3)] 45 [.int b0] := by
  unfold f_X12_withData_45 at h
  refine r_istore (lv' := [(4, .int b0), (0, .ref (ad 133)), (1, .int a1), (2, .int a2), (3, .int a3)]) C dX12_withData_45 (by rw [hn9]; decide) rfl ?_
  refine r_aload_n C dX12_withData_47 rfl 1 rfl ?_
  refine r_iload C dX12_withData_48 0 rfl ?_
  refine r_callVN C M h [.int b0] [] mlX12_269 mcX12_count (fun q9 e9 => s_X12_count b0  e9) kq_133 rfl (by omega) (by decide) rfl rfl (Nat.le_of_ble_eq_true rfl) dX12_withData_50 (fun _ T1 h => ?_)
  refine r_aload_n C dX12_withData_53 rfl 1 rfl ?_
  show Jr _ _ _ _ _ _ 54 _
  refine r_geti (f := 1233) C flX12_191 dX12_withData_54 kq_133 (by decide) (by decide) rfl ?_
  refine r_if_eq (tgt := 61) C dX12_withData_57 (by decide) h (fun h => ?_) (fun h => ?_)
  · refine r_aload_n C dX12_withData_61 rfl 1 rfl ?_
    refine r_geti (f := 1227) C flX12_263 dX12_withData_62 kq_133 (by decide) (by decide) rfl ?_
    refine r_lbI h (fun v2 h => ?_)
    refine r_istore (lv' := [(5, .int v2), (4, .int b0), (0, .ref (ad 133)), (1, .int a1), (2, .int a2), (3, .int a3)]) C dX12_withData_65 (by rw [hn9]; decide) rfl ?_
    refine r_iload_n C dX12_withData_67 rfl 5 rfl ?_
    refine r_bipush (v := 88) C dX12_withData_68 (by decide) ?_
    show Jr _ _ _ _ _ _ 70 _
    refine r_ic_ne (tgt := 117) C dX12_withData_70 (by decide) h (fun h => ?_) (fun h => ?_)
    · refine r_iload_n C dX12_withData_117 rfl 3 rfl ?_
      refine r_bipush (v := 41) C dX12_withData_118 (by decide) ?_
      refine r_ic_ne (tgt := 138) C dX12_withData_120 (by decide) h (fun h => ?_) (fun h => ?_)
      · refine Jr.sub [2, 3, 4, 1, 0] (lv' := [(0, .ref (ad 133)), (1, .int a1), (2, .int a2), (4, .int b0), (5, .int v2)]) rfl ?_
        exact s_X12_withData_138 hn9 C M hD hG  a1 a2 b0 v2 T1 h
      · refine r_iload_n C dX12_withData_123 rfl 4 rfl ?_
        refine r_bipush (v := 115) C dX12_withData_124 (by decide) ?_
        refine r_ic_ne (tgt := 138) C dX12_withData_126 (by decide) h (fun h => ?_) (fun h => ?_)
        · refine Jr.sub [2, 3, 4, 1, 0] (lv' := [(0, .ref (ad 133)), (1, .int a1), (2, .int a2), (4, .int b0), (5, .int v2)]) rfl ?_
          exact s_X12_withData_138 hn9 C M hD hG  a1 a2 b0 v2 T1 h
        · refine r_aload_n C dX12_withData_129 rfl 2 rfl ?_
          refine r_iload C dX12_withData_130 1 rfl ?_
          refine r_callVN C M h [.int b0] [] mlX12_472 mcX12_fontData (fun q9 e9 => s_X12_fontData b0  e9) kq_133 rfl (by omega) (by decide) rfl rfl (Nat.le_of_ble_eq_true rfl) dX12_withData_132 (fun _ T3 h => ?_)
          refine r_goto (tgt := 198) C dX12_withData_135 (by decide) ?_
          refine r_aload_n C dX12_withData_198 rfl 2 rfl ?_
          show Jr _ _ _ _ _ _ 199 _
          refine r_iload C dX12_withData_199 0 rfl ?_
          refine r_iload C dX12_withData_201 1 rfl ?_
          refine r_iadd C dX12_withData_203 rfl ?_
          refine r_puti (f := 1227) C flX12_263 (by decide) rfl rfl dX12_withData_204 kq_133 rfl h (fun T4 h => ?_)
          exact r_vret C M dX12_withData_207 h
    · refine r_iconst (v := 0) C dX12_withData_73 (by decide) ?_
      refine r_istore (lv' := [(6, .int 0), (5, .int v2), (4, .int b0), (0, .ref (ad 133)), (1, .int a1), (2, .int a2), (3, .int a3)]) C dX12_withData_74 (by rw [hn9]; decide) rfl ?_
      refine Jr.sub [3, 2, 1, 0] (lv' := [(0, .ref (ad 133)), (4, .int b0), (5, .int v2), (6, .int 0)]) rfl ?_
      exact s_X12_withData_l76 hn9 C M hD hG  FU b0 v2 0 T1 h
  · exact r_vret C M dX12_withData_60 h
noncomputable def f_X12_withData_15 (G : Int32 → Mm → Option (Unit × Mm)) (a1 : Int32) (a2 : Int32) (a3 : Int32) (b0 : Int32) (T : Mm) : Option (Unit × Mm) :=
  if b0 ≤ ((gI T 1228 133) - (gI T 1227 133)) then (f_X12_withData_45 G a1 a2 a3 b0 T)
  else (f_X12_withData_45 G a1 a2 a3 ((gI T 1228 133) - (gI T 1227 133)) T)
set_option maxRecDepth 100000 in
set_option maxHeartbeats 4000000 in
theorem s_X12_withData_15 {x : JX} {ad : Nat → Nat} {U : Mm} {S0 : Hp} {q : Unit × Mm} {D : Nat} {G : Int32 → Mm → Option (Unit × Mm)}  (hn9 : x_n x = 7) (C : CB x RX12 cX12_withData) (M : CMr x (D + 4) none S0 ad false U eV q) (hD : 40 ≤ D) (hG : ∀ (i : Int32) (T : Mm) (q : Unit × Mm), G i T = some q → Cr D yX12_through cX12_through 8 none [.ref (ad 133), .int i] ad false U T eV q) (a1 : Int32) (a2 : Int32) (a3 : Int32) (b0 : Int32) (T : Mm) (h : f_X12_withData_15 G  a1 a2 a3 b0 T = some q) : Jr x ad false U T [(0, .ref (ad 133)), (1, .int a1), (2, .int a2), (3, .int a3)] 15 [.int b0] := by
  unfold f_X12_withData_15 at h
  refine r_istore (lv' := [(4, .int b0), (0, .ref (ad 133)), (1, .int a1), (2, .int a2), (3, .int a3)]) C dX12_withData_15 (by rw [hn9]; decide) rfl ?_
  refine r_iload C dX12_withData_17 0 rfl ?_
  refine r_aload_n C dX12_withData_19 rfl 1 rfl ?_
  refine r_geti (f := 1228) C flX12_266 dX12_withData_20 kq_133 (by decide) (by decide) rfl ?_
  refine r_aload_n C dX12_withData_23 rfl 1 rfl ?_
  show Jr _ _ _ _ _ _ 24 _
  refine r_geti (f := 1227) C flX12_263 dX12_withData_24 kq_133 (by decide) (by decide) rfl ?_
  refine r_isub C dX12_withData_27 rfl ?_
  refine r_ic_le (tgt := 43) C dX12_withData_28 (by decide) h (fun h => ?_) (fun h => ?_)
  · refine r_iload C dX12_withData_43 0 rfl ?_
    refine Jr.sub [1, 2, 3, 4] (lv' := [(0, .ref (ad 133)), (1, .int a1), (2, .int a2), (3, .int a3)]) rfl ?_
    exact s_X12_withData_45 hn9 C M hD hG  a1 a2 a3 b0 T h
  · refine r_aload_n C dX12_withData_31 rfl 1 rfl ?_
    refine r_geti (f := 1228) C flX12_266 dX12_withData_32 kq_133 (by decide) (by decide) rfl ?_
    refine r_aload_n C dX12_withData_35 rfl 1 rfl ?_
    refine r_geti (f := 1227) C flX12_263 dX12_withData_36 kq_133 (by decide) (by decide) rfl ?_
    refine r_isub C dX12_withData_39 rfl ?_
    show Jr _ _ _ _ _ _ 40 _
    refine r_goto (tgt := 45) C dX12_withData_40 (by decide) ?_
    refine Jr.sub [1, 2, 3, 4] (lv' := [(0, .ref (ad 133)), (1, .int a1), (2, .int a2), (3, .int a3)]) rfl ?_
    exact s_X12_withData_45 hn9 C M hD hG  a1 a2 a3 ((gI T 1228 133) - (gI T 1227 133)) T h
noncomputable def f_X12_withData (G : Int32 → Mm → Option (Unit × Mm)) (p1 : Int32) (p2 : Int32) (p3 : Int32) (T : Mm) : Option (Unit × Mm) :=
  if 0 ≤ (gI T 1251 133) then (f_X12_withData_15 G p1 p2 p3 (gI T 1251 133) T)
  else (f_X12_withData_15 G p1 p2 p3 0 T)
set_option maxRecDepth 100000 in
set_option maxHeartbeats 4000000 in
theorem s_X12_withData {ad : Nat → Nat} {U T : Mm} {q : Unit × Mm} {D : Nat} {G : Int32 → Mm → Option (Unit × Mm)}  (hD : 40 ≤ D) (hG : ∀ (i : Int32) (T : Mm) (q : Unit × Mm), G i T = some q → Cr D yX12_through cX12_through 8 none [.ref (ad 133), .int i] ad false U T eV q) (p1 : Int32) (p2 : Int32) (p3 : Int32) (h : f_X12_withData G p1 p2 p3 T = some q) : Cr (D + 4) yX12_withData cX12_withData 7 none [.ref (ad 133), .int p1, .int p2, .int p3] ad false U T eV q := by
  refine cr_of (by decide) (Nat.le_of_ble_eq_true rfl) fun x S0 hn9 C M => ?_
  have C : CB x RX12 cX12_withData := C
  refine Jr.eq (lv' := [(0, .ref (ad 133)), (1, .int p1), (2, .int p2), (3, .int p3)]) (st' := []) rfl rfl ?_
  unfold f_X12_withData at h
  refine r_aload_n C dX12_withData_0 rfl 0 rfl ?_
  refine r_geti (f := 1251) C flX12_379 dX12_withData_1 kq_133 (by decide) (by decide) rfl ?_
  refine r_if_ge (tgt := 11) C dX12_withData_4 (by decide) h (fun h => ?_) (fun h => ?_)
  · refine r_aload_n C dX12_withData_11 rfl 0 rfl ?_
    refine r_geti (f := 1251) C flX12_379 dX12_withData_12 kq_133 (by decide) (by decide) rfl ?_
    exact s_X12_withData_15 hn9 C M hD hG  p1 p2 p3 (gI T 1251 133) T h
  · refine r_iconst (v := 0) C dX12_withData_7 (by decide) ?_
    refine r_goto (tgt := 15) C dX12_withData_8 (by decide) ?_
    exact s_X12_withData_15 hn9 C M hD hG  p1 p2 p3 0 T h
theorem dX12_units_0 : decode cX12_units 0 = .ok (.aload_n 0, 1) := by decide +kernel
theorem dX12_units_1 : decode cX12_units 1 = .ok (.getfield 384, 3) := by decide +kernel
theorem dX12_units_4 : decode cX12_units 4 = .ok (.lload_n 1, 1) := by decide +kernel
theorem dX12_units_5 : decode cX12_units 5 = .ok (.lmul, 1) := by decide +kernel
theorem dX12_units_6 : decode cX12_units 6 = .ok (.ldc2_w 382, 3) := by decide +kernel
theorem dX12_units_9 : decode cX12_units 9 = .ok (.ldiv, 1) := by decide +kernel
theorem dX12_units_10 : decode cX12_units 10 = .ok (.lreturn, 1) := by decide +kernel
noncomputable def f_X12_units (p1 : Int64) (T : Mm) : Option (Int64 × Mm) :=
  some ((((gJ T 1253 133) * p1) / 10000), T)
set_option maxRecDepth 100000 in
set_option maxHeartbeats 4000000 in
theorem s_X12_units {ad : Nat → Nat} {U T : Mm} {q : Int64 × Mm}  (p1 : Int64) (h : f_X12_units p1 T = some q) : Cr 1 yX12_units cX12_units 3 (some .long) [.ref (ad 133), .long p1] ad false U T eJ q := by
  refine cr_of (by decide) (Nat.le_of_ble_eq_true rfl) fun x S0 hn9 C M => ?_
  have C : CB x RX12 cX12_units := C
  refine Jr.eq (lv' := [(0, .ref (ad 133)), (1, .long p1)]) (st' := []) rfl rfl ?_
  unfold f_X12_units at h
  refine r_aload_n C dX12_units_0 rfl 0 rfl ?_
  refine r_getl (f := 1253) C flX12_384 dX12_units_1 kq_133 (by decide) rfl ?_
  refine r_lload_n C dX12_units_4 rfl 1 rfl ?_
  refine r_lmul C dX12_units_5 rfl ?_
  refine r_ldc2 (v := 10000) C dX12_units_6 kcX12_382 ?_
  show Jr _ _ _ _ _ _ 9 _
  refine r_ldiv C dX12_units_9 (by decide) rfl ?_
  exact r_lret C M dX12_units_10 h
theorem dX12_pageField_0 : decode cX12_pageField 0 = .ok (.aload_n 0, 1) := by decide +kernel
theorem dX12_pageField_1 : decode cX12_pageField 1 = .ok (.getfield 379, 3) := by decide +kernel
theorem dX12_pageField_4 : decode cX12_pageField 4 = .ok (.istore_n 2, 1) := by decide +kernel
theorem dX12_pageField_5 : decode cX12_pageField 5 = .ok (.iload_n 1, 1) := by decide +kernel
theorem dX12_pageField_6 : decode cX12_pageField 6 = .ok (.bipush 65, 2) := by decide +kernel
theorem dX12_pageField_8 : decode cX12_pageField 8 = .ok (.if_icmp .ne 44, 3) := by decide +kernel
theorem dX12_pageField_11 : decode cX12_pageField 11 = .ok (.iload_n 2, 1) := by decide +kernel
theorem dX12_pageField_12 : decode cX12_pageField 12 = .ok (.ifCond .lt 40, 3) := by decide +kernel
theorem dX12_pageField_15 : decode cX12_pageField 15 = .ok (.iload_n 2, 1) := by decide +kernel
theorem dX12_pageField_16 : decode cX12_pageField 16 = .ok (.iconst 3, 1) := by decide +kernel
theorem dX12_pageField_17 : decode cX12_pageField 17 = .ok (.if_icmp .gt 35, 3) := by decide +kernel
theorem dX12_pageField_20 : decode cX12_pageField 20 = .ok (.aload_n 0, 1) := by decide +kernel
theorem dX12_pageField_21 : decode cX12_pageField 21 = .ok (.getfield 219, 3) := by decide +kernel
theorem dX12_pageField_24 : decode cX12_pageField 24 = .ok (.ifCond .ne 28, 3) := by decide +kernel
theorem dX12_pageField_27 : decode cX12_pageField 27 = .ok (.aload_n 0, 1) := by decide +kernel
theorem dX12_pageField_28 : decode cX12_pageField 28 = .ok (.invokevirtual 307, 3) := by decide +kernel
theorem dX12_pageField_31 : decode cX12_pageField 31 = .ok (.aload_n 0, 1) := by decide +kernel
theorem dX12_pageField_32 : decode cX12_pageField 32 = .ok (.getfield 191, 3) := by decide +kernel
theorem dX12_pageField_35 : decode cX12_pageField 35 = .ok (.ifCond .ne 401, 3) := by decide +kernel
theorem dX12_pageField_38 : decode cX12_pageField 38 = .ok (.aload_n 0, 1) := by decide +kernel
theorem dX12_pageField_39 : decode cX12_pageField 39 = .ok (.getfield 9, 3) := by decide +kernel
theorem dX12_pageField_42 : decode cX12_pageField 42 = .ok (.iconst 0, 1) := by decide +kernel
theorem dX12_pageField_43 : decode cX12_pageField 43 = .ok (.iload_n 2, 1) := by decide +kernel
theorem dX12_pageField_44 : decode cX12_pageField 44 = .ok (.iastore, 1) := by decide +kernel
theorem dX12_pageField_45 : decode cX12_pageField 45 = .ok (.aload_n 0, 1) := by decide +kernel
theorem dX12_pageField_46 : decode cX12_pageField 46 = .ok (.invokevirtual 216, 3) := by decide +kernel
theorem dX12_pageField_49 : decode cX12_pageField 49 = .ok (.goto 387, 3) := by decide +kernel
theorem dX12_pageField_52 : decode cX12_pageField 52 = .ok (.iload_n 1, 1) := by decide +kernel
theorem dX12_pageField_53 : decode cX12_pageField 53 = .ok (.bipush 79, 2) := by decide +kernel
theorem dX12_pageField_55 : decode cX12_pageField 55 = .ok (.if_icmp .ne 44, 3) := by decide +kernel
theorem dX12_pageField_58 : decode cX12_pageField 58 = .ok (.iload_n 2, 1) := by decide +kernel
theorem dX12_pageField_59 : decode cX12_pageField 59 = .ok (.ifCond .eq 8, 3) := by decide +kernel
theorem dX12_pageField_62 : decode cX12_pageField 62 = .ok (.iload_n 2, 1) := by decide +kernel
theorem dX12_pageField_63 : decode cX12_pageField 63 = .ok (.iconst 1, 1) := by decide +kernel
theorem dX12_pageField_64 : decode cX12_pageField 64 = .ok (.if_icmp .ne 35, 3) := by decide +kernel
theorem dX12_pageField_67 : decode cX12_pageField 67 = .ok (.aload_n 0, 1) := by decide +kernel
theorem dX12_pageField_68 : decode cX12_pageField 68 = .ok (.getfield 219, 3) := by decide +kernel
theorem dX12_pageField_71 : decode cX12_pageField 71 = .ok (.ifCond .ne 28, 3) := by decide +kernel
theorem dX12_pageField_74 : decode cX12_pageField 74 = .ok (.aload_n 0, 1) := by decide +kernel
theorem dX12_pageField_75 : decode cX12_pageField 75 = .ok (.invokevirtual 307, 3) := by decide +kernel
theorem dX12_pageField_78 : decode cX12_pageField 78 = .ok (.aload_n 0, 1) := by decide +kernel
theorem dX12_pageField_79 : decode cX12_pageField 79 = .ok (.getfield 191, 3) := by decide +kernel
theorem dX12_pageField_82 : decode cX12_pageField 82 = .ok (.ifCond .ne 354, 3) := by decide +kernel
theorem dX12_pageField_85 : decode cX12_pageField 85 = .ok (.aload_n 0, 1) := by decide +kernel
theorem dX12_pageField_86 : decode cX12_pageField 86 = .ok (.getfield 9, 3) := by decide +kernel
theorem dX12_pageField_89 : decode cX12_pageField 89 = .ok (.iconst 1, 1) := by decide +kernel
theorem dX12_pageField_90 : decode cX12_pageField 90 = .ok (.iload_n 2, 1) := by decide +kernel
theorem dX12_pageField_91 : decode cX12_pageField 91 = .ok (.iastore, 1) := by decide +kernel
theorem dX12_pageField_92 : decode cX12_pageField 92 = .ok (.aload_n 0, 1) := by decide +kernel
theorem dX12_pageField_93 : decode cX12_pageField 93 = .ok (.invokevirtual 216, 3) := by decide +kernel
theorem dX12_pageField_96 : decode cX12_pageField 96 = .ok (.goto 340, 3) := by decide +kernel
theorem dX12_pageField_99 : decode cX12_pageField 99 = .ok (.iload_n 1, 1) := by decide +kernel
theorem dX12_pageField_100 : decode cX12_pageField 100 = .ok (.bipush 72, 2) := by decide +kernel
theorem dX12_pageField_102 : decode cX12_pageField 102 = .ok (.if_icmp .ne 21, 3) := by decide +kernel
theorem dX12_pageField_105 : decode cX12_pageField 105 = .ok (.aload_n 0, 1) := by decide +kernel
theorem dX12_pageField_106 : decode cX12_pageField 106 = .ok (.getfield 379, 3) := by decide +kernel
theorem dX12_pageField_109 : decode cX12_pageField 109 = .ok (.ifCond .ne 14, 3) := by decide +kernel
theorem dX12_pageField_112 : decode cX12_pageField 112 = .ok (.aload_n 0, 1) := by decide +kernel
theorem dX12_pageField_113 : decode cX12_pageField 113 = .ok (.invokevirtual 307, 3) := by decide +kernel
theorem dX12_pageField_116 : decode cX12_pageField 116 = .ok (.aload_n 0, 1) := by decide +kernel
theorem dX12_pageField_117 : decode cX12_pageField 117 = .ok (.invokevirtual 213, 3) := by decide +kernel
theorem dX12_pageField_120 : decode cX12_pageField 120 = .ok (.goto 316, 3) := by decide +kernel
theorem dX12_pageField_123 : decode cX12_pageField 123 = .ok (.iload_n 1, 1) := by decide +kernel
theorem dX12_pageField_124 : decode cX12_pageField 124 = .ok (.bipush 88, 2) := by decide +kernel
theorem dX12_pageField_126 : decode cX12_pageField 126 = .ok (.if_icmp .ne 33, 3) := by decide +kernel
theorem dX12_pageField_129 : decode cX12_pageField 129 = .ok (.aload_n 0, 1) := by decide +kernel
theorem dX12_pageField_130 : decode cX12_pageField 130 = .ok (.getfield 379, 3) := by decide +kernel
theorem dX12_pageField_133 : decode cX12_pageField 133 = .ok (.iconst 1, 1) := by decide +kernel
theorem dX12_pageField_134 : decode cX12_pageField 134 = .ok (.if_icmp .lt 25, 3) := by decide +kernel
theorem dX12_pageField_137 : decode cX12_pageField 137 = .ok (.aload_n 0, 1) := by decide +kernel
theorem dX12_pageField_138 : decode cX12_pageField 138 = .ok (.getfield 379, 3) := by decide +kernel
theorem dX12_pageField_141 : decode cX12_pageField 141 = .ok (.iconst 4, 1) := by decide +kernel
theorem dX12_pageField_142 : decode cX12_pageField 142 = .ok (.if_icmp .gt 17, 3) := by decide +kernel
theorem dX12_pageField_145 : decode cX12_pageField 145 = .ok (.aload_n 0, 1) := by decide +kernel
theorem dX12_pageField_146 : decode cX12_pageField 146 = .ok (.getfield 9, 3) := by decide +kernel
theorem dX12_pageField_149 : decode cX12_pageField 149 = .ok (.bipush 8, 2) := by decide +kernel
theorem dX12_pageField_151 : decode cX12_pageField 151 = .ok (.aload_n 0, 1) := by decide +kernel
theorem dX12_pageField_152 : decode cX12_pageField 152 = .ok (.getfield 379, 3) := by decide +kernel
theorem dX12_pageField_155 : decode cX12_pageField 155 = .ok (.iastore, 1) := by decide +kernel
theorem dX12_pageField_156 : decode cX12_pageField 156 = .ok (.goto 280, 3) := by decide +kernel
theorem dX12_pageField_159 : decode cX12_pageField 159 = .ok (.iload_n 1, 1) := by decide +kernel
theorem dX12_pageField_160 : decode cX12_pageField 160 = .ok (.bipush 67, 2) := by decide +kernel
theorem dX12_pageField_162 : decode cX12_pageField 162 = .ok (.if_icmp .ne 47, 3) := by decide +kernel
theorem dX12_pageField_165 : decode cX12_pageField 165 = .ok (.aload_n 0, 1) := by decide +kernel
theorem dX12_pageField_166 : decode cX12_pageField 166 = .ok (.ldc2_w 431, 3) := by decide +kernel
theorem dX12_pageField_169 : decode cX12_pageField 169 = .ok (.invokevirtual 404, 3) := by decide +kernel
theorem dX12_pageField_172 : decode cX12_pageField 172 = .ok (.lconst 0, 1) := by decide +kernel
theorem dX12_pageField_173 : decode cX12_pageField 173 = .ok (.lcmp, 1) := by decide +kernel
theorem dX12_pageField_174 : decode cX12_pageField 174 = .ok (.ifCond .lt 35, 3) := by decide +kernel
theorem dX12_pageField_177 : decode cX12_pageField 177 = .ok (.aload_n 0, 1) := by decide +kernel
theorem dX12_pageField_178 : decode cX12_pageField 178 = .ok (.ldc2_w 431, 3) := by decide +kernel
theorem dX12_pageField_181 : decode cX12_pageField 181 = .ok (.invokevirtual 404, 3) := by decide +kernel
theorem dX12_pageField_184 : decode cX12_pageField 184 = .ok (.ldc2_w 408, 3) := by decide +kernel
theorem dX12_pageField_187 : decode cX12_pageField 187 = .ok (.lcmp, 1) := by decide +kernel
theorem dX12_pageField_188 : decode cX12_pageField 188 = .ok (.ifCond .gt 21, 3) := by decide +kernel
theorem dX12_pageField_191 : decode cX12_pageField 191 = .ok (.aload_n 0, 1) := by decide +kernel
theorem dX12_pageField_192 : decode cX12_pageField 192 = .ok (.getfield 9, 3) := by decide +kernel
theorem dX12_pageField_195 : decode cX12_pageField 195 = .ok (.bipush 6, 2) := by decide +kernel
theorem dX12_pageField_197 : decode cX12_pageField 197 = .ok (.aload_n 0, 1) := by decide +kernel
theorem dX12_pageField_198 : decode cX12_pageField 198 = .ok (.ldc2_w 431, 3) := by decide +kernel
theorem dX12_pageField_201 : decode cX12_pageField 201 = .ok (.invokevirtual 404, 3) := by decide +kernel
theorem dX12_pageField_204 : decode cX12_pageField 204 = .ok (.l2i, 1) := by decide +kernel
theorem dX12_pageField_205 : decode cX12_pageField 205 = .ok (.iastore, 1) := by decide +kernel
theorem dX12_pageField_206 : decode cX12_pageField 206 = .ok (.goto 230, 3) := by decide +kernel
theorem dX12_pageField_209 : decode cX12_pageField 209 = .ok (.iload_n 1, 1) := by decide +kernel
theorem dX12_pageField_210 : decode cX12_pageField 210 = .ok (.bipush 68, 2) := by decide +kernel
theorem dX12_pageField_212 : decode cX12_pageField 212 = .ok (.if_icmp .ne 38, 3) := by decide +kernel
theorem dX12_pageField_215 : decode cX12_pageField 215 = .ok (.aload_n 0, 1) := by decide +kernel
theorem dX12_pageField_216 : decode cX12_pageField 216 = .ok (.getfield 379, 3) := by decide +kernel
theorem dX12_pageField_219 : decode cX12_pageField 219 = .ok (.ifCond .le 31, 3) := by decide +kernel
theorem dX12_pageField_222 : decode cX12_pageField 222 = .ok (.bipush 48, 2) := by decide +kernel
theorem dX12_pageField_224 : decode cX12_pageField 224 = .ok (.aload_n 0, 1) := by decide +kernel
theorem dX12_pageField_225 : decode cX12_pageField 225 = .ok (.getfield 379, 3) := by decide +kernel
theorem dX12_pageField_228 : decode cX12_pageField 228 = .ok (.irem, 1) := by decide +kernel
theorem dX12_pageField_229 : decode cX12_pageField 229 = .ok (.ifCond .ne 21, 3) := by decide +kernel
theorem dX12_pageField_232 : decode cX12_pageField 232 = .ok (.aload_n 0, 1) := by decide +kernel
theorem dX12_pageField_233 : decode cX12_pageField 233 = .ok (.getfield 9, 3) := by decide +kernel
theorem dX12_pageField_236 : decode cX12_pageField 236 = .ok (.bipush 6, 2) := by decide +kernel
theorem dX12_pageField_238 : decode cX12_pageField 238 = .ok (.sipush 7200, 3) := by decide +kernel
theorem dX12_pageField_241 : decode cX12_pageField 241 = .ok (.aload_n 0, 1) := by decide +kernel
theorem dX12_pageField_242 : decode cX12_pageField 242 = .ok (.getfield 379, 3) := by decide +kernel
theorem dX12_pageField_245 : decode cX12_pageField 245 = .ok (.idiv, 1) := by decide +kernel
theorem dX12_pageField_246 : decode cX12_pageField 246 = .ok (.iastore, 1) := by decide +kernel
theorem dX12_pageField_247 : decode cX12_pageField 247 = .ok (.goto 189, 3) := by decide +kernel
theorem dX12_pageField_250 : decode cX12_pageField 250 = .ok (.iload_n 1, 1) := by decide +kernel
theorem dX12_pageField_251 : decode cX12_pageField 251 = .ok (.bipush 69, 2) := by decide +kernel
theorem dX12_pageField_253 : decode cX12_pageField 253 = .ok (.if_icmp .ne 75, 3) := by decide +kernel
theorem dX12_pageField_256 : decode cX12_pageField 256 = .ok (.aload_n 0, 1) := by decide +kernel
theorem dX12_pageField_257 : decode cX12_pageField 257 = .ok (.getfield 379, 3) := by decide +kernel
theorem dX12_pageField_260 : decode cX12_pageField 260 = .ok (.ifCond .lt 68, 3) := by decide +kernel
theorem dX12_pageField_263 : decode cX12_pageField 263 = .ok (.aload_n 0, 1) := by decide +kernel
theorem dX12_pageField_264 : decode cX12_pageField 264 = .ok (.getfield 379, 3) := by decide +kernel
theorem dX12_pageField_267 : decode cX12_pageField 267 = .ok (.i2l, 1) := by decide +kernel
theorem dX12_pageField_268 : decode cX12_pageField 268 = .ok (.aload_n 0, 1) := by decide +kernel
theorem dX12_pageField_269 : decode cX12_pageField 269 = .ok (.getfield 9, 3) := by decide +kernel
theorem dX12_pageField_272 : decode cX12_pageField 272 = .ok (.bipush 6, 2) := by decide +kernel
theorem dX12_pageField_274 : decode cX12_pageField 274 = .ok (.iaload, 1) := by decide +kernel
theorem dX12_pageField_275 : decode cX12_pageField 275 = .ok (.i2l, 1) := by decide +kernel
theorem dX12_pageField_276 : decode cX12_pageField 276 = .ok (.lmul, 1) := by decide +kernel
theorem dX12_pageField_277 : decode cX12_pageField 277 = .ok (.ldc2_w 204, 3) := by decide +kernel
theorem dX12_pageField_280 : decode cX12_pageField 280 = .ok (.aload_n 0, 1) := by decide +kernel
theorem dX12_pageField_281 : decode cX12_pageField 281 = .ok (.invokevirtual 176, 3) := by decide +kernel
theorem dX12_pageField_284 : decode cX12_pageField 284 = .ok (.i2l, 1) := by decide +kernel
theorem dX12_pageField_285 : decode cX12_pageField 285 = .ok (.lmul, 1) := by decide +kernel
theorem dX12_pageField_286 : decode cX12_pageField 286 = .ok (.lcmp, 1) := by decide +kernel
theorem dX12_pageField_287 : decode cX12_pageField 287 = .ok (.ifCond .ge 41, 3) := by decide +kernel
theorem dX12_pageField_290 : decode cX12_pageField 290 = .ok (.aload_n 0, 1) := by decide +kernel
theorem dX12_pageField_291 : decode cX12_pageField 291 = .ok (.getfield 9, 3) := by decide +kernel
theorem dX12_pageField_294 : decode cX12_pageField 294 = .ok (.iconst 4, 1) := by decide +kernel
theorem dX12_pageField_295 : decode cX12_pageField 295 = .ok (.aload_n 0, 1) := by decide +kernel
theorem dX12_pageField_296 : decode cX12_pageField 296 = .ok (.getfield 379, 3) := by decide +kernel
theorem dX12_pageField_299 : decode cX12_pageField 299 = .ok (.aload_n 0, 1) := by decide +kernel
theorem dX12_pageField_300 : decode cX12_pageField 300 = .ok (.getfield 9, 3) := by decide +kernel
theorem dX12_pageField_303 : decode cX12_pageField 303 = .ok (.bipush 6, 2) := by decide +kernel
theorem dX12_pageField_305 : decode cX12_pageField 305 = .ok (.iaload, 1) := by decide +kernel
theorem dX12_pageField_306 : decode cX12_pageField 306 = .ok (.imul, 1) := by decide +kernel
theorem dX12_pageField_307 : decode cX12_pageField 307 = .ok (.iastore, 1) := by decide +kernel
theorem dX12_pageField_308 : decode cX12_pageField 308 = .ok (.aload_n 0, 1) := by decide +kernel
theorem dX12_pageField_309 : decode cX12_pageField 309 = .ok (.getfield 9, 3) := by decide +kernel
theorem dX12_pageField_312 : decode cX12_pageField 312 = .ok (.iconst 5, 1) := by decide +kernel
theorem dX12_pageField_313 : decode cX12_pageField 313 = .ok (.bipush 96, 2) := by decide +kernel
theorem dX12_pageField_315 : decode cX12_pageField 315 = .ok (.aload_n 0, 1) := by decide +kernel
theorem dX12_pageField_316 : decode cX12_pageField 316 = .ok (.invokevirtual 176, 3) := by decide +kernel
theorem dX12_pageField_319 : decode cX12_pageField 319 = .ok (.imul, 1) := by decide +kernel
theorem dX12_pageField_320 : decode cX12_pageField 320 = .ok (.iastore, 1) := by decide +kernel
theorem dX12_pageField_321 : decode cX12_pageField 321 = .ok (.aload_n 0, 1) := by decide +kernel
theorem dX12_pageField_322 : decode cX12_pageField 322 = .ok (.invokevirtual 213, 3) := by decide +kernel
theorem dX12_pageField_325 : decode cX12_pageField 325 = .ok (.goto 111, 3) := by decide +kernel
theorem dX12_pageField_328 : decode cX12_pageField 328 = .ok (.iload_n 1, 1) := by decide +kernel
theorem dX12_pageField_329 : decode cX12_pageField 329 = .ok (.bipush 70, 2) := by decide +kernel
theorem dX12_pageField_331 : decode cX12_pageField 331 = .ok (.if_icmp .ne 73, 3) := by decide +kernel
theorem dX12_pageField_334 : decode cX12_pageField 334 = .ok (.aload_n 0, 1) := by decide +kernel
theorem dX12_pageField_335 : decode cX12_pageField 335 = .ok (.getfield 379, 3) := by decide +kernel
theorem dX12_pageField_338 : decode cX12_pageField 338 = .ok (.ifCond .le 66, 3) := by decide +kernel
theorem dX12_pageField_341 : decode cX12_pageField 341 = .ok (.aload_n 0, 1) := by decide +kernel
theorem dX12_pageField_342 : decode cX12_pageField 342 = .ok (.getfield 9, 3) := by decide +kernel
theorem dX12_pageField_345 : decode cX12_pageField 345 = .ok (.iconst 4, 1) := by decide +kernel
theorem dX12_pageField_346 : decode cX12_pageField 346 = .ok (.iaload, 1) := by decide +kernel
theorem dX12_pageField_347 : decode cX12_pageField 347 = .ok (.i2l, 1) := by decide +kernel
theorem dX12_pageField_348 : decode cX12_pageField 348 = .ok (.aload_n 0, 1) := by decide +kernel
theorem dX12_pageField_349 : decode cX12_pageField 349 = .ok (.getfield 379, 3) := by decide +kernel
theorem dX12_pageField_352 : decode cX12_pageField 352 = .ok (.i2l, 1) := by decide +kernel
theorem dX12_pageField_353 : decode cX12_pageField 353 = .ok (.aload_n 0, 1) := by decide +kernel
theorem dX12_pageField_354 : decode cX12_pageField 354 = .ok (.getfield 9, 3) := by decide +kernel
theorem dX12_pageField_357 : decode cX12_pageField 357 = .ok (.bipush 6, 2) := by decide +kernel
theorem dX12_pageField_359 : decode cX12_pageField 359 = .ok (.iaload, 1) := by decide +kernel
theorem dX12_pageField_360 : decode cX12_pageField 360 = .ok (.i2l, 1) := by decide +kernel
theorem dX12_pageField_361 : decode cX12_pageField 361 = .ok (.lmul, 1) := by decide +kernel
theorem dX12_pageField_362 : decode cX12_pageField 362 = .ok (.ladd, 1) := by decide +kernel
theorem dX12_pageField_363 : decode cX12_pageField 363 = .ok (.ldc2_w 204, 3) := by decide +kernel
theorem dX12_pageField_366 : decode cX12_pageField 366 = .ok (.aload_n 0, 1) := by decide +kernel
theorem dX12_pageField_367 : decode cX12_pageField 367 = .ok (.invokevirtual 176, 3) := by decide +kernel
theorem dX12_pageField_370 : decode cX12_pageField 370 = .ok (.i2l, 1) := by decide +kernel
theorem dX12_pageField_371 : decode cX12_pageField 371 = .ok (.lmul, 1) := by decide +kernel
theorem dX12_pageField_372 : decode cX12_pageField 372 = .ok (.lcmp, 1) := by decide +kernel
theorem dX12_pageField_373 : decode cX12_pageField 373 = .ok (.ifCond .gt 31, 3) := by decide +kernel
theorem dX12_pageField_376 : decode cX12_pageField 376 = .ok (.aload_n 0, 1) := by decide +kernel
theorem dX12_pageField_377 : decode cX12_pageField 377 = .ok (.getfield 9, 3) := by decide +kernel
theorem dX12_pageField_380 : decode cX12_pageField 380 = .ok (.iconst 5, 1) := by decide +kernel
theorem dX12_pageField_381 : decode cX12_pageField 381 = .ok (.aload_n 0, 1) := by decide +kernel
theorem dX12_pageField_382 : decode cX12_pageField 382 = .ok (.getfield 9, 3) := by decide +kernel
theorem dX12_pageField_385 : decode cX12_pageField 385 = .ok (.iconst 4, 1) := by decide +kernel
theorem dX12_pageField_386 : decode cX12_pageField 386 = .ok (.iaload, 1) := by decide +kernel
theorem dX12_pageField_387 : decode cX12_pageField 387 = .ok (.aload_n 0, 1) := by decide +kernel
theorem dX12_pageField_388 : decode cX12_pageField 388 = .ok (.getfield 379, 3) := by decide +kernel
theorem dX12_pageField_391 : decode cX12_pageField 391 = .ok (.aload_n 0, 1) := by decide +kernel
theorem dX12_pageField_392 : decode cX12_pageField 392 = .ok (.getfield 9, 3) := by decide +kernel
theorem dX12_pageField_395 : decode cX12_pageField 395 = .ok (.bipush 6, 2) := by decide +kernel
theorem dX12_pageField_397 : decode cX12_pageField 397 = .ok (.iaload, 1) := by decide +kernel
theorem dX12_pageField_398 : decode cX12_pageField 398 = .ok (.imul, 1) := by decide +kernel
theorem dX12_pageField_399 : decode cX12_pageField 399 = .ok (.iadd, 1) := by decide +kernel
theorem dX12_pageField_400 : decode cX12_pageField 400 = .ok (.iastore, 1) := by decide +kernel
theorem dX12_pageField_401 : decode cX12_pageField 401 = .ok (.goto 35, 3) := by decide +kernel
theorem dX12_pageField_404 : decode cX12_pageField 404 = .ok (.iload_n 1, 1) := by decide +kernel
theorem dX12_pageField_405 : decode cX12_pageField 405 = .ok (.bipush 76, 2) := by decide +kernel
theorem dX12_pageField_407 : decode cX12_pageField 407 = .ok (.if_icmp .ne 29, 3) := by decide +kernel
theorem dX12_pageField_410 : decode cX12_pageField 410 = .ok (.aload_n 0, 1) := by decide +kernel
theorem dX12_pageField_411 : decode cX12_pageField 411 = .ok (.getfield 379, 3) := by decide +kernel
theorem dX12_pageField_414 : decode cX12_pageField 414 = .ok (.ifCond .eq 11, 3) := by decide +kernel
theorem dX12_pageField_417 : decode cX12_pageField 417 = .ok (.aload_n 0, 1) := by decide +kernel
theorem dX12_pageField_418 : decode cX12_pageField 418 = .ok (.getfield 379, 3) := by decide +kernel
theorem dX12_pageField_421 : decode cX12_pageField 421 = .ok (.iconst 1, 1) := by decide +kernel
theorem dX12_pageField_422 : decode cX12_pageField 422 = .ok (.if_icmp .ne 14, 3) := by decide +kernel
theorem dX12_pageField_425 : decode cX12_pageField 425 = .ok (.aload_n 0, 1) := by decide +kernel
theorem dX12_pageField_426 : decode cX12_pageField 426 = .ok (.getfield 9, 3) := by decide +kernel
theorem dX12_pageField_429 : decode cX12_pageField 429 = .ok (.bipush 9, 2) := by decide +kernel
theorem dX12_pageField_431 : decode cX12_pageField 431 = .ok (.aload_n 0, 1) := by decide +kernel
theorem dX12_pageField_432 : decode cX12_pageField 432 = .ok (.getfield 379, 3) := by decide +kernel
theorem dX12_pageField_435 : decode cX12_pageField 435 = .ok (.iastore, 1) := by decide +kernel
theorem dX12_pageField_436 : decode cX12_pageField 436 = .ok (.return_, 1) := by decide +kernel
noncomputable def f_X12_pageField_404 (G : Int32 → Mm → Option (Unit × Mm)) (a1 : Int32) (T : Mm) : Option (Unit × Mm) :=
  if a1 = 76 then (if (gI T 1251 133) = 0 then (lb (uA T 134 9 ((gI T 1251 133))) fun T1 =>
  some ((), T1))
  else (if (gI T 1251 133) = 1 then (lb (uA T 134 9 ((gI T 1251 133))) fun T2 =>
  some ((), T2))
  else (some ((), T))))
  else (some ((), T))
set_option maxRecDepth 100000 in
set_option maxHeartbeats 4000000 in
theorem s_X12_pageField_404 {x : JX} {ad : Nat → Nat} {U : Mm} {S0 : Hp} {q : Unit × Mm} {D : Nat} {G : Int32 → Mm → Option (Unit × Mm)}  (hn9 : x_n x = 3) (C : CB x RX12 cX12_pageField) (M : CMr x (D + 2) none S0 ad false U eV q) (hD : 40 ≤ D) (hG : ∀ (i : Int32) (T : Mm) (q : Unit × Mm), G i T = some q → Cr D yX12_through cX12_through 8 none [.ref (ad 133), .int i] ad false U T eV q) (a1 : Int32) (T : Mm) (h : f_X12_pageField_404 G  a1 T = some q) : Jr x ad false U T [(0, .ref (ad 133)), (1, .int a1)] 404 [] := by
  unfold f_X12_pageField_404 at h
  refine r_iload_n C dX12_pageField_404 rfl 1 rfl ?_
  refine r_bipush (v := 76) C dX12_pageField_405 (by decide) ?_
  refine r_ic_ne (tgt := 436) C dX12_pageField_407 (by decide) h (fun h => ?_) (fun h => ?_)
  · exact r_vret C M dX12_pageField_436 h
  · refine r_aload_n C dX12_pageField_410 rfl 0 rfl ?_
    refine r_geti (f := 1251) C flX12_379 dX12_pageField_411 kq_133 (by decide) (by decide) rfl ?_
    refine r_if_eq (tgt := 425) C dX12_pageField_414 (by decide) h (fun h => ?_) (fun h => ?_)
    · refine r_aload_n C dX12_pageField_425 rfl 0 rfl ?_
      refine r_getp (f := 1200) (j := 134) C flX12_9 dX12_pageField_426 kq_133 (by decide) rfl (fun W => pt_1200 kq_133 W) ?_
      refine r_bipush (v := 9) C dX12_pageField_429 (by decide) ?_
      refine r_aload_n C dX12_pageField_431 rfl 0 rfl ?_
      refine r_geti (f := 1251) C flX12_379 dX12_pageField_432 kq_133 (by decide) (by decide) rfl ?_
      show Jr _ _ _ _ _ _ 435 _
      refine r_iastc (n := 192) C 9 dX12_pageField_435 kq_134 lq_134 (vp_lit (by decide)) (by decide) h (fun T1 h => ?_)
      exact r_vret C M dX12_pageField_436 h
    · refine r_aload_n C dX12_pageField_417 rfl 0 rfl ?_
      refine r_geti (f := 1251) C flX12_379 dX12_pageField_418 kq_133 (by decide) (by decide) rfl ?_
      refine r_iconst (v := 1) C dX12_pageField_421 (by decide) ?_
      refine r_ic_ne (tgt := 436) C dX12_pageField_422 (by decide) h (fun h => ?_) (fun h => ?_)
      · exact r_vret C M dX12_pageField_436 h
      · refine r_aload_n C dX12_pageField_425 rfl 0 rfl ?_
        refine r_getp (f := 1200) (j := 134) C flX12_9 dX12_pageField_426 kq_133 (by decide) rfl (fun W => pt_1200 kq_133 W) ?_
        refine r_bipush (v := 9) C dX12_pageField_429 (by decide) ?_
        refine r_aload_n C dX12_pageField_431 rfl 0 rfl ?_
        refine r_geti (f := 1251) C flX12_379 dX12_pageField_432 kq_133 (by decide) (by decide) rfl ?_
        show Jr _ _ _ _ _ _ 435 _
        refine r_iastc (n := 192) C 9 dX12_pageField_435 kq_134 lq_134 (vp_lit (by decide)) (by decide) h (fun T2 h => ?_)
        exact r_vret C M dX12_pageField_436 h
noncomputable def f_X12_pageField_328 (G : Int32 → Mm → Option (Unit × Mm)) (a1 : Int32) (T : Mm) : Option (Unit × Mm) :=
  if a1 = 70 then (if (gI T 1251 133) ≤ 0 then (f_X12_pageField_404 G a1 T)
  else (bd (f_X12_high T) fun v1 T2 =>
  if 0 < (lg_cmp ((((gA T 134 4)).toInt64) + ((((gI T 1251 133)).toInt64) * (((gA T 134 6)).toInt64))) ((96 : Int64) * ((v1).toInt64))) then (f_X12_pageField_404 G a1 T2)
  else (lb (uA T2 134 5 (((gA T2 134 4) + ((gI T2 1251 133) * (gA T2 134 6))))) fun T3 =>
  some ((), T3))))
  else (f_X12_pageField_404 G a1 T)
set_option maxRecDepth 100000 in
set_option maxHeartbeats 4000000 in
theorem s_X12_pageField_328 {x : JX} {ad : Nat → Nat} {U : Mm} {S0 : Hp} {q : Unit × Mm} {D : Nat} {G : Int32 → Mm → Option (Unit × Mm)}  (hn9 : x_n x = 3) (C : CB x RX12 cX12_pageField) (M : CMr x (D + 2) none S0 ad false U eV q) (hD : 40 ≤ D) (hG : ∀ (i : Int32) (T : Mm) (q : Unit × Mm), G i T = some q → Cr D yX12_through cX12_through 8 none [.ref (ad 133), .int i] ad false U T eV q) (a1 : Int32) (T : Mm) (h : f_X12_pageField_328 G  a1 T = some q) : Jr x ad false U T [(0, .ref (ad 133)), (1, .int a1)] 328 [] := by
  unfold f_X12_pageField_328 at h
  refine r_iload_n C dX12_pageField_328 rfl 1 rfl ?_
  refine r_bipush (v := 70) C dX12_pageField_329 (by decide) ?_
  refine r_ic_ne (tgt := 404) C dX12_pageField_331 (by decide) h (fun h => ?_) (fun h => ?_)
  · exact s_X12_pageField_404 hn9 C M hD hG  a1 T h
  · refine r_aload_n C dX12_pageField_334 rfl 0 rfl ?_
    refine r_geti (f := 1251) C flX12_379 dX12_pageField_335 kq_133 (by decide) (by decide) rfl ?_
    refine r_if_le (tgt := 404) C dX12_pageField_338 (by decide) h (fun h => ?_) (fun h => ?_)
    · exact s_X12_pageField_404 hn9 C M hD hG  a1 T h
    · refine r_aload_n C dX12_pageField_341 rfl 0 rfl ?_
      refine r_getp (f := 1200) (j := 134) C flX12_9 dX12_pageField_342 kq_133 (by decide) rfl (fun W => pt_1200 kq_133 W) ?_
      refine r_iconst (v := 4) C dX12_pageField_345 (by decide) ?_
      refine r_ialdc (n := 192) C 4 dX12_pageField_346 kq_134 lq_134 (vp_lit (by decide)) (by decide) ?_
      refine r_i2l C dX12_pageField_347 rfl ?_
      show Jr _ _ _ _ _ _ 348 _
      refine r_aload_n C dX12_pageField_348 rfl 0 rfl ?_
      refine r_geti (f := 1251) C flX12_379 dX12_pageField_349 kq_133 (by decide) (by decide) rfl ?_
      refine r_i2l C dX12_pageField_352 rfl ?_
      refine r_aload_n C dX12_pageField_353 rfl 0 rfl ?_
      refine r_getp (f := 1200) (j := 134) C flX12_9 dX12_pageField_354 kq_133 (by decide) rfl (fun W => pt_1200 kq_133 W) ?_
      refine r_bipush (v := 6) C dX12_pageField_357 (by decide) ?_
      show Jr _ _ _ _ _ _ 359 _
      refine r_ialdc (n := 192) C 6 dX12_pageField_359 kq_134 lq_134 (vp_lit (by decide)) (by decide) ?_
      refine r_i2l C dX12_pageField_360 rfl ?_
      refine r_lmul C dX12_pageField_361 rfl ?_
      refine r_ladd C dX12_pageField_362 rfl ?_
      refine r_ldc2 (v := 96) C dX12_pageField_363 kcX12_204 ?_
      refine r_aload_n C dX12_pageField_366 rfl 0 rfl ?_
      show Jr _ _ _ _ _ _ 367 _
      refine r_callVI C M h [] [.long 96, .long ((((gA T 134 4)).toInt64) + ((((gI T 1251 133)).toInt64) * (((gA T 134 6)).toInt64)))] mlX12_176 mcX12_high (fun q9 e9 => s_X12_high   e9) kq_133 rfl (by omega) (by decide) rfl rfl (Nat.le_of_ble_eq_true rfl) dX12_pageField_367 (fun v1 T2 h => ?_)
      refine r_i2l C dX12_pageField_370 rfl ?_
      refine r_lmul C dX12_pageField_371 rfl ?_
      refine r_lcmp C dX12_pageField_372 ?_
      refine r_if_gt (tgt := 404) C dX12_pageField_373 (by decide) h (fun h => ?_) (fun h => ?_)
      · exact s_X12_pageField_404 hn9 C M hD hG  a1 T2 h
      · refine r_aload_n C dX12_pageField_376 rfl 0 rfl ?_
        refine r_getp (f := 1200) (j := 134) C flX12_9 dX12_pageField_377 kq_133 (by decide) rfl (fun W => pt_1200 kq_133 W) ?_
        refine r_iconst (v := 5) C dX12_pageField_380 (by decide) ?_
        refine r_aload_n C dX12_pageField_381 rfl 0 rfl ?_
        refine r_getp (f := 1200) (j := 134) C flX12_9 dX12_pageField_382 kq_133 (by decide) rfl (fun W => pt_1200 kq_133 W) ?_
        show Jr _ _ _ _ _ _ 385 _
        refine r_iconst (v := 4) C dX12_pageField_385 (by decide) ?_
        refine r_ialdc (n := 192) C 4 dX12_pageField_386 kq_134 lq_134 (vp_lit (by decide)) (by decide) ?_
        refine r_aload_n C dX12_pageField_387 rfl 0 rfl ?_
        refine r_geti (f := 1251) C flX12_379 dX12_pageField_388 kq_133 (by decide) (by decide) rfl ?_
        refine r_aload_n C dX12_pageField_391 rfl 0 rfl ?_
        refine r_getp (f := 1200) (j := 134) C flX12_9 dX12_pageField_392 kq_133 (by decide) rfl (fun W => pt_1200 kq_133 W) ?_
        show Jr _ _ _ _ _ _ 395 _
        refine r_bipush (v := 6) C dX12_pageField_395 (by decide) ?_
        refine r_ialdc (n := 192) C 6 dX12_pageField_397 kq_134 lq_134 (vp_lit (by decide)) (by decide) ?_
        refine r_imul C dX12_pageField_398 rfl ?_
        refine r_iadd C dX12_pageField_399 rfl ?_
        refine r_iastc (n := 192) C 5 dX12_pageField_400 kq_134 lq_134 (vp_lit (by decide)) (by decide) h (fun T3 h => ?_)
        refine r_goto (tgt := 436) C dX12_pageField_401 (by decide) ?_
        show Jr _ _ _ _ _ _ 436 _
        exact r_vret C M dX12_pageField_436 h
noncomputable def f_X12_pageField_250 (G : Int32 → Mm → Option (Unit × Mm)) (a1 : Int32) (T : Mm) : Option (Unit × Mm) :=
  if a1 = 69 then (if (gI T 1251 133) < 0 then (f_X12_pageField_328 G a1 T)
  else (bd (f_X12_high T) fun v1 T2 =>
  if 0 ≤ (lg_cmp ((((gI T 1251 133)).toInt64) * (((gA T 134 6)).toInt64)) ((96 : Int64) * ((v1).toInt64))) then (f_X12_pageField_328 G a1 T2)
  else (lb (uA T2 134 4 (((gI T2 1251 133) * (gA T2 134 6)))) fun T3 =>
  bd (f_X12_high T3) fun v4 T5 =>
  lb (uA T5 134 5 (((96 : Int32) * v4))) fun T6 =>
  bd (f_X12_homeY T6) fun _ T7 =>
  some ((), T7))))
  else (f_X12_pageField_328 G a1 T)
set_option maxRecDepth 100000 in
set_option maxHeartbeats 4000000 in
theorem s_X12_pageField_250 {x : JX} {ad : Nat → Nat} {U : Mm} {S0 : Hp} {q : Unit × Mm} {D : Nat} {G : Int32 → Mm → Option (Unit × Mm)}  (hn9 : x_n x = 3) (C : CB x RX12 cX12_pageField) (M : CMr x (D + 2) none S0 ad false U eV q) (hD : 40 ≤ D) (hG : ∀ (i : Int32) (T : Mm) (q : Unit × Mm), G i T = some q → Cr D yX12_through cX12_through 8 none [.ref (ad 133), .int i] ad false U T eV q) (a1 : Int32) (T : Mm) (h : f_X12_pageField_250 G  a1 T = some q) : Jr x ad false U T [(0, .ref (ad 133)), (1, .int a1)] 250 [] := by
  unfold f_X12_pageField_250 at h
  refine r_iload_n C dX12_pageField_250 rfl 1 rfl ?_
  refine r_bipush (v := 69) C dX12_pageField_251 (by decide) ?_
  refine r_ic_ne (tgt := 328) C dX12_pageField_253 (by decide) h (fun h => ?_) (fun h => ?_)
  · exact s_X12_pageField_328 hn9 C M hD hG  a1 T h
  · refine r_aload_n C dX12_pageField_256 rfl 0 rfl ?_
    refine r_geti (f := 1251) C flX12_379 dX12_pageField_257 kq_133 (by decide) (by decide) rfl ?_
    refine r_if_lt (tgt := 328) C dX12_pageField_260 (by decide) h (fun h => ?_) (fun h => ?_)
    · exact s_X12_pageField_328 hn9 C M hD hG  a1 T h
    · refine r_aload_n C dX12_pageField_263 rfl 0 rfl ?_
      refine r_geti (f := 1251) C flX12_379 dX12_pageField_264 kq_133 (by decide) (by decide) rfl ?_
      refine r_i2l C dX12_pageField_267 rfl ?_
      refine r_aload_n C dX12_pageField_268 rfl 0 rfl ?_
      refine r_getp (f := 1200) (j := 134) C flX12_9 dX12_pageField_269 kq_133 (by decide) rfl (fun W => pt_1200 kq_133 W) ?_
      show Jr _ _ _ _ _ _ 272 _
      refine r_bipush (v := 6) C dX12_pageField_272 (by decide) ?_
      refine r_ialdc (n := 192) C 6 dX12_pageField_274 kq_134 lq_134 (vp_lit (by decide)) (by decide) ?_
      refine r_i2l C dX12_pageField_275 rfl ?_
      refine r_lmul C dX12_pageField_276 rfl ?_
      refine r_ldc2 (v := 96) C dX12_pageField_277 kcX12_204 ?_
      refine r_aload_n C dX12_pageField_280 rfl 0 rfl ?_
      show Jr _ _ _ _ _ _ 281 _
      refine r_callVI C M h [] [.long 96, .long ((((gI T 1251 133)).toInt64) * (((gA T 134 6)).toInt64))] mlX12_176 mcX12_high (fun q9 e9 => s_X12_high   e9) kq_133 rfl (by omega) (by decide) rfl rfl (Nat.le_of_ble_eq_true rfl) dX12_pageField_281 (fun v1 T2 h => ?_)
      refine r_i2l C dX12_pageField_284 rfl ?_
      refine r_lmul C dX12_pageField_285 rfl ?_
      refine r_lcmp C dX12_pageField_286 ?_
      refine r_if_ge (tgt := 328) C dX12_pageField_287 (by decide) h (fun h => ?_) (fun h => ?_)
      · exact s_X12_pageField_328 hn9 C M hD hG  a1 T2 h
      · refine r_aload_n C dX12_pageField_290 rfl 0 rfl ?_
        refine r_getp (f := 1200) (j := 134) C flX12_9 dX12_pageField_291 kq_133 (by decide) rfl (fun W => pt_1200 kq_133 W) ?_
        refine r_iconst (v := 4) C dX12_pageField_294 (by decide) ?_
        refine r_aload_n C dX12_pageField_295 rfl 0 rfl ?_
        refine r_geti (f := 1251) C flX12_379 dX12_pageField_296 kq_133 (by decide) (by decide) rfl ?_
        show Jr _ _ _ _ _ _ 299 _
        refine r_aload_n C dX12_pageField_299 rfl 0 rfl ?_
        refine r_getp (f := 1200) (j := 134) C flX12_9 dX12_pageField_300 kq_133 (by decide) rfl (fun W => pt_1200 kq_133 W) ?_
        refine r_bipush (v := 6) C dX12_pageField_303 (by decide) ?_
        refine r_ialdc (n := 192) C 6 dX12_pageField_305 kq_134 lq_134 (vp_lit (by decide)) (by decide) ?_
        refine r_imul C dX12_pageField_306 rfl ?_
        refine r_iastc (n := 192) C 4 dX12_pageField_307 kq_134 lq_134 (vp_lit (by decide)) (by decide) h (fun T3 h => ?_)
        show Jr _ _ _ _ _ _ 308 _
        refine r_aload_n C dX12_pageField_308 rfl 0 rfl ?_
        refine r_getp (f := 1200) (j := 134) C flX12_9 dX12_pageField_309 kq_133 (by decide) rfl (fun W => pt_1200 kq_133 W) ?_
        refine r_iconst (v := 5) C dX12_pageField_312 (by decide) ?_
        refine r_bipush (v := 96) C dX12_pageField_313 (by decide) ?_
        refine r_aload_n C dX12_pageField_315 rfl 0 rfl ?_
        refine r_callVI C M h [] [.int 96, .int 5, .ref (ad 134)] mlX12_176 mcX12_high (fun q9 e9 => s_X12_high   e9) kq_133 rfl (by omega) (by decide) rfl rfl (Nat.le_of_ble_eq_true rfl) dX12_pageField_316 (fun v4 T5 h => ?_)
        show Jr _ _ _ _ _ _ 319 _
        refine r_imul C dX12_pageField_319 rfl ?_
        refine r_iastc (n := 192) C 5 dX12_pageField_320 kq_134 lq_134 (vp_lit (by decide)) (by decide) h (fun T6 h => ?_)
        refine r_aload_n C dX12_pageField_321 rfl 0 rfl ?_
        refine r_callVN C M h [] [] mlX12_213 mcX12_homeY (fun q9 e9 => s_X12_homeY   e9) kq_133 rfl (by omega) (by decide) rfl rfl (Nat.le_of_ble_eq_true rfl) dX12_pageField_322 (fun _ T7 h => ?_)
        refine r_goto (tgt := 436) C dX12_pageField_325 (by decide) ?_
        exact r_vret C M dX12_pageField_436 h
noncomputable def f_X12_pageField_209 (G : Int32 → Mm → Option (Unit × Mm)) (a1 : Int32) (T : Mm) : Option (Unit × Mm) :=
  if a1 = 68 then (if (gI T 1251 133) ≤ 0 then (f_X12_pageField_250 G a1 T)
  else (gd (¬ (gI T 1251 133) = 0) <|
  if ((48 : Int32) - (48 : Int32) / (gI T 1251 133) * (gI T 1251 133)) = 0 then (gd (¬ (gI T 1251 133) = 0) <|
  lb (uA T 134 6 (((7200 : Int32) / (gI T 1251 133)))) fun T3 =>
  some ((), T3))
  else (f_X12_pageField_250 G a1 T)))
  else (f_X12_pageField_250 G a1 T)
set_option maxRecDepth 100000 in
set_option maxHeartbeats 4000000 in
theorem s_X12_pageField_209 {x : JX} {ad : Nat → Nat} {U : Mm} {S0 : Hp} {q : Unit × Mm} {D : Nat} {G : Int32 → Mm → Option (Unit × Mm)}  (hn9 : x_n x = 3) (C : CB x RX12 cX12_pageField) (M : CMr x (D + 2) none S0 ad false U eV q) (hD : 40 ≤ D) (hG : ∀ (i : Int32) (T : Mm) (q : Unit × Mm), G i T = some q → Cr D yX12_through cX12_through 8 none [.ref (ad 133), .int i] ad false U T eV q) (a1 : Int32) (T : Mm) (h : f_X12_pageField_209 G  a1 T = some q) : Jr x ad false U T [(0, .ref (ad 133)), (1, .int a1)] 209 [] := by
  unfold f_X12_pageField_209 at h
  refine r_iload_n C dX12_pageField_209 rfl 1 rfl ?_
  refine r_bipush (v := 68) C dX12_pageField_210 (by decide) ?_
  refine r_ic_ne (tgt := 250) C dX12_pageField_212 (by decide) h (fun h => ?_) (fun h => ?_)
  · exact s_X12_pageField_250 hn9 C M hD hG  a1 T h
  · refine r_aload_n C dX12_pageField_215 rfl 0 rfl ?_
    refine r_geti (f := 1251) C flX12_379 dX12_pageField_216 kq_133 (by decide) (by decide) rfl ?_
    refine r_if_le (tgt := 250) C dX12_pageField_219 (by decide) h (fun h => ?_) (fun h => ?_)
    · exact s_X12_pageField_250 hn9 C M hD hG  a1 T h
    · refine r_bipush (v := 48) C dX12_pageField_222 (by decide) ?_
      refine r_aload_n C dX12_pageField_224 rfl 0 rfl ?_
      refine r_geti (f := 1251) C flX12_379 dX12_pageField_225 kq_133 (by decide) (by decide) rfl ?_
      refine r_gd h (fun hz1 h => ?_)
      refine r_irem C dX12_pageField_228 hz1 rfl ?_
      refine r_if_ne (tgt := 250) C dX12_pageField_229 (by decide) h (fun h => ?_) (fun h => ?_)
      · exact s_X12_pageField_250 hn9 C M hD hG  a1 T h
      · refine r_aload_n C dX12_pageField_232 rfl 0 rfl ?_
        refine r_getp (f := 1200) (j := 134) C flX12_9 dX12_pageField_233 kq_133 (by decide) rfl (fun W => pt_1200 kq_133 W) ?_
        refine r_bipush (v := 6) C dX12_pageField_236 (by decide) ?_
        refine r_sipush (v := 7200) C dX12_pageField_238 (by decide) ?_
        refine r_aload_n C dX12_pageField_241 rfl 0 rfl ?_
        show Jr _ _ _ _ _ _ 242 _
        refine r_geti (f := 1251) C flX12_379 dX12_pageField_242 kq_133 (by decide) (by decide) rfl ?_
        refine r_gd h (fun hz2 h => ?_)
        refine r_idiv C dX12_pageField_245 hz2 rfl ?_
        refine r_iastc (n := 192) C 6 dX12_pageField_246 kq_134 lq_134 (vp_lit (by decide)) (by decide) h (fun T3 h => ?_)
        refine r_goto (tgt := 436) C dX12_pageField_247 (by decide) ?_
        exact r_vret C M dX12_pageField_436 h
noncomputable def f_X12_pageField_159 (G : Int32 → Mm → Option (Unit × Mm)) (a1 : Int32) (T : Mm) : Option (Unit × Mm) :=
  if a1 = 67 then (bd (f_X12_units 150 T) fun v1 T2 =>
  if (lg_cmp v1 0) < 0 then (f_X12_pageField_209 G a1 T2)
  else (bd (f_X12_units 150 T2) fun v3 T4 =>
  if 0 < (lg_cmp v3 32000) then (f_X12_pageField_209 G a1 T4)
  else (bd (f_X12_units 150 T4) fun v5 T6 =>
  lb (uA T6 134 6 (((v5).toInt32))) fun T7 =>
  some ((), T7))))
  else (f_X12_pageField_209 G a1 T)
set_option maxRecDepth 100000 in
set_option maxHeartbeats 4000000 in
theorem s_X12_pageField_159 {x : JX} {ad : Nat → Nat} {U : Mm} {S0 : Hp} {q : Unit × Mm} {D : Nat} {G : Int32 → Mm → Option (Unit × Mm)}  (hn9 : x_n x = 3) (C : CB x RX12 cX12_pageField) (M : CMr x (D + 2) none S0 ad false U eV q) (hD : 40 ≤ D) (hG : ∀ (i : Int32) (T : Mm) (q : Unit × Mm), G i T = some q → Cr D yX12_through cX12_through 8 none [.ref (ad 133), .int i] ad false U T eV q) (a1 : Int32) (T : Mm) (h : f_X12_pageField_159 G  a1 T = some q) : Jr x ad false U T [(0, .ref (ad 133)), (1, .int a1)] 159 [] := by
  unfold f_X12_pageField_159 at h
  refine r_iload_n C dX12_pageField_159 rfl 1 rfl ?_
  refine r_bipush (v := 67) C dX12_pageField_160 (by decide) ?_
  refine r_ic_ne (tgt := 209) C dX12_pageField_162 (by decide) h (fun h => ?_) (fun h => ?_)
  · exact s_X12_pageField_209 hn9 C M hD hG  a1 T h
  · refine r_aload_n C dX12_pageField_165 rfl 0 rfl ?_
    refine r_ldc2 (v := 150) C dX12_pageField_166 kcX12_431 ?_
    refine r_callVJ C M h [.long 150] [] mlX12_404 mcX12_units (fun q9 e9 => s_X12_units 150  e9) kq_133 rfl (by omega) (by decide) rfl rfl (Nat.le_of_ble_eq_true rfl) dX12_pageField_169 (fun v1 T2 h => ?_)
    refine r_lconst (v := 0) C dX12_pageField_172 (by decide) ?_
    refine r_lcmp C dX12_pageField_173 ?_
    show Jr _ _ _ _ _ _ 174 _
    refine r_if_lt (tgt := 209) C dX12_pageField_174 (by decide) h (fun h => ?_) (fun h => ?_)
    · exact s_X12_pageField_209 hn9 C M hD hG  a1 T2 h
    · refine r_aload_n C dX12_pageField_177 rfl 0 rfl ?_
      refine r_ldc2 (v := 150) C dX12_pageField_178 kcX12_431 ?_
      refine r_callVJ C M h [.long 150] [] mlX12_404 mcX12_units (fun q9 e9 => s_X12_units 150  e9) kq_133 rfl (by omega) (by decide) rfl rfl (Nat.le_of_ble_eq_true rfl) dX12_pageField_181 (fun v3 T4 h => ?_)
      refine r_ldc2 (v := 32000) C dX12_pageField_184 kcX12_408 ?_
      refine r_lcmp C dX12_pageField_187 ?_
      show Jr _ _ _ _ _ _ 188 _
      refine r_if_gt (tgt := 209) C dX12_pageField_188 (by decide) h (fun h => ?_) (fun h => ?_)
      · exact s_X12_pageField_209 hn9 C M hD hG  a1 T4 h
      · refine r_aload_n C dX12_pageField_191 rfl 0 rfl ?_
        refine r_getp (f := 1200) (j := 134) C flX12_9 dX12_pageField_192 kq_133 (by decide) rfl (fun W => pt_1200 kq_133 W) ?_
        refine r_bipush (v := 6) C dX12_pageField_195 (by decide) ?_
        refine r_aload_n C dX12_pageField_197 rfl 0 rfl ?_
        refine r_ldc2 (v := 150) C dX12_pageField_198 kcX12_431 ?_
        show Jr _ _ _ _ _ _ 201 _
        refine r_callVJ C M h [.long 150] [.int 6, .ref (ad 134)] mlX12_404 mcX12_units (fun q9 e9 => s_X12_units 150  e9) kq_133 rfl (by omega) (by decide) rfl rfl (Nat.le_of_ble_eq_true rfl) dX12_pageField_201 (fun v5 T6 h => ?_)
        refine r_l2i C dX12_pageField_204 rfl ?_
        refine r_iastc (n := 192) C 6 dX12_pageField_205 kq_134 lq_134 (vp_lit (by decide)) (by decide) h (fun T7 h => ?_)
        refine r_goto (tgt := 436) C dX12_pageField_206 (by decide) ?_
        exact r_vret C M dX12_pageField_436 h
noncomputable def f_X12_pageField_123 (G : Int32 → Mm → Option (Unit × Mm)) (a1 : Int32) (T : Mm) : Option (Unit × Mm) :=
  if a1 = 88 then (if (gI T 1251 133) < 1 then (f_X12_pageField_159 G a1 T)
  else (if 4 < (gI T 1251 133) then (f_X12_pageField_159 G a1 T)
  else (lb (uA T 134 8 ((gI T 1251 133))) fun T1 =>
  some ((), T1))))
  else (f_X12_pageField_159 G a1 T)
set_option maxRecDepth 100000 in
set_option maxHeartbeats 4000000 in
theorem s_X12_pageField_123 {x : JX} {ad : Nat → Nat} {U : Mm} {S0 : Hp} {q : Unit × Mm} {D : Nat} {G : Int32 → Mm → Option (Unit × Mm)}  (hn9 : x_n x = 3) (C : CB x RX12 cX12_pageField) (M : CMr x (D + 2) none S0 ad false U eV q) (hD : 40 ≤ D) (hG : ∀ (i : Int32) (T : Mm) (q : Unit × Mm), G i T = some q → Cr D yX12_through cX12_through 8 none [.ref (ad 133), .int i] ad false U T eV q) (a1 : Int32) (T : Mm) (h : f_X12_pageField_123 G  a1 T = some q) : Jr x ad false U T [(0, .ref (ad 133)), (1, .int a1)] 123 [] := by
  unfold f_X12_pageField_123 at h
  refine r_iload_n C dX12_pageField_123 rfl 1 rfl ?_
  refine r_bipush (v := 88) C dX12_pageField_124 (by decide) ?_
  refine r_ic_ne (tgt := 159) C dX12_pageField_126 (by decide) h (fun h => ?_) (fun h => ?_)
  · exact s_X12_pageField_159 hn9 C M hD hG  a1 T h
  · refine r_aload_n C dX12_pageField_129 rfl 0 rfl ?_
    refine r_geti (f := 1251) C flX12_379 dX12_pageField_130 kq_133 (by decide) (by decide) rfl ?_
    refine r_iconst (v := 1) C dX12_pageField_133 (by decide) ?_
    refine r_ic_lt (tgt := 159) C dX12_pageField_134 (by decide) h (fun h => ?_) (fun h => ?_)
    · exact s_X12_pageField_159 hn9 C M hD hG  a1 T h
    · refine r_aload_n C dX12_pageField_137 rfl 0 rfl ?_
      refine r_geti (f := 1251) C flX12_379 dX12_pageField_138 kq_133 (by decide) (by decide) rfl ?_
      refine r_iconst (v := 4) C dX12_pageField_141 (by decide) ?_
      refine r_ic_gt (tgt := 159) C dX12_pageField_142 (by decide) h (fun h => ?_) (fun h => ?_)
      · exact s_X12_pageField_159 hn9 C M hD hG  a1 T h
      · refine r_aload_n C dX12_pageField_145 rfl 0 rfl ?_
        refine r_getp (f := 1200) (j := 134) C flX12_9 dX12_pageField_146 kq_133 (by decide) rfl (fun W => pt_1200 kq_133 W) ?_
        refine r_bipush (v := 8) C dX12_pageField_149 (by decide) ?_
        refine r_aload_n C dX12_pageField_151 rfl 0 rfl ?_
        refine r_geti (f := 1251) C flX12_379 dX12_pageField_152 kq_133 (by decide) (by decide) rfl ?_
        show Jr _ _ _ _ _ _ 155 _
        refine r_iastc (n := 192) C 8 dX12_pageField_155 kq_134 lq_134 (vp_lit (by decide)) (by decide) h (fun T1 h => ?_)
        refine r_goto (tgt := 436) C dX12_pageField_156 (by decide) ?_
        exact r_vret C M dX12_pageField_436 h
noncomputable def f_X12_pageField_99 (G : Int32 → Mm → Option (Unit × Mm)) (a1 : Int32) (T : Mm) : Option (Unit × Mm) :=
  if a1 = 72 then (if (gI T 1251 133) = 0 then (bd (f_X12_eject G T) fun _ T1 =>
  bd (f_X12_homeY T1) fun _ T2 =>
  some ((), T2))
  else (f_X12_pageField_123 G a1 T))
  else (f_X12_pageField_123 G a1 T)
set_option maxRecDepth 100000 in
set_option maxHeartbeats 4000000 in
theorem s_X12_pageField_99 {x : JX} {ad : Nat → Nat} {U : Mm} {S0 : Hp} {q : Unit × Mm} {D : Nat} {G : Int32 → Mm → Option (Unit × Mm)}  (hn9 : x_n x = 3) (C : CB x RX12 cX12_pageField) (M : CMr x (D + 2) none S0 ad false U eV q) (hD : 40 ≤ D) (hG : ∀ (i : Int32) (T : Mm) (q : Unit × Mm), G i T = some q → Cr D yX12_through cX12_through 8 none [.ref (ad 133), .int i] ad false U T eV q) (a1 : Int32) (T : Mm) (h : f_X12_pageField_99 G  a1 T = some q) : Jr x ad false U T [(0, .ref (ad 133)), (1, .int a1)] 99 [] := by
  unfold f_X12_pageField_99 at h
  refine r_iload_n C dX12_pageField_99 rfl 1 rfl ?_
  refine r_bipush (v := 72) C dX12_pageField_100 (by decide) ?_
  refine r_ic_ne (tgt := 123) C dX12_pageField_102 (by decide) h (fun h => ?_) (fun h => ?_)
  · exact s_X12_pageField_123 hn9 C M hD hG  a1 T h
  · refine r_aload_n C dX12_pageField_105 rfl 0 rfl ?_
    refine r_geti (f := 1251) C flX12_379 dX12_pageField_106 kq_133 (by decide) (by decide) rfl ?_
    refine r_if_ne (tgt := 123) C dX12_pageField_109 (by decide) h (fun h => ?_) (fun h => ?_)
    · exact s_X12_pageField_123 hn9 C M hD hG  a1 T h
    · refine r_aload_n C dX12_pageField_112 rfl 0 rfl ?_
      refine r_callVN C M h [] [] mlX12_307 mcX12_eject (fun q9 e9 => s_X12_eject hD (fun i9 T9 q9 e9 => hG i9 T9 q9 e9)   e9) kq_133 rfl (by omega) (by decide) rfl rfl (Nat.le_of_ble_eq_true rfl) dX12_pageField_113 (fun _ T1 h => ?_)
      refine r_aload_n C dX12_pageField_116 rfl 0 rfl ?_
      refine r_callVN C M h [] [] mlX12_213 mcX12_homeY (fun q9 e9 => s_X12_homeY   e9) kq_133 rfl (by omega) (by decide) rfl rfl (Nat.le_of_ble_eq_true rfl) dX12_pageField_117 (fun _ T2 h => ?_)
      refine r_goto (tgt := 436) C dX12_pageField_120 (by decide) ?_
      show Jr _ _ _ _ _ _ 436 _
      exact r_vret C M dX12_pageField_436 h
noncomputable def f_X12_pageField_67 (G : Int32 → Mm → Option (Unit × Mm)) (a1 : Int32) (a2 : Int32) (T : Mm) : Option (Unit × Mm) :=
  if (gI T 1231 133) = 0 then (bd (f_X12_eject G T) fun _ T1 =>
  if (gI T1 1233 133) = 0 then (lb (uA T1 134 1 (a2)) fun T2 =>
  bd (f_X12_pagesOwn T2) fun _ T3 =>
  some ((), T3))
  else (some ((), T1)))
  else (f_X12_pageField_99 G a1 T)
set_option maxRecDepth 100000 in
set_option maxHeartbeats 4000000 in
theorem s_X12_pageField_67 {x : JX} {ad : Nat → Nat} {U : Mm} {S0 : Hp} {q : Unit × Mm} {D : Nat} {G : Int32 → Mm → Option (Unit × Mm)}  (hn9 : x_n x = 3) (C : CB x RX12 cX12_pageField) (M : CMr x (D + 2) none S0 ad false U eV q) (hD : 40 ≤ D) (hG : ∀ (i : Int32) (T : Mm) (q : Unit × Mm), G i T = some q → Cr D yX12_through cX12_through 8 none [.ref (ad 133), .int i] ad false U T eV q) (a1 : Int32) (a2 : Int32) (T : Mm) (h : f_X12_pageField_67 G  a1 a2 T = some q) : Jr x ad false U T [(0, .ref (ad 133)), (1, .int a1), (2, .int a2)] 67 [] := by
  unfold f_X12_pageField_67 at h
  refine r_aload_n C dX12_pageField_67 rfl 0 rfl ?_
  refine r_geti (f := 1231) C flX12_219 dX12_pageField_68 kq_133 (by decide) (by decide) rfl ?_
  refine r_if_ne (tgt := 99) C dX12_pageField_71 (by decide) h (fun h => ?_) (fun h => ?_)
  · refine Jr.sub [0, 1] (lv' := [(0, .ref (ad 133)), (1, .int a1)]) rfl ?_
    exact s_X12_pageField_99 hn9 C M hD hG  a1 T h
  · refine r_aload_n C dX12_pageField_74 rfl 0 rfl ?_
    refine r_callVN C M h [] [] mlX12_307 mcX12_eject (fun q9 e9 => s_X12_eject hD (fun i9 T9 q9 e9 => hG i9 T9 q9 e9)   e9) kq_133 rfl (by omega) (by decide) rfl rfl (Nat.le_of_ble_eq_true rfl) dX12_pageField_75 (fun _ T1 h => ?_)
    refine r_aload_n C dX12_pageField_78 rfl 0 rfl ?_
    refine r_geti (f := 1233) C flX12_191 dX12_pageField_79 kq_133 (by decide) (by decide) rfl ?_
    refine r_if_ne (tgt := 436) C dX12_pageField_82 (by decide) h (fun h => ?_) (fun h => ?_)
    · exact r_vret C M dX12_pageField_436 h
    · refine r_aload_n C dX12_pageField_85 rfl 0 rfl ?_
      refine r_getp (f := 1200) (j := 134) C flX12_9 dX12_pageField_86 kq_133 (by decide) rfl (fun W => pt_1200 kq_133 W) ?_
      refine r_iconst (v := 1) C dX12_pageField_89 (by decide) ?_
      refine r_iload_n C dX12_pageField_90 rfl 2 rfl ?_
      refine r_iastc (n := 192) C 1 dX12_pageField_91 kq_134 lq_134 (vp_lit (by decide)) (by decide) h (fun T2 h => ?_)
      show Jr _ _ _ _ _ _ 92 _
      refine r_aload_n C dX12_pageField_92 rfl 0 rfl ?_
      refine r_callVN C M h [] [] mlX12_216 mcX12_pagesOwn (fun q9 e9 => s_X12_pagesOwn   e9) kq_133 rfl (by omega) (by decide) rfl rfl (Nat.le_of_ble_eq_true rfl) dX12_pageField_93 (fun _ T3 h => ?_)
      refine r_goto (tgt := 436) C dX12_pageField_96 (by decide) ?_
      exact r_vret C M dX12_pageField_436 h
noncomputable def f_X12_pageField_52 (G : Int32 → Mm → Option (Unit × Mm)) (a1 : Int32) (a2 : Int32) (T : Mm) : Option (Unit × Mm) :=
  if a1 = 79 then (if a2 = 0 then (f_X12_pageField_67 G a1 a2 T)
  else (if a2 = 1 then (f_X12_pageField_67 G a1 a2 T)
  else (f_X12_pageField_99 G a1 T)))
  else (f_X12_pageField_99 G a1 T)
set_option maxRecDepth 100000 in
set_option maxHeartbeats 4000000 in
theorem s_X12_pageField_52 {x : JX} {ad : Nat → Nat} {U : Mm} {S0 : Hp} {q : Unit × Mm} {D : Nat} {G : Int32 → Mm → Option (Unit × Mm)}  (hn9 : x_n x = 3) (C : CB x RX12 cX12_pageField) (M : CMr x (D + 2) none S0 ad false U eV q) (hD : 40 ≤ D) (hG : ∀ (i : Int32) (T : Mm) (q : Unit × Mm), G i T = some q → Cr D yX12_through cX12_through 8 none [.ref (ad 133), .int i] ad false U T eV q) (a1 : Int32) (a2 : Int32) (T : Mm) (h : f_X12_pageField_52 G  a1 a2 T = some q) : Jr x ad false U T [(0, .ref (ad 133)), (1, .int a1), (2, .int a2)] 52 [] := by
  unfold f_X12_pageField_52 at h
  refine r_iload_n C dX12_pageField_52 rfl 1 rfl ?_
  refine r_bipush (v := 79) C dX12_pageField_53 (by decide) ?_
  refine r_ic_ne (tgt := 99) C dX12_pageField_55 (by decide) h (fun h => ?_) (fun h => ?_)
  · refine Jr.sub [0, 1] (lv' := [(0, .ref (ad 133)), (1, .int a1)]) rfl ?_
    exact s_X12_pageField_99 hn9 C M hD hG  a1 T h
  · refine r_iload_n C dX12_pageField_58 rfl 2 rfl ?_
    refine r_if_eq (tgt := 67) C dX12_pageField_59 (by decide) h (fun h => ?_) (fun h => ?_)
    · exact s_X12_pageField_67 hn9 C M hD hG  a1 a2 T h
    · refine r_iload_n C dX12_pageField_62 rfl 2 rfl ?_
      refine r_iconst (v := 1) C dX12_pageField_63 (by decide) ?_
      refine r_ic_ne (tgt := 99) C dX12_pageField_64 (by decide) h (fun h => ?_) (fun h => ?_)
      · refine Jr.sub [0, 1] (lv' := [(0, .ref (ad 133)), (1, .int a1)]) rfl ?_
        exact s_X12_pageField_99 hn9 C M hD hG  a1 T h
      · exact s_X12_pageField_67 hn9 C M hD hG  a1 a2 T h
noncomputable def f_X12_pageField (G : Int32 → Mm → Option (Unit × Mm)) (p1 : Int32) (T : Mm) : Option (Unit × Mm) :=
  lb ((gI T 1251 133)) fun v1 =>
  if p1 = 65 then (if v1 < 0 then (f_X12_pageField_52 G p1 v1 T)
  else (if 3 < v1 then (f_X12_pageField_52 G p1 v1 T)
  else (if (gI T 1231 133) = 0 then (bd (f_X12_eject G T) fun _ T2 =>
  if (gI T2 1233 133) = 0 then (lb (uA T2 134 0 (v1)) fun T3 =>
  bd (f_X12_pagesOwn T3) fun _ T4 =>
  some ((), T4))
  else (some ((), T2)))
  else (f_X12_pageField_52 G p1 v1 T))))
  else (f_X12_pageField_52 G p1 v1 T)
set_option maxRecDepth 100000 in
set_option maxHeartbeats 4000000 in
theorem s_X12_pageField {ad : Nat → Nat} {U T : Mm} {q : Unit × Mm} {D : Nat} {G : Int32 → Mm → Option (Unit × Mm)}  (hD : 40 ≤ D) (hG : ∀ (i : Int32) (T : Mm) (q : Unit × Mm), G i T = some q → Cr D yX12_through cX12_through 8 none [.ref (ad 133), .int i] ad false U T eV q) (p1 : Int32) (h : f_X12_pageField G p1 T = some q) : Cr (D + 2) yX12_pageField cX12_pageField 3 none [.ref (ad 133), .int p1] ad false U T eV q := by
  refine cr_of (by decide) (Nat.le_of_ble_eq_true rfl) fun x S0 hn9 C M => ?_
  have C : CB x RX12 cX12_pageField := C
  refine Jr.eq (lv' := [(0, .ref (ad 133)), (1, .int p1)]) (st' := []) rfl rfl ?_
  unfold f_X12_pageField at h
  refine r_aload_n C dX12_pageField_0 rfl 0 rfl ?_
  refine r_geti (f := 1251) C flX12_379 dX12_pageField_1 kq_133 (by decide) (by decide) rfl ?_
  refine r_lbI h (fun v1 h => ?_)
  refine r_istore_n (lv' := [(2, .int v1), (0, .ref (ad 133)), (1, .int p1)]) C dX12_pageField_4 rfl (by rw [hn9]; decide) rfl ?_
  refine r_iload_n C dX12_pageField_5 rfl 2 rfl ?_
  refine r_bipush (v := 65) C dX12_pageField_6 (by decide) ?_
  show Jr _ _ _ _ _ _ 8 _
  refine r_ic_ne (tgt := 52) C dX12_pageField_8 (by decide) h (fun h => ?_) (fun h => ?_)
  · refine Jr.sub [1, 2, 0] (lv' := [(0, .ref (ad 133)), (1, .int p1), (2, .int v1)]) rfl ?_
    exact s_X12_pageField_52 hn9 C M hD hG  p1 v1 T h
  · refine r_iload_n C dX12_pageField_11 rfl 0 rfl ?_
    refine r_if_lt (tgt := 52) C dX12_pageField_12 (by decide) h (fun h => ?_) (fun h => ?_)
    · refine Jr.sub [1, 2, 0] (lv' := [(0, .ref (ad 133)), (1, .int p1), (2, .int v1)]) rfl ?_
      exact s_X12_pageField_52 hn9 C M hD hG  p1 v1 T h
    · refine r_iload_n C dX12_pageField_15 rfl 0 rfl ?_
      refine r_iconst (v := 3) C dX12_pageField_16 (by decide) ?_
      refine r_ic_gt (tgt := 52) C dX12_pageField_17 (by decide) h (fun h => ?_) (fun h => ?_)
      · refine Jr.sub [1, 2, 0] (lv' := [(0, .ref (ad 133)), (1, .int p1), (2, .int v1)]) rfl ?_
        exact s_X12_pageField_52 hn9 C M hD hG  p1 v1 T h
      · refine r_aload_n C dX12_pageField_20 rfl 1 rfl ?_
        refine r_geti (f := 1231) C flX12_219 dX12_pageField_21 kq_133 (by decide) (by decide) rfl ?_
        refine r_if_ne (tgt := 52) C dX12_pageField_24 (by decide) h (fun h => ?_) (fun h => ?_)
        · refine Jr.sub [1, 2, 0] (lv' := [(0, .ref (ad 133)), (1, .int p1), (2, .int v1)]) rfl ?_
          exact s_X12_pageField_52 hn9 C M hD hG  p1 v1 T h
        · refine r_aload_n C dX12_pageField_27 rfl 1 rfl ?_
          refine r_callVN C M h [] [] mlX12_307 mcX12_eject (fun q9 e9 => s_X12_eject hD (fun i9 T9 q9 e9 => hG i9 T9 q9 e9)   e9) kq_133 rfl (by omega) (by decide) rfl rfl (Nat.le_of_ble_eq_true rfl) dX12_pageField_28 (fun _ T2 h => ?_)
          refine r_aload_n C dX12_pageField_31 rfl 1 rfl ?_
          refine r_geti (f := 1233) C flX12_191 dX12_pageField_32 kq_133 (by decide) (by decide) rfl ?_
          refine r_if_ne (tgt := 436) C dX12_pageField_35 (by decide) h (fun h => ?_) (fun h => ?_)
          · exact r_vret C M dX12_pageField_436 h
          · refine r_aload_n C dX12_pageField_38 rfl 1 rfl ?_
            refine r_getp (f := 1200) (j := 134) C flX12_9 dX12_pageField_39 kq_133 (by decide) rfl (fun W => pt_1200 kq_133 W) ?_
            refine r_iconst (v := 0) C dX12_pageField_42 (by decide) ?_
            refine r_iload_n C dX12_pageField_43 rfl 0 rfl ?_
            refine r_iastc (n := 192) C 0 dX12_pageField_44 kq_134 lq_134 (vp_lit (by decide)) (by decide) h (fun T3 h => ?_)
            show Jr _ _ _ _ _ _ 45 _
            refine r_aload_n C dX12_pageField_45 rfl 1 rfl ?_
            refine r_callVN C M h [] [] mlX12_216 mcX12_pagesOwn (fun q9 e9 => s_X12_pagesOwn   e9) kq_133 rfl (by omega) (by decide) rfl rfl (Nat.le_of_ble_eq_true rfl) dX12_pageField_46 (fun _ T4 h => ?_)
            refine r_goto (tgt := 436) C dX12_pageField_49 (by decide) ?_
            exact r_vret C M dX12_pageField_436 h
theorem dX12_placeField_0 : decode cX12_placeField 0 = .ok (.iload_n 1, 1) := by decide +kernel
theorem dX12_placeField_1 : decode cX12_placeField 1 = .ok (.bipush 67, 2) := by decide +kernel
theorem dX12_placeField_3 : decode cX12_placeField 3 = .ok (.if_icmp .ne 43, 3) := by decide +kernel
theorem dX12_placeField_6 : decode cX12_placeField 6 = .ok (.aload_n 0, 1) := by decide +kernel
theorem dX12_placeField_7 : decode cX12_placeField 7 = .ok (.aload_n 0, 1) := by decide +kernel
theorem dX12_placeField_8 : decode cX12_placeField 8 = .ok (.aload_n 0, 1) := by decide +kernel
theorem dX12_placeField_9 : decode cX12_placeField 9 = .ok (.getfield 9, 3) := by decide +kernel
theorem dX12_placeField_12 : decode cX12_placeField 12 = .ok (.bipush 7, 2) := by decide +kernel
theorem dX12_placeField_14 : decode cX12_placeField 14 = .ok (.iaload, 1) := by decide +kernel
theorem dX12_placeField_15 : decode cX12_placeField 15 = .ok (.i2l, 1) := by decide +kernel
theorem dX12_placeField_16 : decode cX12_placeField 16 = .ok (.invokevirtual 404, 3) := by decide +kernel
theorem dX12_placeField_19 : decode cX12_placeField 19 = .ok (.aload_n 0, 1) := by decide +kernel
theorem dX12_placeField_20 : decode cX12_placeField 20 = .ok (.getfield 376, 3) := by decide +kernel
theorem dX12_placeField_23 : decode cX12_placeField 23 = .ok (.ifCond .eq 14, 3) := by decide +kernel
theorem dX12_placeField_26 : decode cX12_placeField 26 = .ok (.aload_n 0, 1) := by decide +kernel
theorem dX12_placeField_27 : decode cX12_placeField 27 = .ok (.getfield 9, 3) := by decide +kernel
theorem dX12_placeField_30 : decode cX12_placeField 30 = .ok (.sipush 189, 3) := by decide +kernel
theorem dX12_placeField_33 : decode cX12_placeField 33 = .ok (.iaload, 1) := by decide +kernel
theorem dX12_placeField_34 : decode cX12_placeField 34 = .ok (.goto 4, 3) := by decide +kernel
theorem dX12_placeField_37 : decode cX12_placeField 37 = .ok (.iconst 0, 1) := by decide +kernel
theorem dX12_placeField_38 : decode cX12_placeField 38 = .ok (.i2l, 1) := by decide +kernel
theorem dX12_placeField_39 : decode cX12_placeField 39 = .ok (.ladd, 1) := by decide +kernel
theorem dX12_placeField_40 : decode cX12_placeField 40 = .ok (.invokevirtual 210, 3) := by decide +kernel
theorem dX12_placeField_43 : decode cX12_placeField 43 = .ok (.goto 317, 3) := by decide +kernel
theorem dX12_placeField_46 : decode cX12_placeField 46 = .ok (.iload_n 1, 1) := by decide +kernel
theorem dX12_placeField_47 : decode cX12_placeField 47 = .ok (.bipush 82, 2) := by decide +kernel
theorem dX12_placeField_49 : decode cX12_placeField 49 = .ok (.if_icmp .ne 48, 3) := by decide +kernel
theorem dX12_placeField_52 : decode cX12_placeField 52 = .ok (.aload_n 0, 1) := by decide +kernel
theorem dX12_placeField_53 : decode cX12_placeField 53 = .ok (.aload_n 0, 1) := by decide +kernel
theorem dX12_placeField_54 : decode cX12_placeField 54 = .ok (.aload_n 0, 1) := by decide +kernel
theorem dX12_placeField_55 : decode cX12_placeField 55 = .ok (.getfield 9, 3) := by decide +kernel
theorem dX12_placeField_58 : decode cX12_placeField 58 = .ok (.bipush 6, 2) := by decide +kernel
theorem dX12_placeField_60 : decode cX12_placeField 60 = .ok (.iaload, 1) := by decide +kernel
theorem dX12_placeField_61 : decode cX12_placeField 61 = .ok (.i2l, 1) := by decide +kernel
theorem dX12_placeField_62 : decode cX12_placeField 62 = .ok (.invokevirtual 404, 3) := by decide +kernel
theorem dX12_placeField_65 : decode cX12_placeField 65 = .ok (.aload_n 0, 1) := by decide +kernel
theorem dX12_placeField_66 : decode cX12_placeField 66 = .ok (.getfield 376, 3) := by decide +kernel
theorem dX12_placeField_69 : decode cX12_placeField 69 = .ok (.ifCond .eq 14, 3) := by decide +kernel
theorem dX12_placeField_72 : decode cX12_placeField 72 = .ok (.aload_n 0, 1) := by decide +kernel
theorem dX12_placeField_73 : decode cX12_placeField 73 = .ok (.getfield 9, 3) := by decide +kernel
theorem dX12_placeField_76 : decode cX12_placeField 76 = .ok (.sipush 190, 3) := by decide +kernel
theorem dX12_placeField_79 : decode cX12_placeField 79 = .ok (.iaload, 1) := by decide +kernel
theorem dX12_placeField_80 : decode cX12_placeField 80 = .ok (.goto 9, 3) := by decide +kernel
theorem dX12_placeField_83 : decode cX12_placeField 83 = .ok (.aload_n 0, 1) := by decide +kernel
theorem dX12_placeField_84 : decode cX12_placeField 84 = .ok (.getfield 9, 3) := by decide +kernel
theorem dX12_placeField_87 : decode cX12_placeField 87 = .ok (.iconst 4, 1) := by decide +kernel
theorem dX12_placeField_88 : decode cX12_placeField 88 = .ok (.iaload, 1) := by decide +kernel
theorem dX12_placeField_89 : decode cX12_placeField 89 = .ok (.i2l, 1) := by decide +kernel
theorem dX12_placeField_90 : decode cX12_placeField 90 = .ok (.ladd, 1) := by decide +kernel
theorem dX12_placeField_91 : decode cX12_placeField 91 = .ok (.invokevirtual 206, 3) := by decide +kernel
theorem dX12_placeField_94 : decode cX12_placeField 94 = .ok (.goto 266, 3) := by decide +kernel
theorem dX12_placeField_97 : decode cX12_placeField 97 = .ok (.iload_n 1, 1) := by decide +kernel
theorem dX12_placeField_98 : decode cX12_placeField 98 = .ok (.bipush 72, 2) := by decide +kernel
theorem dX12_placeField_100 : decode cX12_placeField 100 = .ok (.if_icmp .ne 38, 3) := by decide +kernel
theorem dX12_placeField_103 : decode cX12_placeField 103 = .ok (.aload_n 0, 1) := by decide +kernel
theorem dX12_placeField_104 : decode cX12_placeField 104 = .ok (.aload_n 0, 1) := by decide +kernel
theorem dX12_placeField_105 : decode cX12_placeField 105 = .ok (.ldc2_w 433, 3) := by decide +kernel
theorem dX12_placeField_108 : decode cX12_placeField 108 = .ok (.invokevirtual 404, 3) := by decide +kernel
theorem dX12_placeField_111 : decode cX12_placeField 111 = .ok (.aload_n 0, 1) := by decide +kernel
theorem dX12_placeField_112 : decode cX12_placeField 112 = .ok (.getfield 376, 3) := by decide +kernel
theorem dX12_placeField_115 : decode cX12_placeField 115 = .ok (.ifCond .eq 14, 3) := by decide +kernel
theorem dX12_placeField_118 : decode cX12_placeField 118 = .ok (.aload_n 0, 1) := by decide +kernel
theorem dX12_placeField_119 : decode cX12_placeField 119 = .ok (.getfield 9, 3) := by decide +kernel
theorem dX12_placeField_122 : decode cX12_placeField 122 = .ok (.sipush 189, 3) := by decide +kernel
theorem dX12_placeField_125 : decode cX12_placeField 125 = .ok (.iaload, 1) := by decide +kernel
theorem dX12_placeField_126 : decode cX12_placeField 126 = .ok (.goto 4, 3) := by decide +kernel
theorem dX12_placeField_129 : decode cX12_placeField 129 = .ok (.iconst 0, 1) := by decide +kernel
theorem dX12_placeField_130 : decode cX12_placeField 130 = .ok (.i2l, 1) := by decide +kernel
theorem dX12_placeField_131 : decode cX12_placeField 131 = .ok (.ladd, 1) := by decide +kernel
theorem dX12_placeField_132 : decode cX12_placeField 132 = .ok (.invokevirtual 210, 3) := by decide +kernel
theorem dX12_placeField_135 : decode cX12_placeField 135 = .ok (.goto 225, 3) := by decide +kernel
theorem dX12_placeField_138 : decode cX12_placeField 138 = .ok (.iload_n 1, 1) := by decide +kernel
theorem dX12_placeField_139 : decode cX12_placeField 139 = .ok (.bipush 86, 2) := by decide +kernel
theorem dX12_placeField_141 : decode cX12_placeField 141 = .ok (.if_icmp .ne 43, 3) := by decide +kernel
theorem dX12_placeField_144 : decode cX12_placeField 144 = .ok (.aload_n 0, 1) := by decide +kernel
theorem dX12_placeField_145 : decode cX12_placeField 145 = .ok (.aload_n 0, 1) := by decide +kernel
theorem dX12_placeField_146 : decode cX12_placeField 146 = .ok (.ldc2_w 433, 3) := by decide +kernel
theorem dX12_placeField_149 : decode cX12_placeField 149 = .ok (.invokevirtual 404, 3) := by decide +kernel
theorem dX12_placeField_152 : decode cX12_placeField 152 = .ok (.aload_n 0, 1) := by decide +kernel
theorem dX12_placeField_153 : decode cX12_placeField 153 = .ok (.getfield 376, 3) := by decide +kernel
theorem dX12_placeField_156 : decode cX12_placeField 156 = .ok (.ifCond .eq 14, 3) := by decide +kernel
theorem dX12_placeField_159 : decode cX12_placeField 159 = .ok (.aload_n 0, 1) := by decide +kernel
theorem dX12_placeField_160 : decode cX12_placeField 160 = .ok (.getfield 9, 3) := by decide +kernel
theorem dX12_placeField_163 : decode cX12_placeField 163 = .ok (.sipush 190, 3) := by decide +kernel
theorem dX12_placeField_166 : decode cX12_placeField 166 = .ok (.iaload, 1) := by decide +kernel
theorem dX12_placeField_167 : decode cX12_placeField 167 = .ok (.goto 9, 3) := by decide +kernel
theorem dX12_placeField_170 : decode cX12_placeField 170 = .ok (.aload_n 0, 1) := by decide +kernel
theorem dX12_placeField_171 : decode cX12_placeField 171 = .ok (.getfield 9, 3) := by decide +kernel
theorem dX12_placeField_174 : decode cX12_placeField 174 = .ok (.iconst 4, 1) := by decide +kernel
theorem dX12_placeField_175 : decode cX12_placeField 175 = .ok (.iaload, 1) := by decide +kernel
theorem dX12_placeField_176 : decode cX12_placeField 176 = .ok (.i2l, 1) := by decide +kernel
theorem dX12_placeField_177 : decode cX12_placeField 177 = .ok (.ladd, 1) := by decide +kernel
theorem dX12_placeField_178 : decode cX12_placeField 178 = .ok (.invokevirtual 206, 3) := by decide +kernel
theorem dX12_placeField_181 : decode cX12_placeField 181 = .ok (.goto 179, 3) := by decide +kernel
theorem dX12_placeField_184 : decode cX12_placeField 184 = .ok (.iload_n 1, 1) := by decide +kernel
theorem dX12_placeField_185 : decode cX12_placeField 185 = .ok (.bipush 76, 2) := by decide +kernel
theorem dX12_placeField_187 : decode cX12_placeField 187 = .ok (.if_icmp .ne 84, 3) := by decide +kernel
theorem dX12_placeField_190 : decode cX12_placeField 190 = .ok (.aload_n 0, 1) := by decide +kernel
theorem dX12_placeField_191 : decode cX12_placeField 191 = .ok (.getfield 379, 3) := by decide +kernel
theorem dX12_placeField_194 : decode cX12_placeField 194 = .ok (.ifCond .lt 77, 3) := by decide +kernel
theorem dX12_placeField_197 : decode cX12_placeField 197 = .ok (.aload_n 0, 1) := by decide +kernel
theorem dX12_placeField_198 : decode cX12_placeField 198 = .ok (.getfield 379, 3) := by decide +kernel
theorem dX12_placeField_201 : decode cX12_placeField 201 = .ok (.i2l, 1) := by decide +kernel
theorem dX12_placeField_202 : decode cX12_placeField 202 = .ok (.aload_n 0, 1) := by decide +kernel
theorem dX12_placeField_203 : decode cX12_placeField 203 = .ok (.getfield 9, 3) := by decide +kernel
theorem dX12_placeField_206 : decode cX12_placeField 206 = .ok (.bipush 7, 2) := by decide +kernel
theorem dX12_placeField_208 : decode cX12_placeField 208 = .ok (.iaload, 1) := by decide +kernel
theorem dX12_placeField_209 : decode cX12_placeField 209 = .ok (.i2l, 1) := by decide +kernel
theorem dX12_placeField_210 : decode cX12_placeField 210 = .ok (.lmul, 1) := by decide +kernel
theorem dX12_placeField_211 : decode cX12_placeField 211 = .ok (.aload_n 0, 1) := by decide +kernel
theorem dX12_placeField_212 : decode cX12_placeField 212 = .ok (.getfield 9, 3) := by decide +kernel
theorem dX12_placeField_215 : decode cX12_placeField 215 = .ok (.iconst 3, 1) := by decide +kernel
theorem dX12_placeField_216 : decode cX12_placeField 216 = .ok (.iaload, 1) := by decide +kernel
theorem dX12_placeField_217 : decode cX12_placeField 217 = .ok (.i2l, 1) := by decide +kernel
theorem dX12_placeField_218 : decode cX12_placeField 218 = .ok (.lcmp, 1) := by decide +kernel
theorem dX12_placeField_219 : decode cX12_placeField 219 = .ok (.ifCond .ge 52, 3) := by decide +kernel
theorem dX12_placeField_222 : decode cX12_placeField 222 = .ok (.aload_n 0, 1) := by decide +kernel
theorem dX12_placeField_223 : decode cX12_placeField 223 = .ok (.getfield 9, 3) := by decide +kernel
theorem dX12_placeField_226 : decode cX12_placeField 226 = .ok (.iconst 2, 1) := by decide +kernel
theorem dX12_placeField_227 : decode cX12_placeField 227 = .ok (.aload_n 0, 1) := by decide +kernel
theorem dX12_placeField_228 : decode cX12_placeField 228 = .ok (.getfield 379, 3) := by decide +kernel
theorem dX12_placeField_231 : decode cX12_placeField 231 = .ok (.aload_n 0, 1) := by decide +kernel
theorem dX12_placeField_232 : decode cX12_placeField 232 = .ok (.getfield 9, 3) := by decide +kernel
theorem dX12_placeField_235 : decode cX12_placeField 235 = .ok (.bipush 7, 2) := by decide +kernel
theorem dX12_placeField_237 : decode cX12_placeField 237 = .ok (.iaload, 1) := by decide +kernel
theorem dX12_placeField_238 : decode cX12_placeField 238 = .ok (.imul, 1) := by decide +kernel
theorem dX12_placeField_239 : decode cX12_placeField 239 = .ok (.iastore, 1) := by decide +kernel
theorem dX12_placeField_240 : decode cX12_placeField 240 = .ok (.aload_n 0, 1) := by decide +kernel
theorem dX12_placeField_241 : decode cX12_placeField 241 = .ok (.getfield 9, 3) := by decide +kernel
theorem dX12_placeField_244 : decode cX12_placeField 244 = .ok (.sipush 189, 3) := by decide +kernel
theorem dX12_placeField_247 : decode cX12_placeField 247 = .ok (.iaload, 1) := by decide +kernel
theorem dX12_placeField_248 : decode cX12_placeField 248 = .ok (.aload_n 0, 1) := by decide +kernel
theorem dX12_placeField_249 : decode cX12_placeField 249 = .ok (.getfield 9, 3) := by decide +kernel
theorem dX12_placeField_252 : decode cX12_placeField 252 = .ok (.iconst 2, 1) := by decide +kernel
theorem dX12_placeField_253 : decode cX12_placeField 253 = .ok (.iaload, 1) := by decide +kernel
theorem dX12_placeField_254 : decode cX12_placeField 254 = .ok (.if_icmp .ge 106, 3) := by decide +kernel
theorem dX12_placeField_257 : decode cX12_placeField 257 = .ok (.aload_n 0, 1) := by decide +kernel
theorem dX12_placeField_258 : decode cX12_placeField 258 = .ok (.aload_n 0, 1) := by decide +kernel
theorem dX12_placeField_259 : decode cX12_placeField 259 = .ok (.getfield 9, 3) := by decide +kernel
theorem dX12_placeField_262 : decode cX12_placeField 262 = .ok (.iconst 2, 1) := by decide +kernel
theorem dX12_placeField_263 : decode cX12_placeField 263 = .ok (.iaload, 1) := by decide +kernel
theorem dX12_placeField_264 : decode cX12_placeField 264 = .ok (.i2l, 1) := by decide +kernel
theorem dX12_placeField_265 : decode cX12_placeField 265 = .ok (.invokevirtual 210, 3) := by decide +kernel
theorem dX12_placeField_268 : decode cX12_placeField 268 = .ok (.goto 92, 3) := by decide +kernel
theorem dX12_placeField_271 : decode cX12_placeField 271 = .ok (.iload_n 1, 1) := by decide +kernel
theorem dX12_placeField_272 : decode cX12_placeField 272 = .ok (.bipush 77, 2) := by decide +kernel
theorem dX12_placeField_274 : decode cX12_placeField 274 = .ok (.if_icmp .ne 86, 3) := by decide +kernel
theorem dX12_placeField_277 : decode cX12_placeField 277 = .ok (.aload_n 0, 1) := by decide +kernel
theorem dX12_placeField_278 : decode cX12_placeField 278 = .ok (.getfield 379, 3) := by decide +kernel
theorem dX12_placeField_281 : decode cX12_placeField 281 = .ok (.ifCond .lt 79, 3) := by decide +kernel
theorem dX12_placeField_284 : decode cX12_placeField 284 = .ok (.aload_n 0, 1) := by decide +kernel
theorem dX12_placeField_285 : decode cX12_placeField 285 = .ok (.getfield 379, 3) := by decide +kernel
theorem dX12_placeField_288 : decode cX12_placeField 288 = .ok (.i2l, 1) := by decide +kernel
theorem dX12_placeField_289 : decode cX12_placeField 289 = .ok (.lconst 1, 1) := by decide +kernel
theorem dX12_placeField_290 : decode cX12_placeField 290 = .ok (.ladd, 1) := by decide +kernel
theorem dX12_placeField_291 : decode cX12_placeField 291 = .ok (.aload_n 0, 1) := by decide +kernel
theorem dX12_placeField_292 : decode cX12_placeField 292 = .ok (.getfield 9, 3) := by decide +kernel
theorem dX12_placeField_295 : decode cX12_placeField 295 = .ok (.bipush 7, 2) := by decide +kernel
theorem dX12_placeField_297 : decode cX12_placeField 297 = .ok (.iaload, 1) := by decide +kernel
theorem dX12_placeField_298 : decode cX12_placeField 298 = .ok (.i2l, 1) := by decide +kernel
theorem dX12_placeField_299 : decode cX12_placeField 299 = .ok (.lmul, 1) := by decide +kernel
theorem dX12_placeField_300 : decode cX12_placeField 300 = .ok (.aload_n 0, 1) := by decide +kernel
theorem dX12_placeField_301 : decode cX12_placeField 301 = .ok (.getfield 9, 3) := by decide +kernel
theorem dX12_placeField_304 : decode cX12_placeField 304 = .ok (.iconst 2, 1) := by decide +kernel
theorem dX12_placeField_305 : decode cX12_placeField 305 = .ok (.iaload, 1) := by decide +kernel
theorem dX12_placeField_306 : decode cX12_placeField 306 = .ok (.i2l, 1) := by decide +kernel
theorem dX12_placeField_307 : decode cX12_placeField 307 = .ok (.lcmp, 1) := by decide +kernel
theorem dX12_placeField_308 : decode cX12_placeField 308 = .ok (.ifCond .le 52, 3) := by decide +kernel
theorem dX12_placeField_311 : decode cX12_placeField 311 = .ok (.aload_n 0, 1) := by decide +kernel
theorem dX12_placeField_312 : decode cX12_placeField 312 = .ok (.getfield 379, 3) := by decide +kernel
theorem dX12_placeField_315 : decode cX12_placeField 315 = .ok (.i2l, 1) := by decide +kernel
theorem dX12_placeField_316 : decode cX12_placeField 316 = .ok (.lconst 1, 1) := by decide +kernel
theorem dX12_placeField_317 : decode cX12_placeField 317 = .ok (.ladd, 1) := by decide +kernel
theorem dX12_placeField_318 : decode cX12_placeField 318 = .ok (.aload_n 0, 1) := by decide +kernel
theorem dX12_placeField_319 : decode cX12_placeField 319 = .ok (.getfield 9, 3) := by decide +kernel
theorem dX12_placeField_322 : decode cX12_placeField 322 = .ok (.bipush 7, 2) := by decide +kernel
theorem dX12_placeField_324 : decode cX12_placeField 324 = .ok (.iaload, 1) := by decide +kernel
theorem dX12_placeField_325 : decode cX12_placeField 325 = .ok (.i2l, 1) := by decide +kernel
theorem dX12_placeField_326 : decode cX12_placeField 326 = .ok (.lmul, 1) := by decide +kernel
theorem dX12_placeField_327 : decode cX12_placeField 327 = .ok (.ldc2_w 204, 3) := by decide +kernel
theorem dX12_placeField_330 : decode cX12_placeField 330 = .ok (.aload_n 0, 1) := by decide +kernel
theorem dX12_placeField_331 : decode cX12_placeField 331 = .ok (.invokevirtual 172, 3) := by decide +kernel
theorem dX12_placeField_334 : decode cX12_placeField 334 = .ok (.i2l, 1) := by decide +kernel
theorem dX12_placeField_335 : decode cX12_placeField 335 = .ok (.lmul, 1) := by decide +kernel
theorem dX12_placeField_336 : decode cX12_placeField 336 = .ok (.lcmp, 1) := by decide +kernel
theorem dX12_placeField_337 : decode cX12_placeField 337 = .ok (.ifCond .gt 23, 3) := by decide +kernel
theorem dX12_placeField_340 : decode cX12_placeField 340 = .ok (.aload_n 0, 1) := by decide +kernel
theorem dX12_placeField_341 : decode cX12_placeField 341 = .ok (.getfield 9, 3) := by decide +kernel
theorem dX12_placeField_344 : decode cX12_placeField 344 = .ok (.iconst 3, 1) := by decide +kernel
theorem dX12_placeField_345 : decode cX12_placeField 345 = .ok (.aload_n 0, 1) := by decide +kernel
theorem dX12_placeField_346 : decode cX12_placeField 346 = .ok (.getfield 379, 3) := by decide +kernel
theorem dX12_placeField_349 : decode cX12_placeField 349 = .ok (.iconst 1, 1) := by decide +kernel
theorem dX12_placeField_350 : decode cX12_placeField 350 = .ok (.iadd, 1) := by decide +kernel
theorem dX12_placeField_351 : decode cX12_placeField 351 = .ok (.aload_n 0, 1) := by decide +kernel
theorem dX12_placeField_352 : decode cX12_placeField 352 = .ok (.getfield 9, 3) := by decide +kernel
theorem dX12_placeField_355 : decode cX12_placeField 355 = .ok (.bipush 7, 2) := by decide +kernel
theorem dX12_placeField_357 : decode cX12_placeField 357 = .ok (.iaload, 1) := by decide +kernel
theorem dX12_placeField_358 : decode cX12_placeField 358 = .ok (.imul, 1) := by decide +kernel
theorem dX12_placeField_359 : decode cX12_placeField 359 = .ok (.iastore, 1) := by decide +kernel
theorem dX12_placeField_360 : decode cX12_placeField 360 = .ok (.return_, 1) := by decide +kernel
noncomputable def f_X12_placeField_271 (a1 : Int32) (T : Mm) : Option (Unit × Mm) :=
  if a1 = 77 then (if (gI T 1251 133) < 0 then (some ((), T))
  else (if (lg_cmp (((((gI T 1251 133)).toInt64) + 1) * (((gA T 134 7)).toInt64)) (((gA T 134 2)).toInt64)) ≤ 0 then (some ((), T))
  else (bd (f_X12_wide T) fun v1 T2 =>
  if 0 < (lg_cmp (((((gI T 1251 133)).toInt64) + 1) * (((gA T 134 7)).toInt64)) ((96 : Int64) * ((v1).toInt64))) then (some ((), T2))
  else (lb (uA T2 134 3 ((((gI T2 1251 133) + 1) * (gA T2 134 7)))) fun T3 =>
  some ((), T3)))))
  else (some ((), T))
set_option maxRecDepth 100000 in
set_option maxHeartbeats 4000000 in
theorem s_X12_placeField_271 {x : JX} {ad : Nat → Nat} {U : Mm} {S0 : Hp} {q : Unit × Mm}  (hn9 : x_n x = 2) (C : CB x RX12 cX12_placeField) (M : CMr x 4 none S0 ad false U eV q) (a1 : Int32) (T : Mm) (h : f_X12_placeField_271  a1 T = some q) : Jr x ad false U T [(0, .ref (ad 133)), (1, .int a1)] 271 [] := by
  unfold f_X12_placeField_271 at h
  refine r_iload_n C dX12_placeField_271 rfl 1 rfl ?_
  refine r_bipush (v := 77) C dX12_placeField_272 (by decide) ?_
  refine r_ic_ne (tgt := 360) C dX12_placeField_274 (by decide) h (fun h => ?_) (fun h => ?_)
  · exact r_vret C M dX12_placeField_360 h
  · refine r_aload_n C dX12_placeField_277 rfl 0 rfl ?_
    refine r_geti (f := 1251) C flX12_379 dX12_placeField_278 kq_133 (by decide) (by decide) rfl ?_
    refine r_if_lt (tgt := 360) C dX12_placeField_281 (by decide) h (fun h => ?_) (fun h => ?_)
    · exact r_vret C M dX12_placeField_360 h
    · refine r_aload_n C dX12_placeField_284 rfl 0 rfl ?_
      refine r_geti (f := 1251) C flX12_379 dX12_placeField_285 kq_133 (by decide) (by decide) rfl ?_
      refine r_i2l C dX12_placeField_288 rfl ?_
      refine r_lconst (v := 1) C dX12_placeField_289 (by decide) ?_
      refine r_ladd C dX12_placeField_290 rfl ?_
      show Jr _ _ _ _ _ _ 291 _
      refine r_aload_n C dX12_placeField_291 rfl 0 rfl ?_
      refine r_getp (f := 1200) (j := 134) C flX12_9 dX12_placeField_292 kq_133 (by decide) rfl (fun W => pt_1200 kq_133 W) ?_
      refine r_bipush (v := 7) C dX12_placeField_295 (by decide) ?_
      refine r_ialdc (n := 192) C 7 dX12_placeField_297 kq_134 lq_134 (vp_lit (by decide)) (by decide) ?_
      refine r_i2l C dX12_placeField_298 rfl ?_
      refine r_lmul C dX12_placeField_299 rfl ?_
      show Jr _ _ _ _ _ _ 300 _
      refine r_aload_n C dX12_placeField_300 rfl 0 rfl ?_
      refine r_getp (f := 1200) (j := 134) C flX12_9 dX12_placeField_301 kq_133 (by decide) rfl (fun W => pt_1200 kq_133 W) ?_
      refine r_iconst (v := 2) C dX12_placeField_304 (by decide) ?_
      refine r_ialdc (n := 192) C 2 dX12_placeField_305 kq_134 lq_134 (vp_lit (by decide)) (by decide) ?_
      refine r_i2l C dX12_placeField_306 rfl ?_
      refine r_lcmp C dX12_placeField_307 ?_
      show Jr _ _ _ _ _ _ 308 _
      refine r_if_le (tgt := 360) C dX12_placeField_308 (by decide) h (fun h => ?_) (fun h => ?_)
      · exact r_vret C M dX12_placeField_360 h
      · refine r_aload_n C dX12_placeField_311 rfl 0 rfl ?_
        refine r_geti (f := 1251) C flX12_379 dX12_placeField_312 kq_133 (by decide) (by decide) rfl ?_
        refine r_i2l C dX12_placeField_315 rfl ?_
        refine r_lconst (v := 1) C dX12_placeField_316 (by decide) ?_
        refine r_ladd C dX12_placeField_317 rfl ?_
        show Jr _ _ _ _ _ _ 318 _
        refine r_aload_n C dX12_placeField_318 rfl 0 rfl ?_
        refine r_getp (f := 1200) (j := 134) C flX12_9 dX12_placeField_319 kq_133 (by decide) rfl (fun W => pt_1200 kq_133 W) ?_
        refine r_bipush (v := 7) C dX12_placeField_322 (by decide) ?_
        refine r_ialdc (n := 192) C 7 dX12_placeField_324 kq_134 lq_134 (vp_lit (by decide)) (by decide) ?_
        refine r_i2l C dX12_placeField_325 rfl ?_
        refine r_lmul C dX12_placeField_326 rfl ?_
        show Jr _ _ _ _ _ _ 327 _
        refine r_ldc2 (v := 96) C dX12_placeField_327 kcX12_204 ?_
        refine r_aload_n C dX12_placeField_330 rfl 0 rfl ?_
        refine r_callVI C M h [] [.long 96, .long (((((gI T 1251 133)).toInt64) + 1) * (((gA T 134 7)).toInt64))] mlX12_172 mcX12_wide (fun q9 e9 => s_X12_wide   e9) kq_133 rfl (by decide) (by decide) rfl rfl (Nat.le_of_ble_eq_true rfl) dX12_placeField_331 (fun v1 T2 h => ?_)
        refine r_i2l C dX12_placeField_334 rfl ?_
        refine r_lmul C dX12_placeField_335 rfl ?_
        refine r_lcmp C dX12_placeField_336 ?_
        show Jr _ _ _ _ _ _ 337 _
        refine r_if_gt (tgt := 360) C dX12_placeField_337 (by decide) h (fun h => ?_) (fun h => ?_)
        · exact r_vret C M dX12_placeField_360 h
        · refine r_aload_n C dX12_placeField_340 rfl 0 rfl ?_
          refine r_getp (f := 1200) (j := 134) C flX12_9 dX12_placeField_341 kq_133 (by decide) rfl (fun W => pt_1200 kq_133 W) ?_
          refine r_iconst (v := 3) C dX12_placeField_344 (by decide) ?_
          refine r_aload_n C dX12_placeField_345 rfl 0 rfl ?_
          refine r_geti (f := 1251) C flX12_379 dX12_placeField_346 kq_133 (by decide) (by decide) rfl ?_
          show Jr _ _ _ _ _ _ 349 _
          refine r_iconst (v := 1) C dX12_placeField_349 (by decide) ?_
          refine r_iadd C dX12_placeField_350 rfl ?_
          refine r_aload_n C dX12_placeField_351 rfl 0 rfl ?_
          refine r_getp (f := 1200) (j := 134) C flX12_9 dX12_placeField_352 kq_133 (by decide) rfl (fun W => pt_1200 kq_133 W) ?_
          refine r_bipush (v := 7) C dX12_placeField_355 (by decide) ?_
          refine r_ialdc (n := 192) C 7 dX12_placeField_357 kq_134 lq_134 (vp_lit (by decide)) (by decide) ?_
          show Jr _ _ _ _ _ _ 358 _
          refine r_imul C dX12_placeField_358 rfl ?_
          refine r_iastc (n := 192) C 3 dX12_placeField_359 kq_134 lq_134 (vp_lit (by decide)) (by decide) h (fun T3 h => ?_)
          exact r_vret C M dX12_placeField_360 h
noncomputable def f_X12_placeField (p1 : Int32) (T : Mm) : Option (Unit × Mm) :=
  if p1 = 67 then (bd (f_X12_units (((gA T 134 7)).toInt64) T) fun v15 T16 =>
  if (gI T16 1254 133) = 0 then (bd (f_X12_setX (v15 + 0) T16) fun _ T17 =>
  some ((), T17))
  else (bd (f_X12_setX (v15 + (((gA T16 134 189)).toInt64)) T16) fun _ T18 =>
  some ((), T18)))
  else (if p1 = 82 then (bd (f_X12_units (((gA T 134 6)).toInt64) T) fun v11 T12 =>
  if (gI T12 1254 133) = 0 then (bd (f_X12_setY (v11 + (((gA T12 134 4)).toInt64)) T12) fun _ T13 =>
  some ((), T13))
  else (bd (f_X12_setY (v11 + (((gA T12 134 190)).toInt64)) T12) fun _ T14 =>
  some ((), T14)))
  else (if p1 = 72 then (bd (f_X12_units 10 T) fun v7 T8 =>
  if (gI T8 1254 133) = 0 then (bd (f_X12_setX (v7 + 0) T8) fun _ T9 =>
  some ((), T9))
  else (bd (f_X12_setX (v7 + (((gA T8 134 189)).toInt64)) T8) fun _ T10 =>
  some ((), T10)))
  else (if p1 = 86 then (bd (f_X12_units 10 T) fun v3 T4 =>
  if (gI T4 1254 133) = 0 then (bd (f_X12_setY (v3 + (((gA T4 134 4)).toInt64)) T4) fun _ T5 =>
  some ((), T5))
  else (bd (f_X12_setY (v3 + (((gA T4 134 190)).toInt64)) T4) fun _ T6 =>
  some ((), T6)))
  else (if p1 = 76 then (if (gI T 1251 133) < 0 then (f_X12_placeField_271 p1 T)
  else (if 0 ≤ (lg_cmp ((((gI T 1251 133)).toInt64) * (((gA T 134 7)).toInt64)) (((gA T 134 3)).toInt64)) then (f_X12_placeField_271 p1 T)
  else (lb (uA T 134 2 (((gI T 1251 133) * (gA T 134 7)))) fun T1 =>
  if (gA T1 134 2) ≤ (gA T1 134 189) then (some ((), T1))
  else (bd (f_X12_setX (((gA T1 134 2)).toInt64) T1) fun _ T2 =>
  some ((), T2)))))
  else (f_X12_placeField_271 p1 T)))))
set_option maxRecDepth 100000 in
set_option maxHeartbeats 4000000 in
theorem s_X12_placeField {ad : Nat → Nat} {U T : Mm} {q : Unit × Mm}  (p1 : Int32) (h : f_X12_placeField p1 T = some q) : Cr 4 yX12_placeField cX12_placeField 2 none [.ref (ad 133), .int p1] ad false U T eV q := by
  refine cr_of (by decide) (Nat.le_of_ble_eq_true rfl) fun x S0 hn9 C M => ?_
  have C : CB x RX12 cX12_placeField := C
  refine Jr.eq (lv' := [(0, .ref (ad 133)), (1, .int p1)]) (st' := []) rfl rfl ?_
  unfold f_X12_placeField at h
  refine r_iload_n C dX12_placeField_0 rfl 1 rfl ?_
  refine r_bipush (v := 67) C dX12_placeField_1 (by decide) ?_
  refine r_ic_ne (tgt := 46) C dX12_placeField_3 (by decide) h (fun h => ?_) (fun h => ?_)
  · refine r_iload_n C dX12_placeField_46 rfl 1 rfl ?_
    refine r_bipush (v := 82) C dX12_placeField_47 (by decide) ?_
    refine r_ic_ne (tgt := 97) C dX12_placeField_49 (by decide) h (fun h => ?_) (fun h => ?_)
    · refine r_iload_n C dX12_placeField_97 rfl 1 rfl ?_
      refine r_bipush (v := 72) C dX12_placeField_98 (by decide) ?_
      refine r_ic_ne (tgt := 138) C dX12_placeField_100 (by decide) h (fun h => ?_) (fun h => ?_)
      · refine r_iload_n C dX12_placeField_138 rfl 1 rfl ?_
        refine r_bipush (v := 86) C dX12_placeField_139 (by decide) ?_
        refine r_ic_ne (tgt := 184) C dX12_placeField_141 (by decide) h (fun h => ?_) (fun h => ?_)
        · refine r_iload_n C dX12_placeField_184 rfl 1 rfl ?_
          refine r_bipush (v := 76) C dX12_placeField_185 (by decide) ?_
          refine r_ic_ne (tgt := 271) C dX12_placeField_187 (by decide) h (fun h => ?_) (fun h => ?_)
          · exact s_X12_placeField_271 hn9 C M  p1 T h
          · refine r_aload_n C dX12_placeField_190 rfl 0 rfl ?_
            refine r_geti (f := 1251) C flX12_379 dX12_placeField_191 kq_133 (by decide) (by decide) rfl ?_
            refine r_if_lt (tgt := 271) C dX12_placeField_194 (by decide) h (fun h => ?_) (fun h => ?_)
            · exact s_X12_placeField_271 hn9 C M  p1 T h
            · refine r_aload_n C dX12_placeField_197 rfl 0 rfl ?_
              refine r_geti (f := 1251) C flX12_379 dX12_placeField_198 kq_133 (by decide) (by decide) rfl ?_
              refine r_i2l C dX12_placeField_201 rfl ?_
              refine r_aload_n C dX12_placeField_202 rfl 0 rfl ?_
              refine r_getp (f := 1200) (j := 134) C flX12_9 dX12_placeField_203 kq_133 (by decide) rfl (fun W => pt_1200 kq_133 W) ?_
              show Jr _ _ _ _ _ _ 206 _
              refine r_bipush (v := 7) C dX12_placeField_206 (by decide) ?_
              refine r_ialdc (n := 192) C 7 dX12_placeField_208 kq_134 lq_134 (vp_lit (by decide)) (by decide) ?_
              refine r_i2l C dX12_placeField_209 rfl ?_
              refine r_lmul C dX12_placeField_210 rfl ?_
              refine r_aload_n C dX12_placeField_211 rfl 0 rfl ?_
              refine r_getp (f := 1200) (j := 134) C flX12_9 dX12_placeField_212 kq_133 (by decide) rfl (fun W => pt_1200 kq_133 W) ?_
              show Jr _ _ _ _ _ _ 215 _
              refine r_iconst (v := 3) C dX12_placeField_215 (by decide) ?_
              refine r_ialdc (n := 192) C 3 dX12_placeField_216 kq_134 lq_134 (vp_lit (by decide)) (by decide) ?_
              refine r_i2l C dX12_placeField_217 rfl ?_
              refine r_lcmp C dX12_placeField_218 ?_
              refine r_if_ge (tgt := 271) C dX12_placeField_219 (by decide) h (fun h => ?_) (fun h => ?_)
              · exact s_X12_placeField_271 hn9 C M  p1 T h
              · refine r_aload_n C dX12_placeField_222 rfl 0 rfl ?_
                refine r_getp (f := 1200) (j := 134) C flX12_9 dX12_placeField_223 kq_133 (by decide) rfl (fun W => pt_1200 kq_133 W) ?_
                refine r_iconst (v := 2) C dX12_placeField_226 (by decide) ?_
                refine r_aload_n C dX12_placeField_227 rfl 0 rfl ?_
                refine r_geti (f := 1251) C flX12_379 dX12_placeField_228 kq_133 (by decide) (by decide) rfl ?_
                show Jr _ _ _ _ _ _ 231 _
                refine r_aload_n C dX12_placeField_231 rfl 0 rfl ?_
                refine r_getp (f := 1200) (j := 134) C flX12_9 dX12_placeField_232 kq_133 (by decide) rfl (fun W => pt_1200 kq_133 W) ?_
                refine r_bipush (v := 7) C dX12_placeField_235 (by decide) ?_
                refine r_ialdc (n := 192) C 7 dX12_placeField_237 kq_134 lq_134 (vp_lit (by decide)) (by decide) ?_
                refine r_imul C dX12_placeField_238 rfl ?_
                refine r_iastc (n := 192) C 2 dX12_placeField_239 kq_134 lq_134 (vp_lit (by decide)) (by decide) h (fun T1 h => ?_)
                show Jr _ _ _ _ _ _ 240 _
                refine r_aload_n C dX12_placeField_240 rfl 0 rfl ?_
                refine r_getp (f := 1200) (j := 134) C flX12_9 dX12_placeField_241 kq_133 (by decide) rfl (fun W => pt_1200 kq_133 W) ?_
                refine r_sipush (v := 189) C dX12_placeField_244 (by decide) ?_
                refine r_ialdc (n := 192) C 189 dX12_placeField_247 kq_134 lq_134 (vp_lit (by decide)) (by decide) ?_
                refine r_aload_n C dX12_placeField_248 rfl 0 rfl ?_
                refine r_getp (f := 1200) (j := 134) C flX12_9 dX12_placeField_249 kq_133 (by decide) rfl (fun W => pt_1200 kq_133 W) ?_
                show Jr _ _ _ _ _ _ 252 _
                refine r_iconst (v := 2) C dX12_placeField_252 (by decide) ?_
                refine r_ialdc (n := 192) C 2 dX12_placeField_253 kq_134 lq_134 (vp_lit (by decide)) (by decide) ?_
                refine r_ic_ge (tgt := 360) C dX12_placeField_254 (by decide) h (fun h => ?_) (fun h => ?_)
                · exact r_vret C M dX12_placeField_360 h
                · refine r_aload_n C dX12_placeField_257 rfl 0 rfl ?_
                  refine r_aload_n C dX12_placeField_258 rfl 0 rfl ?_
                  refine r_getp (f := 1200) (j := 134) C flX12_9 dX12_placeField_259 kq_133 (by decide) rfl (fun W => pt_1200 kq_133 W) ?_
                  refine r_iconst (v := 2) C dX12_placeField_262 (by decide) ?_
                  refine r_ialdc (n := 192) C 2 dX12_placeField_263 kq_134 lq_134 (vp_lit (by decide)) (by decide) ?_
                  show Jr _ _ _ _ _ _ 264 _
                  refine r_i2l C dX12_placeField_264 rfl ?_
                  refine r_callVN C M h [.long (((gA T1 134 2)).toInt64)] [] mlX12_210 mcX12_setX (fun q9 e9 => s_X12_setX (((gA T1 134 2)).toInt64)  e9) kq_133 rfl (by decide) (by decide) rfl rfl (Nat.le_of_ble_eq_true rfl) dX12_placeField_265 (fun _ T2 h => ?_)
                  refine r_goto (tgt := 360) C dX12_placeField_268 (by decide) ?_
                  exact r_vret C M dX12_placeField_360 h
        · refine r_aload_n C dX12_placeField_144 rfl 0 rfl ?_
          refine r_aload_n C dX12_placeField_145 rfl 0 rfl ?_
          refine r_ldc2 (v := 10) C dX12_placeField_146 kcX12_433 ?_
          refine r_callVJ C M h [.long 10] [.ref (ad 133)] mlX12_404 mcX12_units (fun q9 e9 => s_X12_units 10  e9) kq_133 rfl (by decide) (by decide) rfl rfl (Nat.le_of_ble_eq_true rfl) dX12_placeField_149 (fun v3 T4 h => ?_)
          refine r_aload_n C dX12_placeField_152 rfl 0 rfl ?_
          show Jr _ _ _ _ _ _ 153 _
          refine r_geti (f := 1254) C flX12_376 dX12_placeField_153 kq_133 (by decide) (by decide) rfl ?_
          refine r_if_eq (tgt := 170) C dX12_placeField_156 (by decide) h (fun h => ?_) (fun h => ?_)
          · refine r_aload_n C dX12_placeField_170 rfl 0 rfl ?_
            refine r_getp (f := 1200) (j := 134) C flX12_9 dX12_placeField_171 kq_133 (by decide) rfl (fun W => pt_1200 kq_133 W) ?_
            refine r_iconst (v := 4) C dX12_placeField_174 (by decide) ?_
            refine r_ialdc (n := 192) C 4 dX12_placeField_175 kq_134 lq_134 (vp_lit (by decide)) (by decide) ?_
            refine r_i2l C dX12_placeField_176 rfl ?_
            show Jr _ _ _ _ _ _ 177 _
            refine r_ladd C dX12_placeField_177 rfl ?_
            refine r_callVN C M h [.long (v3 + (((gA T4 134 4)).toInt64))] [] mlX12_206 mcX12_setY (fun q9 e9 => s_X12_setY (v3 + (((gA T4 134 4)).toInt64))  e9) kq_133 rfl (by decide) (by decide) rfl rfl (Nat.le_of_ble_eq_true rfl) dX12_placeField_178 (fun _ T5 h => ?_)
            refine r_goto (tgt := 360) C dX12_placeField_181 (by decide) ?_
            exact r_vret C M dX12_placeField_360 h
          · refine r_aload_n C dX12_placeField_159 rfl 0 rfl ?_
            refine r_getp (f := 1200) (j := 134) C flX12_9 dX12_placeField_160 kq_133 (by decide) rfl (fun W => pt_1200 kq_133 W) ?_
            refine r_sipush (v := 190) C dX12_placeField_163 (by decide) ?_
            refine r_ialdc (n := 192) C 190 dX12_placeField_166 kq_134 lq_134 (vp_lit (by decide)) (by decide) ?_
            refine r_goto (tgt := 176) C dX12_placeField_167 (by decide) ?_
            show Jr _ _ _ _ _ _ 176 _
            refine r_i2l C dX12_placeField_176 rfl ?_
            refine r_ladd C dX12_placeField_177 rfl ?_
            refine r_callVN C M h [.long (v3 + (((gA T4 134 190)).toInt64))] [] mlX12_206 mcX12_setY (fun q9 e9 => s_X12_setY (v3 + (((gA T4 134 190)).toInt64))  e9) kq_133 rfl (by decide) (by decide) rfl rfl (Nat.le_of_ble_eq_true rfl) dX12_placeField_178 (fun _ T6 h => ?_)
            refine r_goto (tgt := 360) C dX12_placeField_181 (by decide) ?_
            exact r_vret C M dX12_placeField_360 h
      · refine r_aload_n C dX12_placeField_103 rfl 0 rfl ?_
        refine r_aload_n C dX12_placeField_104 rfl 0 rfl ?_
        refine r_ldc2 (v := 10) C dX12_placeField_105 kcX12_433 ?_
        refine r_callVJ C M h [.long 10] [.ref (ad 133)] mlX12_404 mcX12_units (fun q9 e9 => s_X12_units 10  e9) kq_133 rfl (by decide) (by decide) rfl rfl (Nat.le_of_ble_eq_true rfl) dX12_placeField_108 (fun v7 T8 h => ?_)
        refine r_aload_n C dX12_placeField_111 rfl 0 rfl ?_
        show Jr _ _ _ _ _ _ 112 _
        refine r_geti (f := 1254) C flX12_376 dX12_placeField_112 kq_133 (by decide) (by decide) rfl ?_
        refine r_if_eq (tgt := 129) C dX12_placeField_115 (by decide) h (fun h => ?_) (fun h => ?_)
        · refine r_iconst (v := 0) C dX12_placeField_129 (by decide) ?_
          refine r_i2l (v := 0) C dX12_placeField_130 (by decide) ?_
          refine r_ladd C dX12_placeField_131 rfl ?_
          refine r_callVN C M h [.long (v7 + 0)] [] mlX12_210 mcX12_setX (fun q9 e9 => s_X12_setX (v7 + 0)  e9) kq_133 rfl (by decide) (by decide) rfl rfl (Nat.le_of_ble_eq_true rfl) dX12_placeField_132 (fun _ T9 h => ?_)
          refine r_goto (tgt := 360) C dX12_placeField_135 (by decide) ?_
          show Jr _ _ _ _ _ _ 360 _
          exact r_vret C M dX12_placeField_360 h
        · refine r_aload_n C dX12_placeField_118 rfl 0 rfl ?_
          refine r_getp (f := 1200) (j := 134) C flX12_9 dX12_placeField_119 kq_133 (by decide) rfl (fun W => pt_1200 kq_133 W) ?_
          refine r_sipush (v := 189) C dX12_placeField_122 (by decide) ?_
          refine r_ialdc (n := 192) C 189 dX12_placeField_125 kq_134 lq_134 (vp_lit (by decide)) (by decide) ?_
          refine r_goto (tgt := 130) C dX12_placeField_126 (by decide) ?_
          show Jr _ _ _ _ _ _ 130 _
          refine r_i2l C dX12_placeField_130 rfl ?_
          refine r_ladd C dX12_placeField_131 rfl ?_
          refine r_callVN C M h [.long (v7 + (((gA T8 134 189)).toInt64))] [] mlX12_210 mcX12_setX (fun q9 e9 => s_X12_setX (v7 + (((gA T8 134 189)).toInt64))  e9) kq_133 rfl (by decide) (by decide) rfl rfl (Nat.le_of_ble_eq_true rfl) dX12_placeField_132 (fun _ T10 h => ?_)
          refine r_goto (tgt := 360) C dX12_placeField_135 (by decide) ?_
          exact r_vret C M dX12_placeField_360 h
    · refine r_aload_n C dX12_placeField_52 rfl 0 rfl ?_
      refine r_aload_n C dX12_placeField_53 rfl 0 rfl ?_
      refine r_aload_n C dX12_placeField_54 rfl 0 rfl ?_
      refine r_getp (f := 1200) (j := 134) C flX12_9 dX12_placeField_55 kq_133 (by decide) rfl (fun W => pt_1200 kq_133 W) ?_
      refine r_bipush (v := 6) C dX12_placeField_58 (by decide) ?_
      show Jr _ _ _ _ _ _ 60 _
      refine r_ialdc (n := 192) C 6 dX12_placeField_60 kq_134 lq_134 (vp_lit (by decide)) (by decide) ?_
      refine r_i2l C dX12_placeField_61 rfl ?_
      refine r_callVJ C M h [.long (((gA T 134 6)).toInt64)] [.ref (ad 133)] mlX12_404 mcX12_units (fun q9 e9 => s_X12_units (((gA T 134 6)).toInt64)  e9) kq_133 rfl (by decide) (by decide) rfl rfl (Nat.le_of_ble_eq_true rfl) dX12_placeField_62 (fun v11 T12 h => ?_)
      refine r_aload_n C dX12_placeField_65 rfl 0 rfl ?_
      refine r_geti (f := 1254) C flX12_376 dX12_placeField_66 kq_133 (by decide) (by decide) rfl ?_
      refine r_if_eq (tgt := 83) C dX12_placeField_69 (by decide) h (fun h => ?_) (fun h => ?_)
      · refine r_aload_n C dX12_placeField_83 rfl 0 rfl ?_
        refine r_getp (f := 1200) (j := 134) C flX12_9 dX12_placeField_84 kq_133 (by decide) rfl (fun W => pt_1200 kq_133 W) ?_
        refine r_iconst (v := 4) C dX12_placeField_87 (by decide) ?_
        refine r_ialdc (n := 192) C 4 dX12_placeField_88 kq_134 lq_134 (vp_lit (by decide)) (by decide) ?_
        refine r_i2l C dX12_placeField_89 rfl ?_
        show Jr _ _ _ _ _ _ 90 _
        refine r_ladd C dX12_placeField_90 rfl ?_
        refine r_callVN C M h [.long (v11 + (((gA T12 134 4)).toInt64))] [] mlX12_206 mcX12_setY (fun q9 e9 => s_X12_setY (v11 + (((gA T12 134 4)).toInt64))  e9) kq_133 rfl (by decide) (by decide) rfl rfl (Nat.le_of_ble_eq_true rfl) dX12_placeField_91 (fun _ T13 h => ?_)
        refine r_goto (tgt := 360) C dX12_placeField_94 (by decide) ?_
        exact r_vret C M dX12_placeField_360 h
      · refine r_aload_n C dX12_placeField_72 rfl 0 rfl ?_
        refine r_getp (f := 1200) (j := 134) C flX12_9 dX12_placeField_73 kq_133 (by decide) rfl (fun W => pt_1200 kq_133 W) ?_
        refine r_sipush (v := 190) C dX12_placeField_76 (by decide) ?_
        refine r_ialdc (n := 192) C 190 dX12_placeField_79 kq_134 lq_134 (vp_lit (by decide)) (by decide) ?_
        refine r_goto (tgt := 89) C dX12_placeField_80 (by decide) ?_
        show Jr _ _ _ _ _ _ 89 _
        refine r_i2l C dX12_placeField_89 rfl ?_
        refine r_ladd C dX12_placeField_90 rfl ?_
        refine r_callVN C M h [.long (v11 + (((gA T12 134 190)).toInt64))] [] mlX12_206 mcX12_setY (fun q9 e9 => s_X12_setY (v11 + (((gA T12 134 190)).toInt64))  e9) kq_133 rfl (by decide) (by decide) rfl rfl (Nat.le_of_ble_eq_true rfl) dX12_placeField_91 (fun _ T14 h => ?_)
        refine r_goto (tgt := 360) C dX12_placeField_94 (by decide) ?_
        exact r_vret C M dX12_placeField_360 h
  · refine r_aload_n C dX12_placeField_6 rfl 0 rfl ?_
    refine r_aload_n C dX12_placeField_7 rfl 0 rfl ?_
    refine r_aload_n C dX12_placeField_8 rfl 0 rfl ?_
    refine r_getp (f := 1200) (j := 134) C flX12_9 dX12_placeField_9 kq_133 (by decide) rfl (fun W => pt_1200 kq_133 W) ?_
    refine r_bipush (v := 7) C dX12_placeField_12 (by decide) ?_
    show Jr _ _ _ _ _ _ 14 _
    refine r_ialdc (n := 192) C 7 dX12_placeField_14 kq_134 lq_134 (vp_lit (by decide)) (by decide) ?_
    refine r_i2l C dX12_placeField_15 rfl ?_
    refine r_callVJ C M h [.long (((gA T 134 7)).toInt64)] [.ref (ad 133)] mlX12_404 mcX12_units (fun q9 e9 => s_X12_units (((gA T 134 7)).toInt64)  e9) kq_133 rfl (by decide) (by decide) rfl rfl (Nat.le_of_ble_eq_true rfl) dX12_placeField_16 (fun v15 T16 h => ?_)
    refine r_aload_n C dX12_placeField_19 rfl 0 rfl ?_
    refine r_geti (f := 1254) C flX12_376 dX12_placeField_20 kq_133 (by decide) (by decide) rfl ?_
    refine r_if_eq (tgt := 37) C dX12_placeField_23 (by decide) h (fun h => ?_) (fun h => ?_)
    · refine r_iconst (v := 0) C dX12_placeField_37 (by decide) ?_
      refine r_i2l (v := 0) C dX12_placeField_38 (by decide) ?_
      refine r_ladd C dX12_placeField_39 rfl ?_
      refine r_callVN C M h [.long (v15 + 0)] [] mlX12_210 mcX12_setX (fun q9 e9 => s_X12_setX (v15 + 0)  e9) kq_133 rfl (by decide) (by decide) rfl rfl (Nat.le_of_ble_eq_true rfl) dX12_placeField_40 (fun _ T17 h => ?_)
      refine r_goto (tgt := 360) C dX12_placeField_43 (by decide) ?_
      show Jr _ _ _ _ _ _ 360 _
      exact r_vret C M dX12_placeField_360 h
    · refine r_aload_n C dX12_placeField_26 rfl 0 rfl ?_
      refine r_getp (f := 1200) (j := 134) C flX12_9 dX12_placeField_27 kq_133 (by decide) rfl (fun W => pt_1200 kq_133 W) ?_
      refine r_sipush (v := 189) C dX12_placeField_30 (by decide) ?_
      refine r_ialdc (n := 192) C 189 dX12_placeField_33 kq_134 lq_134 (vp_lit (by decide)) (by decide) ?_
      refine r_goto (tgt := 38) C dX12_placeField_34 (by decide) ?_
      show Jr _ _ _ _ _ _ 38 _
      refine r_i2l C dX12_placeField_38 rfl ?_
      refine r_ladd C dX12_placeField_39 rfl ?_
      refine r_callVN C M h [.long (v15 + (((gA T16 134 189)).toInt64))] [] mlX12_210 mcX12_setX (fun q9 e9 => s_X12_setX (v15 + (((gA T16 134 189)).toInt64))  e9) kq_133 rfl (by decide) (by decide) rfl rfl (Nat.le_of_ble_eq_true rfl) dX12_placeField_40 (fun _ T18 h => ?_)
      refine r_goto (tgt := 360) C dX12_placeField_43 (by decide) ?_
      exact r_vret C M dX12_placeField_360 h
theorem dX12_endsMacro_0 : decode cX12_endsMacro 0 = .ok (.iload_n 1, 1) := by decide +kernel
theorem dX12_endsMacro_1 : decode cX12_endsMacro 1 = .ok (.iconst 5, 1) := by decide +kernel
theorem dX12_endsMacro_2 : decode cX12_endsMacro 2 = .ok (.iadd, 1) := by decide +kernel
theorem dX12_endsMacro_3 : decode cX12_endsMacro 3 = .ok (.aload_n 0, 1) := by decide +kernel
theorem dX12_endsMacro_4 : decode cX12_endsMacro 4 = .ok (.getfield 266, 3) := by decide +kernel
theorem dX12_endsMacro_7 : decode cX12_endsMacro 7 = .ok (.if_icmp .gt 70, 3) := by decide +kernel
theorem dX12_endsMacro_10 : decode cX12_endsMacro 10 = .ok (.aload_n 0, 1) := by decide +kernel
theorem dX12_endsMacro_11 : decode cX12_endsMacro 11 = .ok (.getfield 272, 3) := by decide +kernel
theorem dX12_endsMacro_14 : decode cX12_endsMacro 14 = .ok (.iload_n 1, 1) := by decide +kernel
theorem dX12_endsMacro_15 : decode cX12_endsMacro 15 = .ok (.baload, 1) := by decide +kernel
theorem dX12_endsMacro_16 : decode cX12_endsMacro 16 = .ok (.bipush 27, 2) := by decide +kernel
theorem dX12_endsMacro_18 : decode cX12_endsMacro 18 = .ok (.if_icmp .ne 59, 3) := by decide +kernel
theorem dX12_endsMacro_21 : decode cX12_endsMacro 21 = .ok (.aload_n 0, 1) := by decide +kernel
theorem dX12_endsMacro_22 : decode cX12_endsMacro 22 = .ok (.getfield 272, 3) := by decide +kernel
theorem dX12_endsMacro_25 : decode cX12_endsMacro 25 = .ok (.iload_n 1, 1) := by decide +kernel
theorem dX12_endsMacro_26 : decode cX12_endsMacro 26 = .ok (.iconst 1, 1) := by decide +kernel
theorem dX12_endsMacro_27 : decode cX12_endsMacro 27 = .ok (.iadd, 1) := by decide +kernel
theorem dX12_endsMacro_28 : decode cX12_endsMacro 28 = .ok (.baload, 1) := by decide +kernel
theorem dX12_endsMacro_29 : decode cX12_endsMacro 29 = .ok (.bipush 38, 2) := by decide +kernel
theorem dX12_endsMacro_31 : decode cX12_endsMacro 31 = .ok (.if_icmp .ne 46, 3) := by decide +kernel
theorem dX12_endsMacro_34 : decode cX12_endsMacro 34 = .ok (.aload_n 0, 1) := by decide +kernel
theorem dX12_endsMacro_35 : decode cX12_endsMacro 35 = .ok (.getfield 272, 3) := by decide +kernel
theorem dX12_endsMacro_38 : decode cX12_endsMacro 38 = .ok (.iload_n 1, 1) := by decide +kernel
theorem dX12_endsMacro_39 : decode cX12_endsMacro 39 = .ok (.iconst 2, 1) := by decide +kernel
theorem dX12_endsMacro_40 : decode cX12_endsMacro 40 = .ok (.iadd, 1) := by decide +kernel
theorem dX12_endsMacro_41 : decode cX12_endsMacro 41 = .ok (.baload, 1) := by decide +kernel
theorem dX12_endsMacro_42 : decode cX12_endsMacro 42 = .ok (.bipush 102, 2) := by decide +kernel
theorem dX12_endsMacro_44 : decode cX12_endsMacro 44 = .ok (.if_icmp .ne 33, 3) := by decide +kernel
theorem dX12_endsMacro_47 : decode cX12_endsMacro 47 = .ok (.aload_n 0, 1) := by decide +kernel
theorem dX12_endsMacro_48 : decode cX12_endsMacro 48 = .ok (.getfield 272, 3) := by decide +kernel
theorem dX12_endsMacro_51 : decode cX12_endsMacro 51 = .ok (.iload_n 1, 1) := by decide +kernel
theorem dX12_endsMacro_52 : decode cX12_endsMacro 52 = .ok (.iconst 3, 1) := by decide +kernel
theorem dX12_endsMacro_53 : decode cX12_endsMacro 53 = .ok (.iadd, 1) := by decide +kernel
theorem dX12_endsMacro_54 : decode cX12_endsMacro 54 = .ok (.baload, 1) := by decide +kernel
theorem dX12_endsMacro_55 : decode cX12_endsMacro 55 = .ok (.bipush 49, 2) := by decide +kernel
theorem dX12_endsMacro_57 : decode cX12_endsMacro 57 = .ok (.if_icmp .ne 20, 3) := by decide +kernel
theorem dX12_endsMacro_60 : decode cX12_endsMacro 60 = .ok (.aload_n 0, 1) := by decide +kernel
theorem dX12_endsMacro_61 : decode cX12_endsMacro 61 = .ok (.getfield 272, 3) := by decide +kernel
theorem dX12_endsMacro_64 : decode cX12_endsMacro 64 = .ok (.iload_n 1, 1) := by decide +kernel
theorem dX12_endsMacro_65 : decode cX12_endsMacro 65 = .ok (.iconst 4, 1) := by decide +kernel
theorem dX12_endsMacro_66 : decode cX12_endsMacro 66 = .ok (.iadd, 1) := by decide +kernel
theorem dX12_endsMacro_67 : decode cX12_endsMacro 67 = .ok (.baload, 1) := by decide +kernel
theorem dX12_endsMacro_68 : decode cX12_endsMacro 68 = .ok (.bipush 88, 2) := by decide +kernel
theorem dX12_endsMacro_70 : decode cX12_endsMacro 70 = .ok (.if_icmp .ne 7, 3) := by decide +kernel
theorem dX12_endsMacro_73 : decode cX12_endsMacro 73 = .ok (.iconst 1, 1) := by decide +kernel
theorem dX12_endsMacro_74 : decode cX12_endsMacro 74 = .ok (.goto 4, 3) := by decide +kernel
theorem dX12_endsMacro_77 : decode cX12_endsMacro 77 = .ok (.iconst 0, 1) := by decide +kernel
theorem dX12_endsMacro_78 : decode cX12_endsMacro 78 = .ok (.ireturn, 1) := by decide +kernel
noncomputable def f_X12_endsMacro (p1 : Int32) (T : Mm) : Option (Int32 × Mm) :=
  if (gI T 1228 133) < (p1 + 5) then (some (0, T))
  else (rf false (gR T 1226 133) 13 fun j1 =>
  ix p1 (LN j1) fun j3 =>
  if (gA T j1 j3) = 27 then (rf false (gR T 1226 133) 13 fun j5 =>
  ix (p1 + 1) (LN j5) fun j7 =>
  if (gA T j5 j7) = 38 then (rf false (gR T 1226 133) 13 fun j9 =>
  ix (p1 + 2) (LN j9) fun j11 =>
  if (gA T j9 j11) = 102 then (rf false (gR T 1226 133) 13 fun j13 =>
  ix (p1 + 3) (LN j13) fun j15 =>
  if (gA T j13 j15) = 49 then (rf false (gR T 1226 133) 13 fun j17 =>
  ix (p1 + 4) (LN j17) fun j19 =>
  if (gA T j17 j19) = 88 then (some (1, T))
  else (some (0, T)))
  else (some (0, T)))
  else (some (0, T)))
  else (some (0, T)))
  else (some (0, T)))
set_option maxRecDepth 100000 in
set_option maxHeartbeats 4000000 in
theorem s_X12_endsMacro {ad : Nat → Nat} {U T : Mm} {q : Int32 × Mm}  (p1 : Int32) (h : f_X12_endsMacro p1 T = some q) : Cr 1 yX12_endsMacro cX12_endsMacro 2 (some .boolean) [.ref (ad 133), .int p1] ad false U T eI q := by
  refine cr_of (by decide) (Nat.le_of_ble_eq_true rfl) fun x S0 hn9 C M => ?_
  have C : CB x RX12 cX12_endsMacro := C
  refine Jr.eq (lv' := [(0, .ref (ad 133)), (1, .int p1)]) (st' := []) rfl rfl ?_
  unfold f_X12_endsMacro at h
  refine r_iload_n C dX12_endsMacro_0 rfl 1 rfl ?_
  refine r_iconst (v := 5) C dX12_endsMacro_1 (by decide) ?_
  refine r_iadd C dX12_endsMacro_2 rfl ?_
  refine r_aload_n C dX12_endsMacro_3 rfl 0 rfl ?_
  refine r_geti (f := 1228) C flX12_266 dX12_endsMacro_4 kq_133 (by decide) (by decide) rfl ?_
  show Jr _ _ _ _ _ _ 7 _
  refine r_ic_gt (tgt := 77) C dX12_endsMacro_7 (by decide) h (fun h => ?_) (fun h => ?_)
  · refine r_iconst (v := 0) C dX12_endsMacro_77 (by decide) ?_
    exact r_zret C M dX12_endsMacro_78 (by decide) h
  · refine r_aload_n C dX12_endsMacro_10 rfl 0 rfl ?_
    refine r_getr (f := 1226) (c := 13) C flX12_272 dX12_endsMacro_11 kq_133 (by decide) rfl h (fun j1 hj2 h => ?_)
    refine r_iload_n C dX12_endsMacro_14 rfl 1 rfl ?_
    refine r_bald (n := (LN j1)) C dX12_endsMacro_15 hj2 rfl h (fun j3 hj4 h => ?_)
    refine r_bipush (v := 27) C dX12_endsMacro_16 (by decide) ?_
    show Jr _ _ _ _ _ _ 18 _
    refine r_ic_ne (tgt := 77) C dX12_endsMacro_18 (by decide) h (fun h => ?_) (fun h => ?_)
    · refine r_iconst (v := 0) C dX12_endsMacro_77 (by decide) ?_
      exact r_zret C M dX12_endsMacro_78 (by decide) h
    · refine r_aload_n C dX12_endsMacro_21 rfl 0 rfl ?_
      refine r_getr (f := 1226) (c := 13) C flX12_272 dX12_endsMacro_22 kq_133 (by decide) rfl h (fun j5 hj6 h => ?_)
      refine r_iload_n C dX12_endsMacro_25 rfl 1 rfl ?_
      refine r_iconst (v := 1) C dX12_endsMacro_26 (by decide) ?_
      refine r_iadd C dX12_endsMacro_27 rfl ?_
      show Jr _ _ _ _ _ _ 28 _
      refine r_bald (n := (LN j5)) C dX12_endsMacro_28 hj6 rfl h (fun j7 hj8 h => ?_)
      refine r_bipush (v := 38) C dX12_endsMacro_29 (by decide) ?_
      refine r_ic_ne (tgt := 77) C dX12_endsMacro_31 (by decide) h (fun h => ?_) (fun h => ?_)
      · refine r_iconst (v := 0) C dX12_endsMacro_77 (by decide) ?_
        exact r_zret C M dX12_endsMacro_78 (by decide) h
      · refine r_aload_n C dX12_endsMacro_34 rfl 0 rfl ?_
        refine r_getr (f := 1226) (c := 13) C flX12_272 dX12_endsMacro_35 kq_133 (by decide) rfl h (fun j9 hj10 h => ?_)
        refine r_iload_n C dX12_endsMacro_38 rfl 1 rfl ?_
        refine r_iconst (v := 2) C dX12_endsMacro_39 (by decide) ?_
        refine r_iadd C dX12_endsMacro_40 rfl ?_
        show Jr _ _ _ _ _ _ 41 _
        refine r_bald (n := (LN j9)) C dX12_endsMacro_41 hj10 rfl h (fun j11 hj12 h => ?_)
        refine r_bipush (v := 102) C dX12_endsMacro_42 (by decide) ?_
        refine r_ic_ne (tgt := 77) C dX12_endsMacro_44 (by decide) h (fun h => ?_) (fun h => ?_)
        · refine r_iconst (v := 0) C dX12_endsMacro_77 (by decide) ?_
          exact r_zret C M dX12_endsMacro_78 (by decide) h
        · refine r_aload_n C dX12_endsMacro_47 rfl 0 rfl ?_
          refine r_getr (f := 1226) (c := 13) C flX12_272 dX12_endsMacro_48 kq_133 (by decide) rfl h (fun j13 hj14 h => ?_)
          refine r_iload_n C dX12_endsMacro_51 rfl 1 rfl ?_
          refine r_iconst (v := 3) C dX12_endsMacro_52 (by decide) ?_
          refine r_iadd C dX12_endsMacro_53 rfl ?_
          show Jr _ _ _ _ _ _ 54 _
          refine r_bald (n := (LN j13)) C dX12_endsMacro_54 hj14 rfl h (fun j15 hj16 h => ?_)
          refine r_bipush (v := 49) C dX12_endsMacro_55 (by decide) ?_
          refine r_ic_ne (tgt := 77) C dX12_endsMacro_57 (by decide) h (fun h => ?_) (fun h => ?_)
          · refine r_iconst (v := 0) C dX12_endsMacro_77 (by decide) ?_
            exact r_zret C M dX12_endsMacro_78 (by decide) h
          · refine r_aload_n C dX12_endsMacro_60 rfl 0 rfl ?_
            refine r_getr (f := 1226) (c := 13) C flX12_272 dX12_endsMacro_61 kq_133 (by decide) rfl h (fun j17 hj18 h => ?_)
            refine r_iload_n C dX12_endsMacro_64 rfl 1 rfl ?_
            refine r_iconst (v := 4) C dX12_endsMacro_65 (by decide) ?_
            refine r_iadd C dX12_endsMacro_66 rfl ?_
            show Jr _ _ _ _ _ _ 67 _
            refine r_bald (n := (LN j17)) C dX12_endsMacro_67 hj18 rfl h (fun j19 hj20 h => ?_)
            refine r_bipush (v := 88) C dX12_endsMacro_68 (by decide) ?_
            refine r_ic_ne (tgt := 77) C dX12_endsMacro_70 (by decide) h (fun h => ?_) (fun h => ?_)
            · refine r_iconst (v := 0) C dX12_endsMacro_77 (by decide) ?_
              exact r_zret C M dX12_endsMacro_78 (by decide) h
            · refine r_iconst (v := 1) C dX12_endsMacro_73 (by decide) ?_
              refine r_goto (tgt := 78) C dX12_endsMacro_74 (by decide) ?_
              exact r_zret C M dX12_endsMacro_78 (by decide) h
theorem dX12_define_0 : decode cX12_define 0 = .ok (.aload_n 0, 1) := by decide +kernel
theorem dX12_define_1 : decode cX12_define 1 = .ok (.getfield 263, 3) := by decide +kernel
theorem dX12_define_4 : decode cX12_define 4 = .ok (.istore_n 2, 1) := by decide +kernel
theorem dX12_define_5 : decode cX12_define 5 = .ok (.aload_n 0, 1) := by decide +kernel
theorem dX12_define_6 : decode cX12_define 6 = .ok (.getfield 263, 3) := by decide +kernel
theorem dX12_define_9 : decode cX12_define 9 = .ok (.aload_n 0, 1) := by decide +kernel
theorem dX12_define_10 : decode cX12_define 10 = .ok (.getfield 266, 3) := by decide +kernel
theorem dX12_define_13 : decode cX12_define 13 = .ok (.if_icmp .ge 27, 3) := by decide +kernel
theorem dX12_define_16 : decode cX12_define 16 = .ok (.aload_n 0, 1) := by decide +kernel
theorem dX12_define_17 : decode cX12_define 17 = .ok (.aload_n 0, 1) := by decide +kernel
theorem dX12_define_18 : decode cX12_define 18 = .ok (.getfield 263, 3) := by decide +kernel
theorem dX12_define_21 : decode cX12_define 21 = .ok (.invokevirtual 441, 3) := by decide +kernel
theorem dX12_define_24 : decode cX12_define 24 = .ok (.ifCond .ne 16, 3) := by decide +kernel
theorem dX12_define_27 : decode cX12_define 27 = .ok (.aload_n 0, 1) := by decide +kernel
theorem dX12_define_28 : decode cX12_define 28 = .ok (.dup, 1) := by decide +kernel
theorem dX12_define_29 : decode cX12_define 29 = .ok (.getfield 263, 3) := by decide +kernel
theorem dX12_define_32 : decode cX12_define 32 = .ok (.iconst 1, 1) := by decide +kernel
theorem dX12_define_33 : decode cX12_define 33 = .ok (.iadd, 1) := by decide +kernel
theorem dX12_define_34 : decode cX12_define 34 = .ok (.putfield 263, 3) := by decide +kernel
theorem dX12_define_37 : decode cX12_define 37 = .ok (.goto (-32), 3) := by decide +kernel
theorem dX12_define_40 : decode cX12_define 40 = .ok (.aload_n 0, 1) := by decide +kernel
theorem dX12_define_41 : decode cX12_define 41 = .ok (.getfield 263, 3) := by decide +kernel
theorem dX12_define_44 : decode cX12_define 44 = .ok (.iload_n 2, 1) := by decide +kernel
theorem dX12_define_45 : decode cX12_define 45 = .ok (.isub, 1) := by decide +kernel
theorem dX12_define_46 : decode cX12_define 46 = .ok (.istore_n 3, 1) := by decide +kernel
theorem dX12_define_47 : decode cX12_define 47 = .ok (.aload_n 0, 1) := by decide +kernel
theorem dX12_define_48 : decode cX12_define 48 = .ok (.aload_n 0, 1) := by decide +kernel
theorem dX12_define_49 : decode cX12_define 49 = .ok (.getfield 263, 3) := by decide +kernel
theorem dX12_define_52 : decode cX12_define 52 = .ok (.aload_n 0, 1) := by decide +kernel
theorem dX12_define_53 : decode cX12_define 53 = .ok (.getfield 266, 3) := by decide +kernel
theorem dX12_define_56 : decode cX12_define 56 = .ok (.if_icmp .ge 12, 3) := by decide +kernel
theorem dX12_define_59 : decode cX12_define 59 = .ok (.aload_n 0, 1) := by decide +kernel
theorem dX12_define_60 : decode cX12_define 60 = .ok (.getfield 263, 3) := by decide +kernel
theorem dX12_define_63 : decode cX12_define 63 = .ok (.iconst 5, 1) := by decide +kernel
theorem dX12_define_64 : decode cX12_define 64 = .ok (.iadd, 1) := by decide +kernel
theorem dX12_define_65 : decode cX12_define 65 = .ok (.goto 7, 3) := by decide +kernel
theorem dX12_define_68 : decode cX12_define 68 = .ok (.aload_n 0, 1) := by decide +kernel
theorem dX12_define_69 : decode cX12_define 69 = .ok (.getfield 263, 3) := by decide +kernel
theorem dX12_define_72 : decode cX12_define 72 = .ok (.putfield 263, 3) := by decide +kernel
theorem dX12_define_75 : decode cX12_define 75 = .ok (.aload_n 0, 1) := by decide +kernel
theorem dX12_define_76 : decode cX12_define 76 = .ok (.aload_n 0, 1) := by decide +kernel
theorem dX12_define_77 : decode cX12_define 77 = .ok (.getfield 263, 3) := by decide +kernel
theorem dX12_define_80 : decode cX12_define 80 = .ok (.iload_n 2, 1) := by decide +kernel
theorem dX12_define_81 : decode cX12_define 81 = .ok (.isub, 1) := by decide +kernel
theorem dX12_define_82 : decode cX12_define 82 = .ok (.invokevirtual 269, 3) := by decide +kernel
theorem dX12_define_85 : decode cX12_define 85 = .ok (.iload_n 3, 1) := by decide +kernel
theorem dX12_define_86 : decode cX12_define 86 = .ok (.sipush 1500, 3) := by decide +kernel
theorem dX12_define_89 : decode cX12_define 89 = .ok (.if_icmp .gt 10, 3) := by decide +kernel
theorem dX12_define_92 : decode cX12_define 92 = .ok (.aload_n 0, 1) := by decide +kernel
theorem dX12_define_93 : decode cX12_define 93 = .ok (.getfield 191, 3) := by decide +kernel
theorem dX12_define_96 : decode cX12_define 96 = .ok (.ifCond .eq 4, 3) := by decide +kernel
theorem dX12_define_99 : decode cX12_define 99 = .ok (.return_, 1) := by decide +kernel
theorem dX12_define_100 : decode cX12_define 100 = .ok (.iconst 0, 1) := by decide +kernel
theorem dX12_define_101 : decode cX12_define 101 = .ok (.istore 4, 2) := by decide +kernel
theorem dX12_define_103 : decode cX12_define 103 = .ok (.iload 4, 2) := by decide +kernel
theorem dX12_define_105 : decode cX12_define 105 = .ok (.iload_n 3, 1) := by decide +kernel
theorem dX12_define_106 : decode cX12_define 106 = .ok (.if_icmp .ge 31, 3) := by decide +kernel
theorem dX12_define_109 : decode cX12_define 109 = .ok (.aload_n 0, 1) := by decide +kernel
theorem dX12_define_110 : decode cX12_define 110 = .ok (.getfield 62, 3) := by decide +kernel
theorem dX12_define_113 : decode cX12_define 113 = .ok (.iload_n 1, 1) := by decide +kernel
theorem dX12_define_114 : decode cX12_define 114 = .ok (.sipush 1500, 3) := by decide +kernel
theorem dX12_define_117 : decode cX12_define 117 = .ok (.imul, 1) := by decide +kernel
theorem dX12_define_118 : decode cX12_define 118 = .ok (.iload 4, 2) := by decide +kernel
theorem dX12_define_120 : decode cX12_define 120 = .ok (.iadd, 1) := by decide +kernel
theorem dX12_define_121 : decode cX12_define 121 = .ok (.aload_n 0, 1) := by decide +kernel
theorem dX12_define_122 : decode cX12_define 122 = .ok (.getfield 272, 3) := by decide +kernel
theorem dX12_define_125 : decode cX12_define 125 = .ok (.iload_n 2, 1) := by decide +kernel
theorem dX12_define_126 : decode cX12_define 126 = .ok (.iload 4, 2) := by decide +kernel
theorem dX12_define_128 : decode cX12_define 128 = .ok (.iadd, 1) := by decide +kernel
theorem dX12_define_129 : decode cX12_define 129 = .ok (.baload, 1) := by decide +kernel
theorem dX12_define_130 : decode cX12_define 130 = .ok (.bastore, 1) := by decide +kernel
theorem dX12_define_131 : decode cX12_define 131 = .ok (.iinc 4 1, 3) := by decide +kernel
theorem dX12_define_134 : decode cX12_define 134 = .ok (.goto (-31), 3) := by decide +kernel
theorem dX12_define_137 : decode cX12_define 137 = .ok (.aload_n 0, 1) := by decide +kernel
theorem dX12_define_138 : decode cX12_define 138 = .ok (.getfield 59, 3) := by decide +kernel
theorem dX12_define_141 : decode cX12_define 141 = .ok (.iload_n 1, 1) := by decide +kernel
theorem dX12_define_142 : decode cX12_define 142 = .ok (.iload_n 3, 1) := by decide +kernel
theorem dX12_define_143 : decode cX12_define 143 = .ok (.iastore, 1) := by decide +kernel
theorem dX12_define_144 : decode cX12_define 144 = .ok (.aload_n 0, 1) := by decide +kernel
theorem dX12_define_145 : decode cX12_define 145 = .ok (.getfield 53, 3) := by decide +kernel
theorem dX12_define_148 : decode cX12_define 148 = .ok (.iload_n 1, 1) := by decide +kernel
theorem dX12_define_149 : decode cX12_define 149 = .ok (.iconst 1, 1) := by decide +kernel
theorem dX12_define_150 : decode cX12_define 150 = .ok (.bastore, 1) := by decide +kernel
theorem dX12_define_151 : decode cX12_define 151 = .ok (.aload_n 0, 1) := by decide +kernel
theorem dX12_define_152 : decode cX12_define 152 = .ok (.getfield 56, 3) := by decide +kernel
theorem dX12_define_155 : decode cX12_define 155 = .ok (.iload_n 1, 1) := by decide +kernel
theorem dX12_define_156 : decode cX12_define 156 = .ok (.iconst 1, 1) := by decide +kernel
theorem dX12_define_157 : decode cX12_define 157 = .ok (.bastore, 1) := by decide +kernel
theorem dX12_define_158 : decode cX12_define 158 = .ok (.return_, 1) := by decide +kernel
noncomputable def f_X12_define_b103 (k103 : Int32 → Int32 → Int32 → Int32 → Mm → Option (Unit × Mm)) (a1 : Int32) (a2 : Int32) (a3 : Int32) (a4 : Int32) (T : Mm) : Option (Unit × Mm) :=
  if a3 ≤ a4 then (ix a1 16 fun j1 => lb (uA T 150 j1 (a3)) fun T3 =>
  ix a1 16 fun j4 => lb (uA T3 148 j4 (1)) fun T6 =>
  ix a1 16 fun j7 => lb (uA T6 149 j7 (1)) fun T9 =>
  some ((), T9))
  else (rf false (gR T 1226 133) 13 fun j10 =>
  ix (a2 + a4) (LN j10) fun j12 =>
  ix ((a1 * 1500) + a4) 24000 fun j14 => lb (uA T 151 j14 (((gA T j10 j12)).toInt8.toInt32)) fun T16 =>
  k103 a1 a2 a3 (a4 + 1) T16)
set_option maxRecDepth 100000 in
set_option maxHeartbeats 4000000 in
theorem s_X12_define_b103 {x : JX} {ad : Nat → Nat} {U : Mm} {S0 : Hp} {q : Unit × Mm}  {k103 : Int32 → Int32 → Int32 → Int32 → Mm → Option (Unit × Mm)} (hn9 : x_n x = 5) (C : CB x RX12 cX12_define) (M : CMr x 2 none S0 ad false U eV q) (hk103 : ∀ (a1 : Int32) (a2 : Int32) (a3 : Int32) (a4 : Int32) (T : Mm), k103 a1 a2 a3 a4 T = some q → Jr x ad false U T [(0, .ref (ad 133)), (1, .int a1), (2, .int a2), (3, .int a3), (4, .int a4)] 103 []) (a1 : Int32) (a2 : Int32) (a3 : Int32) (a4 : Int32) (T : Mm) (h : f_X12_define_b103 k103 a1 a2 a3 a4 T = some q) : Jr x ad false U T [(0, .ref (ad 133)), (1, .int a1), (2, .int a2), (3, .int a3), (4, .int a4)] 103 [] := by
  unfold f_X12_define_b103 at h
  refine r_iload C dX12_define_103 4 rfl ?_
  refine r_iload_n C dX12_define_105 rfl 3 rfl ?_
  refine r_ic_ge (tgt := 137) C dX12_define_106 (by decide) h (fun h => ?_) (fun h => ?_)
  · refine r_aload_n C dX12_define_137 rfl 0 rfl ?_
    refine r_getp (f := 1217) (j := 150) C flX12_59 dX12_define_138 kq_133 (by decide) rfl (fun W => pt_1217 kq_133 W) ?_
    refine r_iload_n C dX12_define_141 rfl 1 rfl ?_
    refine r_iload_n C dX12_define_142 rfl 3 rfl ?_
    refine r_iast (n := 16) C dX12_define_143 kq_150 lq_150 h (fun j1 T3 hj2 h => ?_)
    show Jr _ _ _ _ _ _ 144 _
    refine r_aload_n C dX12_define_144 rfl 0 rfl ?_
    refine r_getp (f := 1215) (j := 148) C flX12_53 dX12_define_145 kq_133 (by decide) rfl (fun W => pt_1215 kq_133 W) ?_
    refine r_iload_n C dX12_define_148 rfl 1 rfl ?_
    refine r_iconst (v := 1) C dX12_define_149 (by decide) ?_
    refine r_zast (n := 16) C dX12_define_150 kq_148 lq_148 (by decide) h (fun j4 T6 hj5 h => ?_)
    refine r_aload_n C dX12_define_151 rfl 0 rfl ?_
    show Jr _ _ _ _ _ _ 152 _
    refine r_getp (f := 1216) (j := 149) C flX12_56 dX12_define_152 kq_133 (by decide) rfl (fun W => pt_1216 kq_133 W) ?_
    refine r_iload_n C dX12_define_155 rfl 1 rfl ?_
    refine r_iconst (v := 1) C dX12_define_156 (by decide) ?_
    refine r_zast (n := 16) C dX12_define_157 kq_149 lq_149 (by decide) h (fun j7 T9 hj8 h => ?_)
    exact r_vret C M dX12_define_158 h
  · refine r_aload_n C dX12_define_109 rfl 0 rfl ?_
    refine r_getp (f := 1218) (j := 151) C flX12_62 dX12_define_110 kq_133 (by decide) rfl (fun W => pt_1218 kq_133 W) ?_
    refine r_iload_n C dX12_define_113 rfl 1 rfl ?_
    refine r_sipush (v := 1500) C dX12_define_114 (by decide) ?_
    refine r_imul C dX12_define_117 rfl ?_
    show Jr _ _ _ _ _ _ 118 _
    refine r_iload C dX12_define_118 4 rfl ?_
    refine r_iadd C dX12_define_120 rfl ?_
    refine r_aload_n C dX12_define_121 rfl 0 rfl ?_
    refine r_getr (f := 1226) (c := 13) C flX12_272 dX12_define_122 kq_133 (by decide) rfl h (fun j10 hj11 h => ?_)
    refine r_iload_n C dX12_define_125 rfl 2 rfl ?_
    refine r_iload C dX12_define_126 4 rfl ?_
    show Jr _ _ _ _ _ _ 128 _
    refine r_iadd C dX12_define_128 rfl ?_
    refine r_bald (n := (LN j10)) C dX12_define_129 hj11 rfl h (fun j12 hj13 h => ?_)
    refine r_bast (n := 24000) C dX12_define_130 kq_151 lq_151 h (fun j14 T16 hj15 h => ?_)
    refine r_iinc (q := 4) (v := (a4 + 1)) (lv' := [(4, .int (a4 + 1)), (0, .ref (ad 133)), (1, .int a1), (2, .int a2), (3, .int a3)]) C dX12_define_131 rfl (by rw [show Int32.ofInt (1) = 1 by decide]) (by rw [hn9]; decide) rfl ?_
    refine r_goto (tgt := 103) C dX12_define_134 (by decide) ?_
    refine Jr.sub [1, 2, 3, 4, 0] (lv' := [(0, .ref (ad 133)), (1, .int a1), (2, .int a2), (3, .int a3), (4, .int (a4 + 1))]) rfl ?_
    exact hk103 a1 a2 a3 (a4 + 1) T16 h
noncomputable def f_X12_define_l103 (n : Nat) : Int32 → Int32 → Int32 → Int32 → Mm → Option (Unit × Mm) := Nat.rec (fun _ _ _ _ _ => none) (fun _ ih => f_X12_define_b103 ih) n
theorem s_X12_define_l103 {x : JX} {ad : Nat → Nat} {U : Mm} {S0 : Hp} {q : Unit × Mm}  (hn9 : x_n x = 5) (C : CB x RX12 cX12_define) (M : CMr x 2 none S0 ad false U eV q) : ∀ (n : Nat), ∀ (a1 : Int32) (a2 : Int32) (a3 : Int32) (a4 : Int32) (T : Mm), f_X12_define_l103  n a1 a2 a3 a4 T = some q → Jr x ad false U T [(0, .ref (ad 133)), (1, .int a1), (2, .int a2), (3, .int a3), (4, .int a4)] 103 [] := by
  intro n
  induction n with
  | zero => intro a1 a2 a3 a4 T  h; exact absurd h (by intro h; cases h)
  | succ n ih => exact fun a1 a2 a3 a4 T  h => s_X12_define_b103 hn9 C M (ih) a1 a2 a3 a4 T  h
noncomputable def f_X12_define_72 (a1 : Int32) (a2 : Int32) (a3 : Int32) (b0 : Int32) (T : Mm) : Option (Unit × Mm) :=
  lb (uI T 1227 133 b0) fun T1 =>
  bd (f_X12_count ((gI T1 1227 133) - a2) T1) fun _ T2 =>
  if 1500 < a3 then (some ((), T2))
  else (if (gI T2 1233 133) = 0 then (f_X12_define_l103 FU a1 a2 a3 0 T2)
  else (some ((), T2)))
set_option maxRecDepth 100000 in
set_option maxHeartbeats 4000000 in
theorem s_X12_define_72 {x : JX} {ad : Nat → Nat} {U : Mm} {S0 : Hp} {q : Unit × Mm}  (hn9 : x_n x = 5) (C : CB x RX12 cX12_define) (M : CMr x 2 none S0 ad false U eV q) (a1 : Int32) (a2 : Int32) (a3 : Int32) (b0 : Int32) (T : Mm) (h : f_X12_define_72  a1 a2 a3 b0 T = some q) : Jr x ad false U T [(0, .ref (ad 133)), (1, .int a1), (2, .int a2), (3, .int a3)] 72 [.int b0, .ref (ad 133)] := by
  unfold f_X12_define_72 at h
  refine r_puti (f := 1227) C flX12_263 (by decide) rfl rfl dX12_define_72 kq_133 rfl h (fun T1 h => ?_)
  refine r_aload_n C dX12_define_75 rfl 0 rfl ?_
  refine r_aload_n C dX12_define_76 rfl 0 rfl ?_
  refine r_geti (f := 1227) C flX12_263 dX12_define_77 kq_133 (by decide) (by decide) rfl ?_
  refine r_iload_n C dX12_define_80 rfl 2 rfl ?_
  show Jr _ _ _ _ _ _ 81 _
  refine r_isub C dX12_define_81 rfl ?_
  refine r_callVN C M h [.int ((gI T1 1227 133) - a2)] [] mlX12_269 mcX12_count (fun q9 e9 => s_X12_count ((gI T1 1227 133) - a2)  e9) kq_133 rfl (by decide) (by decide) rfl rfl (Nat.le_of_ble_eq_true rfl) dX12_define_82 (fun _ T2 h => ?_)
  refine r_iload_n C dX12_define_85 rfl 3 rfl ?_
  refine r_sipush (v := 1500) C dX12_define_86 (by decide) ?_
  refine r_ic_gt (tgt := 99) C dX12_define_89 (by decide) h (fun h => ?_) (fun h => ?_)
  · exact r_vret C M dX12_define_99 h
  · refine r_aload_n C dX12_define_92 rfl 0 rfl ?_
    refine r_geti (f := 1233) C flX12_191 dX12_define_93 kq_133 (by decide) (by decide) rfl ?_
    refine r_if_eq (tgt := 100) C dX12_define_96 (by decide) h (fun h => ?_) (fun h => ?_)
    · refine r_iconst (v := 0) C dX12_define_100 (by decide) ?_
      refine r_istore (lv' := [(4, .int 0), (0, .ref (ad 133)), (1, .int a1), (2, .int a2), (3, .int a3)]) C dX12_define_101 (by rw [hn9]; decide) rfl ?_
      refine Jr.sub [1, 2, 3, 4, 0] (lv' := [(0, .ref (ad 133)), (1, .int a1), (2, .int a2), (3, .int a3), (4, .int 0)]) rfl ?_
      exact s_X12_define_l103 hn9 C M  FU a1 a2 a3 0 T2 h
    · exact r_vret C M dX12_define_99 h
noncomputable def f_X12_define_40 (a1 : Int32) (a2 : Int32) (T : Mm) : Option (Unit × Mm) :=
  lb (((gI T 1227 133) - a2)) fun v1 =>
  if (gI T 1228 133) ≤ (gI T 1227 133) then (f_X12_define_72 a1 a2 v1 (gI T 1227 133) T)
  else (f_X12_define_72 a1 a2 v1 ((gI T 1227 133) + 5) T)
set_option maxRecDepth 100000 in
set_option maxHeartbeats 4000000 in
theorem s_X12_define_40 {x : JX} {ad : Nat → Nat} {U : Mm} {S0 : Hp} {q : Unit × Mm}  (hn9 : x_n x = 5) (C : CB x RX12 cX12_define) (M : CMr x 2 none S0 ad false U eV q) (a1 : Int32) (a2 : Int32) (T : Mm) (h : f_X12_define_40  a1 a2 T = some q) : Jr x ad false U T [(0, .ref (ad 133)), (1, .int a1), (2, .int a2)] 40 [] := by
  unfold f_X12_define_40 at h
  refine r_aload_n C dX12_define_40 rfl 0 rfl ?_
  refine r_geti (f := 1227) C flX12_263 dX12_define_41 kq_133 (by decide) (by decide) rfl ?_
  refine r_iload_n C dX12_define_44 rfl 2 rfl ?_
  refine r_isub C dX12_define_45 rfl ?_
  refine r_lbI h (fun v1 h => ?_)
  refine r_istore_n (lv' := [(3, .int v1), (0, .ref (ad 133)), (1, .int a1), (2, .int a2)]) C dX12_define_46 rfl (by rw [hn9]; decide) rfl ?_
  show Jr _ _ _ _ _ _ 47 _
  refine r_aload_n C dX12_define_47 rfl 1 rfl ?_
  refine r_aload_n C dX12_define_48 rfl 1 rfl ?_
  refine r_geti (f := 1227) C flX12_263 dX12_define_49 kq_133 (by decide) (by decide) rfl ?_
  refine r_aload_n C dX12_define_52 rfl 1 rfl ?_
  refine r_geti (f := 1228) C flX12_266 dX12_define_53 kq_133 (by decide) (by decide) rfl ?_
  refine r_ic_ge (tgt := 68) C dX12_define_56 (by decide) h (fun h => ?_) (fun h => ?_)
  · refine r_aload_n C dX12_define_68 rfl 1 rfl ?_
    refine r_geti (f := 1227) C flX12_263 dX12_define_69 kq_133 (by decide) (by decide) rfl ?_
    refine Jr.sub [1, 2, 3, 0] (lv' := [(0, .ref (ad 133)), (1, .int a1), (2, .int a2), (3, .int v1)]) rfl ?_
    exact s_X12_define_72 hn9 C M  a1 a2 v1 (gI T 1227 133) T h
  · refine r_aload_n C dX12_define_59 rfl 1 rfl ?_
    refine r_geti (f := 1227) C flX12_263 dX12_define_60 kq_133 (by decide) (by decide) rfl ?_
    refine r_iconst (v := 5) C dX12_define_63 (by decide) ?_
    refine r_iadd C dX12_define_64 rfl ?_
    refine r_goto (tgt := 72) C dX12_define_65 (by decide) ?_
    refine Jr.sub [1, 2, 3, 0] (lv' := [(0, .ref (ad 133)), (1, .int a1), (2, .int a2), (3, .int v1)]) rfl ?_
    exact s_X12_define_72 hn9 C M  a1 a2 v1 ((gI T 1227 133) + 5) T h
noncomputable def f_X12_define_b5 (k5 : Int32 → Int32 → Mm → Option (Unit × Mm)) (a1 : Int32) (a2 : Int32) (T : Mm) : Option (Unit × Mm) :=
  if (gI T 1228 133) ≤ (gI T 1227 133) then (f_X12_define_40 a1 a2 T)
  else (bd (f_X12_endsMacro (gI T 1227 133) T) fun v1 T2 =>
  if v1 = 0 then (lb (uI T2 1227 133 ((gI T2 1227 133) + 1)) fun T3 =>
  k5 a1 a2 T3)
  else (f_X12_define_40 a1 a2 T2))
set_option maxRecDepth 100000 in
set_option maxHeartbeats 4000000 in
theorem s_X12_define_b5 {x : JX} {ad : Nat → Nat} {U : Mm} {S0 : Hp} {q : Unit × Mm}  {k5 : Int32 → Int32 → Mm → Option (Unit × Mm)} (hn9 : x_n x = 5) (C : CB x RX12 cX12_define) (M : CMr x 2 none S0 ad false U eV q) (hk5 : ∀ (a1 : Int32) (a2 : Int32) (T : Mm), k5 a1 a2 T = some q → Jr x ad false U T [(0, .ref (ad 133)), (1, .int a1), (2, .int a2)] 5 []) (a1 : Int32) (a2 : Int32) (T : Mm) (h : f_X12_define_b5 k5 a1 a2 T = some q) : Jr x ad false U T [(0, .ref (ad 133)), (1, .int a1), (2, .int a2)] 5 [] := by
  unfold f_X12_define_b5 at h
  refine r_aload_n C dX12_define_5 rfl 0 rfl ?_
  refine r_geti (f := 1227) C flX12_263 dX12_define_6 kq_133 (by decide) (by decide) rfl ?_
  refine r_aload_n C dX12_define_9 rfl 0 rfl ?_
  refine r_geti (f := 1228) C flX12_266 dX12_define_10 kq_133 (by decide) (by decide) rfl ?_
  refine r_ic_ge (tgt := 40) C dX12_define_13 (by decide) h (fun h => ?_) (fun h => ?_)
  · exact s_X12_define_40 hn9 C M  a1 a2 T h
  · refine r_aload_n C dX12_define_16 rfl 0 rfl ?_
    refine r_aload_n C dX12_define_17 rfl 0 rfl ?_
    refine r_geti (f := 1227) C flX12_263 dX12_define_18 kq_133 (by decide) (by decide) rfl ?_
    refine r_callVI C M h [.int (gI T 1227 133)] [] mlX12_441 mcX12_endsMacro (fun q9 e9 => s_X12_endsMacro (gI T 1227 133)  e9) kq_133 rfl (by decide) (by decide) rfl rfl (Nat.le_of_ble_eq_true rfl) dX12_define_21 (fun v1 T2 h => ?_)
    refine r_if_ne (tgt := 40) C dX12_define_24 (by decide) h (fun h => ?_) (fun h => ?_)
    · exact s_X12_define_40 hn9 C M  a1 a2 T2 h
    · refine r_aload_n C dX12_define_27 rfl 0 rfl ?_
      refine r_dup C dX12_define_28 rfl ?_
      refine r_geti (f := 1227) C flX12_263 dX12_define_29 kq_133 (by decide) (by decide) rfl ?_
      refine r_iconst (v := 1) C dX12_define_32 (by decide) ?_
      refine r_iadd C dX12_define_33 rfl ?_
      show Jr _ _ _ _ _ _ 34 _
      refine r_puti (f := 1227) C flX12_263 (by decide) rfl rfl dX12_define_34 kq_133 rfl h (fun T3 h => ?_)
      refine r_goto (tgt := 5) C dX12_define_37 (by decide) ?_
      exact hk5 a1 a2 T3 h
noncomputable def f_X12_define_l5 (n : Nat) : Int32 → Int32 → Mm → Option (Unit × Mm) := Nat.rec (fun _ _ _ => none) (fun _ ih => f_X12_define_b5 ih) n
theorem s_X12_define_l5 {x : JX} {ad : Nat → Nat} {U : Mm} {S0 : Hp} {q : Unit × Mm}  (hn9 : x_n x = 5) (C : CB x RX12 cX12_define) (M : CMr x 2 none S0 ad false U eV q) : ∀ (n : Nat), ∀ (a1 : Int32) (a2 : Int32) (T : Mm), f_X12_define_l5  n a1 a2 T = some q → Jr x ad false U T [(0, .ref (ad 133)), (1, .int a1), (2, .int a2)] 5 [] := by
  intro n
  induction n with
  | zero => intro a1 a2 T  h; exact absurd h (by intro h; cases h)
  | succ n ih => exact fun a1 a2 T  h => s_X12_define_b5 hn9 C M (ih) a1 a2 T  h
noncomputable def f_X12_define (p1 : Int32) (T : Mm) : Option (Unit × Mm) :=
  lb ((gI T 1227 133)) fun v1 =>
  f_X12_define_l5 FU p1 v1 T
set_option maxRecDepth 100000 in
set_option maxHeartbeats 4000000 in
theorem s_X12_define {ad : Nat → Nat} {U T : Mm} {q : Unit × Mm}  (p1 : Int32) (h : f_X12_define p1 T = some q) : Cr 2 yX12_define cX12_define 5 none [.ref (ad 133), .int p1] ad false U T eV q := by
  refine cr_of (by decide) (Nat.le_of_ble_eq_true rfl) fun x S0 hn9 C M => ?_
  have C : CB x RX12 cX12_define := C
  refine Jr.eq (lv' := [(0, .ref (ad 133)), (1, .int p1)]) (st' := []) rfl rfl ?_
  unfold f_X12_define at h
  refine r_aload_n C dX12_define_0 rfl 0 rfl ?_
  refine r_geti (f := 1227) C flX12_263 dX12_define_1 kq_133 (by decide) (by decide) rfl ?_
  refine r_lbI h (fun v1 h => ?_)
  refine r_istore_n (lv' := [(2, .int v1), (0, .ref (ad 133)), (1, .int p1)]) C dX12_define_4 rfl (by rw [hn9]; decide) rfl ?_
  refine Jr.sub [1, 2, 0] (lv' := [(0, .ref (ad 133)), (1, .int p1), (2, .int v1)]) rfl ?_
  exact s_X12_define_l5 hn9 C M  FU p1 v1 T h
theorem dX12_macroAct_0 : decode cX12_macroAct 0 = .ok (.aload_n 0, 1) := by decide +kernel
theorem dX12_macroAct_1 : decode cX12_macroAct 1 = .ok (.getfield 9, 3) := by decide +kernel
theorem dX12_macroAct_4 : decode cX12_macroAct 4 = .ok (.sipush 145, 3) := by decide +kernel
theorem dX12_macroAct_7 : decode cX12_macroAct 7 = .ok (.iaload, 1) := by decide +kernel
theorem dX12_macroAct_8 : decode cX12_macroAct 8 = .ok (.istore_n 1, 1) := by decide +kernel
theorem dX12_macroAct_9 : decode cX12_macroAct 9 = .ok (.aload_n 0, 1) := by decide +kernel
theorem dX12_macroAct_10 : decode cX12_macroAct 10 = .ok (.getfield 379, 3) := by decide +kernel
theorem dX12_macroAct_13 : decode cX12_macroAct 13 = .ok (.ifCond .ne 23, 3) := by decide +kernel
theorem dX12_macroAct_16 : decode cX12_macroAct 16 = .ok (.aload_n 0, 1) := by decide +kernel
theorem dX12_macroAct_17 : decode cX12_macroAct 17 = .ok (.getfield 279, 3) := by decide +kernel
theorem dX12_macroAct_20 : decode cX12_macroAct 20 = .ok (.ifCond .ne 281, 3) := by decide +kernel
theorem dX12_macroAct_23 : decode cX12_macroAct 23 = .ok (.aload_n 0, 1) := by decide +kernel
theorem dX12_macroAct_24 : decode cX12_macroAct 24 = .ok (.iload_n 1, 1) := by decide +kernel
theorem dX12_macroAct_25 : decode cX12_macroAct 25 = .ok (.invokevirtual 438, 3) := by decide +kernel
theorem dX12_macroAct_28 : decode cX12_macroAct 28 = .ok (.aload_n 0, 1) := by decide +kernel
theorem dX12_macroAct_29 : decode cX12_macroAct 29 = .ok (.iconst 1, 1) := by decide +kernel
theorem dX12_macroAct_30 : decode cX12_macroAct 30 = .ok (.putfield 370, 3) := by decide +kernel
theorem dX12_macroAct_33 : decode cX12_macroAct 33 = .ok (.goto 268, 3) := by decide +kernel
theorem dX12_macroAct_36 : decode cX12_macroAct 36 = .ok (.aload_n 0, 1) := by decide +kernel
theorem dX12_macroAct_37 : decode cX12_macroAct 37 = .ok (.getfield 379, 3) := by decide +kernel
theorem dX12_macroAct_40 : decode cX12_macroAct 40 = .ok (.iconst 2, 1) := by decide +kernel
theorem dX12_macroAct_41 : decode cX12_macroAct 41 = .ok (.if_icmp .ne 28, 3) := by decide +kernel
theorem dX12_macroAct_44 : decode cX12_macroAct 44 = .ok (.aload_n 0, 1) := by decide +kernel
theorem dX12_macroAct_45 : decode cX12_macroAct 45 = .ok (.getfield 53, 3) := by decide +kernel
theorem dX12_macroAct_48 : decode cX12_macroAct 48 = .ok (.iload_n 1, 1) := by decide +kernel
theorem dX12_macroAct_49 : decode cX12_macroAct 49 = .ok (.baload, 1) := by decide +kernel
theorem dX12_macroAct_50 : decode cX12_macroAct 50 = .ok (.ifCond .eq 251, 3) := by decide +kernel
theorem dX12_macroAct_53 : decode cX12_macroAct 53 = .ok (.aload_n 0, 1) := by decide +kernel
theorem dX12_macroAct_54 : decode cX12_macroAct 54 = .ok (.getfield 222, 3) := by decide +kernel
theorem dX12_macroAct_57 : decode cX12_macroAct 57 = .ok (.iconst 3, 1) := by decide +kernel
theorem dX12_macroAct_58 : decode cX12_macroAct 58 = .ok (.if_icmp .ge 243, 3) := by decide +kernel
theorem dX12_macroAct_61 : decode cX12_macroAct 61 = .ok (.aload_n 0, 1) := by decide +kernel
theorem dX12_macroAct_62 : decode cX12_macroAct 62 = .ok (.iload_n 1, 1) := by decide +kernel
theorem dX12_macroAct_63 : decode cX12_macroAct 63 = .ok (.invokevirtual 232, 3) := by decide +kernel
theorem dX12_macroAct_66 : decode cX12_macroAct 66 = .ok (.goto 235, 3) := by decide +kernel
theorem dX12_macroAct_69 : decode cX12_macroAct 69 = .ok (.aload_n 0, 1) := by decide +kernel
theorem dX12_macroAct_70 : decode cX12_macroAct 70 = .ok (.getfield 379, 3) := by decide +kernel
theorem dX12_macroAct_73 : decode cX12_macroAct 73 = .ok (.iconst 3, 1) := by decide +kernel
theorem dX12_macroAct_74 : decode cX12_macroAct 74 = .ok (.if_icmp .ne 96, 3) := by decide +kernel
theorem dX12_macroAct_77 : decode cX12_macroAct 77 = .ok (.aload_n 0, 1) := by decide +kernel
theorem dX12_macroAct_78 : decode cX12_macroAct 78 = .ok (.getfield 53, 3) := by decide +kernel
theorem dX12_macroAct_81 : decode cX12_macroAct 81 = .ok (.iload_n 1, 1) := by decide +kernel
theorem dX12_macroAct_82 : decode cX12_macroAct 82 = .ok (.baload, 1) := by decide +kernel
theorem dX12_macroAct_83 : decode cX12_macroAct 83 = .ok (.ifCond .eq 218, 3) := by decide +kernel
theorem dX12_macroAct_86 : decode cX12_macroAct 86 = .ok (.aload_n 0, 1) := by decide +kernel
theorem dX12_macroAct_87 : decode cX12_macroAct 87 = .ok (.getfield 222, 3) := by decide +kernel
theorem dX12_macroAct_90 : decode cX12_macroAct 90 = .ok (.iconst 3, 1) := by decide +kernel
theorem dX12_macroAct_91 : decode cX12_macroAct 91 = .ok (.if_icmp .ge 210, 3) := by decide +kernel
theorem dX12_macroAct_94 : decode cX12_macroAct 94 = .ok (.aload_n 0, 1) := by decide +kernel
theorem dX12_macroAct_95 : decode cX12_macroAct 95 = .ok (.getfield 222, 3) := by decide +kernel
theorem dX12_macroAct_98 : decode cX12_macroAct 98 = .ok (.istore_n 2, 1) := by decide +kernel
theorem dX12_macroAct_99 : decode cX12_macroAct 99 = .ok (.aload_n 0, 1) := by decide +kernel
theorem dX12_macroAct_100 : decode cX12_macroAct 100 = .ok (.iload_n 2, 1) := by decide +kernel
theorem dX12_macroAct_101 : decode cX12_macroAct 101 = .ok (.invokevirtual 225, 3) := by decide +kernel
theorem dX12_macroAct_104 : decode cX12_macroAct 104 = .ok (.aload_n 0, 1) := by decide +kernel
theorem dX12_macroAct_105 : decode cX12_macroAct 105 = .ok (.iload_n 1, 1) := by decide +kernel
theorem dX12_macroAct_106 : decode cX12_macroAct 106 = .ok (.invokevirtual 232, 3) := by decide +kernel
theorem dX12_macroAct_109 : decode cX12_macroAct 109 = .ok (.aload_n 0, 1) := by decide +kernel
theorem dX12_macroAct_110 : decode cX12_macroAct 110 = .ok (.getfield 191, 3) := by decide +kernel
theorem dX12_macroAct_113 : decode cX12_macroAct 113 = .ok (.ifCond .ne 54, 3) := by decide +kernel
theorem dX12_macroAct_116 : decode cX12_macroAct 116 = .ok (.aload_n 0, 1) := by decide +kernel
theorem dX12_macroAct_117 : decode cX12_macroAct 117 = .ok (.getfield 9, 3) := by decide +kernel
theorem dX12_macroAct_120 : decode cX12_macroAct 120 = .ok (.iconst 0, 1) := by decide +kernel
theorem dX12_macroAct_121 : decode cX12_macroAct 121 = .ok (.iaload, 1) := by decide +kernel
theorem dX12_macroAct_122 : decode cX12_macroAct 122 = .ok (.aload_n 0, 1) := by decide +kernel
theorem dX12_macroAct_123 : decode cX12_macroAct 123 = .ok (.getfield 13, 3) := by decide +kernel
theorem dX12_macroAct_126 : decode cX12_macroAct 126 = .ok (.iload_n 2, 1) := by decide +kernel
theorem dX12_macroAct_127 : decode cX12_macroAct 127 = .ok (.sipush 192, 3) := by decide +kernel
theorem dX12_macroAct_130 : decode cX12_macroAct 130 = .ok (.imul, 1) := by decide +kernel
theorem dX12_macroAct_131 : decode cX12_macroAct 131 = .ok (.iconst 0, 1) := by decide +kernel
theorem dX12_macroAct_132 : decode cX12_macroAct 132 = .ok (.iadd, 1) := by decide +kernel
theorem dX12_macroAct_133 : decode cX12_macroAct 133 = .ok (.iaload, 1) := by decide +kernel
theorem dX12_macroAct_134 : decode cX12_macroAct 134 = .ok (.if_icmp .ne 24, 3) := by decide +kernel
theorem dX12_macroAct_137 : decode cX12_macroAct 137 = .ok (.aload_n 0, 1) := by decide +kernel
theorem dX12_macroAct_138 : decode cX12_macroAct 138 = .ok (.getfield 9, 3) := by decide +kernel
theorem dX12_macroAct_141 : decode cX12_macroAct 141 = .ok (.iconst 1, 1) := by decide +kernel
theorem dX12_macroAct_142 : decode cX12_macroAct 142 = .ok (.iaload, 1) := by decide +kernel
theorem dX12_macroAct_143 : decode cX12_macroAct 143 = .ok (.aload_n 0, 1) := by decide +kernel
theorem dX12_macroAct_144 : decode cX12_macroAct 144 = .ok (.getfield 13, 3) := by decide +kernel
theorem dX12_macroAct_147 : decode cX12_macroAct 147 = .ok (.iload_n 2, 1) := by decide +kernel
theorem dX12_macroAct_148 : decode cX12_macroAct 148 = .ok (.sipush 192, 3) := by decide +kernel
theorem dX12_macroAct_151 : decode cX12_macroAct 151 = .ok (.imul, 1) := by decide +kernel
theorem dX12_macroAct_152 : decode cX12_macroAct 152 = .ok (.iconst 1, 1) := by decide +kernel
theorem dX12_macroAct_153 : decode cX12_macroAct 153 = .ok (.iadd, 1) := by decide +kernel
theorem dX12_macroAct_154 : decode cX12_macroAct 154 = .ok (.iaload, 1) := by decide +kernel
theorem dX12_macroAct_155 : decode cX12_macroAct 155 = .ok (.if_icmp .eq 7, 3) := by decide +kernel
theorem dX12_macroAct_158 : decode cX12_macroAct 158 = .ok (.aload_n 0, 1) := by decide +kernel
theorem dX12_macroAct_159 : decode cX12_macroAct 159 = .ok (.invokevirtual 307, 3) := by decide +kernel
theorem dX12_macroAct_162 : decode cX12_macroAct 162 = .ok (.aload_n 0, 1) := by decide +kernel
theorem dX12_macroAct_163 : decode cX12_macroAct 163 = .ok (.iload_n 2, 1) := by decide +kernel
theorem dX12_macroAct_164 : decode cX12_macroAct 164 = .ok (.invokevirtual 235, 3) := by decide +kernel
theorem dX12_macroAct_167 : decode cX12_macroAct 167 = .ok (.goto 134, 3) := by decide +kernel
theorem dX12_macroAct_170 : decode cX12_macroAct 170 = .ok (.aload_n 0, 1) := by decide +kernel
theorem dX12_macroAct_171 : decode cX12_macroAct 171 = .ok (.getfield 379, 3) := by decide +kernel
theorem dX12_macroAct_174 : decode cX12_macroAct 174 = .ok (.iconst 4, 1) := by decide +kernel
theorem dX12_macroAct_175 : decode cX12_macroAct 175 = .ok (.if_icmp .ne 15, 3) := by decide +kernel
theorem dX12_macroAct_178 : decode cX12_macroAct 178 = .ok (.aload_n 0, 1) := by decide +kernel
theorem dX12_macroAct_179 : decode cX12_macroAct 179 = .ok (.getfield 9, 3) := by decide +kernel
theorem dX12_macroAct_182 : decode cX12_macroAct 182 = .ok (.sipush 187, 3) := by decide +kernel
theorem dX12_macroAct_185 : decode cX12_macroAct 185 = .ok (.iload_n 1, 1) := by decide +kernel
theorem dX12_macroAct_186 : decode cX12_macroAct 186 = .ok (.iastore, 1) := by decide +kernel
theorem dX12_macroAct_187 : decode cX12_macroAct 187 = .ok (.goto 114, 3) := by decide +kernel
theorem dX12_macroAct_190 : decode cX12_macroAct 190 = .ok (.aload_n 0, 1) := by decide +kernel
theorem dX12_macroAct_191 : decode cX12_macroAct 191 = .ok (.getfield 379, 3) := by decide +kernel
theorem dX12_macroAct_194 : decode cX12_macroAct 194 = .ok (.iconst 5, 1) := by decide +kernel
theorem dX12_macroAct_195 : decode cX12_macroAct 195 = .ok (.if_icmp .ne 15, 3) := by decide +kernel
theorem dX12_macroAct_198 : decode cX12_macroAct 198 = .ok (.aload_n 0, 1) := by decide +kernel
theorem dX12_macroAct_199 : decode cX12_macroAct 199 = .ok (.getfield 9, 3) := by decide +kernel
theorem dX12_macroAct_202 : decode cX12_macroAct 202 = .ok (.sipush 187, 3) := by decide +kernel
theorem dX12_macroAct_205 : decode cX12_macroAct 205 = .ok (.iconst (-1), 1) := by decide +kernel
theorem dX12_macroAct_206 : decode cX12_macroAct 206 = .ok (.iastore, 1) := by decide +kernel
theorem dX12_macroAct_207 : decode cX12_macroAct 207 = .ok (.goto 94, 3) := by decide +kernel
theorem dX12_macroAct_210 : decode cX12_macroAct 210 = .ok (.aload_n 0, 1) := by decide +kernel
theorem dX12_macroAct_211 : decode cX12_macroAct 211 = .ok (.getfield 379, 3) := by decide +kernel
theorem dX12_macroAct_214 : decode cX12_macroAct 214 = .ok (.bipush 6, 2) := by decide +kernel
theorem dX12_macroAct_216 : decode cX12_macroAct 216 = .ok (.if_icmp .ne 11, 3) := by decide +kernel
theorem dX12_macroAct_219 : decode cX12_macroAct 219 = .ok (.aload_n 0, 1) := by decide +kernel
theorem dX12_macroAct_220 : decode cX12_macroAct 220 = .ok (.iconst 0, 1) := by decide +kernel
theorem dX12_macroAct_221 : decode cX12_macroAct 221 = .ok (.invokevirtual 251, 3) := by decide +kernel
theorem dX12_macroAct_224 : decode cX12_macroAct 224 = .ok (.goto 77, 3) := by decide +kernel
theorem dX12_macroAct_227 : decode cX12_macroAct 227 = .ok (.aload_n 0, 1) := by decide +kernel
theorem dX12_macroAct_228 : decode cX12_macroAct 228 = .ok (.getfield 379, 3) := by decide +kernel
theorem dX12_macroAct_231 : decode cX12_macroAct 231 = .ok (.bipush 7, 2) := by decide +kernel
theorem dX12_macroAct_233 : decode cX12_macroAct 233 = .ok (.if_icmp .ne 11, 3) := by decide +kernel
theorem dX12_macroAct_236 : decode cX12_macroAct 236 = .ok (.aload_n 0, 1) := by decide +kernel
theorem dX12_macroAct_237 : decode cX12_macroAct 237 = .ok (.iconst 1, 1) := by decide +kernel
theorem dX12_macroAct_238 : decode cX12_macroAct 238 = .ok (.invokevirtual 251, 3) := by decide +kernel
theorem dX12_macroAct_241 : decode cX12_macroAct 241 = .ok (.goto 60, 3) := by decide +kernel
theorem dX12_macroAct_244 : decode cX12_macroAct 244 = .ok (.aload_n 0, 1) := by decide +kernel
theorem dX12_macroAct_245 : decode cX12_macroAct 245 = .ok (.getfield 379, 3) := by decide +kernel
theorem dX12_macroAct_248 : decode cX12_macroAct 248 = .ok (.bipush 8, 2) := by decide +kernel
theorem dX12_macroAct_250 : decode cX12_macroAct 250 = .ok (.if_icmp .ne 13, 3) := by decide +kernel
theorem dX12_macroAct_253 : decode cX12_macroAct 253 = .ok (.aload_n 0, 1) := by decide +kernel
theorem dX12_macroAct_254 : decode cX12_macroAct 254 = .ok (.getfield 53, 3) := by decide +kernel
theorem dX12_macroAct_257 : decode cX12_macroAct 257 = .ok (.iload_n 1, 1) := by decide +kernel
theorem dX12_macroAct_258 : decode cX12_macroAct 258 = .ok (.iconst 0, 1) := by decide +kernel
theorem dX12_macroAct_259 : decode cX12_macroAct 259 = .ok (.bastore, 1) := by decide +kernel
theorem dX12_macroAct_260 : decode cX12_macroAct 260 = .ok (.goto 41, 3) := by decide +kernel
theorem dX12_macroAct_263 : decode cX12_macroAct 263 = .ok (.aload_n 0, 1) := by decide +kernel
theorem dX12_macroAct_264 : decode cX12_macroAct 264 = .ok (.getfield 379, 3) := by decide +kernel
theorem dX12_macroAct_267 : decode cX12_macroAct 267 = .ok (.bipush 9, 2) := by decide +kernel
theorem dX12_macroAct_269 : decode cX12_macroAct 269 = .ok (.if_icmp .eq 12, 3) := by decide +kernel
theorem dX12_macroAct_272 : decode cX12_macroAct 272 = .ok (.aload_n 0, 1) := by decide +kernel
theorem dX12_macroAct_273 : decode cX12_macroAct 273 = .ok (.getfield 379, 3) := by decide +kernel
theorem dX12_macroAct_276 : decode cX12_macroAct 276 = .ok (.bipush 10, 2) := by decide +kernel
theorem dX12_macroAct_278 : decode cX12_macroAct 278 = .ok (.if_icmp .ne 23, 3) := by decide +kernel
theorem dX12_macroAct_281 : decode cX12_macroAct 281 = .ok (.aload_n 0, 1) := by decide +kernel
theorem dX12_macroAct_282 : decode cX12_macroAct 282 = .ok (.getfield 56, 3) := by decide +kernel
theorem dX12_macroAct_285 : decode cX12_macroAct 285 = .ok (.iload_n 1, 1) := by decide +kernel
theorem dX12_macroAct_286 : decode cX12_macroAct 286 = .ok (.aload_n 0, 1) := by decide +kernel
theorem dX12_macroAct_287 : decode cX12_macroAct 287 = .ok (.getfield 379, 3) := by decide +kernel
theorem dX12_macroAct_290 : decode cX12_macroAct 290 = .ok (.bipush 9, 2) := by decide +kernel
theorem dX12_macroAct_292 : decode cX12_macroAct 292 = .ok (.if_icmp .ne 7, 3) := by decide +kernel
theorem dX12_macroAct_295 : decode cX12_macroAct 295 = .ok (.iconst 1, 1) := by decide +kernel
theorem dX12_macroAct_296 : decode cX12_macroAct 296 = .ok (.goto 4, 3) := by decide +kernel
theorem dX12_macroAct_299 : decode cX12_macroAct 299 = .ok (.iconst 0, 1) := by decide +kernel
theorem dX12_macroAct_300 : decode cX12_macroAct 300 = .ok (.bastore, 1) := by decide +kernel
theorem dX12_macroAct_301 : decode cX12_macroAct 301 = .ok (.return_, 1) := by decide +kernel
noncomputable def f_X12_macroAct_281 (G : Int32 → Mm → Option (Unit × Mm)) (a1 : Int32) (T : Mm) : Option (Unit × Mm) :=
  if (gI T 1251 133) = 9 then (ix a1 16 fun j4 => lb (uA T 149 j4 (1)) fun T6 =>
  some ((), T6))
  else (ix a1 16 fun j1 => lb (uA T 149 j1 (0)) fun T3 =>
  some ((), T3))
set_option maxRecDepth 100000 in
set_option maxHeartbeats 4000000 in
theorem s_X12_macroAct_281 {x : JX} {ad : Nat → Nat} {U : Mm} {S0 : Hp} {q : Unit × Mm} {D : Nat} {G : Int32 → Mm → Option (Unit × Mm)}  (hn9 : x_n x = 3) (C : CB x RX12 cX12_macroAct) (M : CMr x (D + 2) none S0 ad false U eV q) (hD : 40 ≤ D) (hG : ∀ (i : Int32) (T : Mm) (q : Unit × Mm), G i T = some q → Cr D yX12_through cX12_through 8 none [.ref (ad 133), .int i] ad false U T eV q) (a1 : Int32) (T : Mm) (h : f_X12_macroAct_281 G  a1 T = some q) : Jr x ad false U T [(0, .ref (ad 133)), (1, .int a1)] 281 [] := by
  unfold f_X12_macroAct_281 at h
  refine r_aload_n C dX12_macroAct_281 rfl 0 rfl ?_
  refine r_getp (f := 1216) (j := 149) C flX12_56 dX12_macroAct_282 kq_133 (by decide) rfl (fun W => pt_1216 kq_133 W) ?_
  refine r_iload_n C dX12_macroAct_285 rfl 1 rfl ?_
  refine r_aload_n C dX12_macroAct_286 rfl 0 rfl ?_
  refine r_geti (f := 1251) C flX12_379 dX12_macroAct_287 kq_133 (by decide) (by decide) rfl ?_
  show Jr _ _ _ _ _ _ 290 _
  refine r_bipush (v := 9) C dX12_macroAct_290 (by decide) ?_
  refine r_ic_ne (tgt := 299) C dX12_macroAct_292 (by decide) h (fun h => ?_) (fun h => ?_)
  · refine r_iconst (v := 0) C dX12_macroAct_299 (by decide) ?_
    refine r_zast (n := 16) C dX12_macroAct_300 kq_149 lq_149 (by decide) h (fun j1 T3 hj2 h => ?_)
    exact r_vret C M dX12_macroAct_301 h
  · refine r_iconst (v := 1) C dX12_macroAct_295 (by decide) ?_
    refine r_goto (tgt := 300) C dX12_macroAct_296 (by decide) ?_
    refine r_zast (n := 16) C dX12_macroAct_300 kq_149 lq_149 (by decide) h (fun j4 T6 hj5 h => ?_)
    exact r_vret C M dX12_macroAct_301 h
noncomputable def f_X12_macroAct (G : Int32 → Mm → Option (Unit × Mm)) (T : Mm) : Option (Unit × Mm) :=
  lb ((gA T 134 145)) fun v1 =>
  if (gI T 1251 133) = 0 then (if (gI T 1230 133) = 0 then (bd (f_X12_define v1 T) fun _ T26 =>
  lb (uI T26 1252 133 1) fun T27 =>
  some ((), T27))
  else (some ((), T)))
  else (if (gI T 1251 133) = 2 then (ix v1 16 fun j23 =>
  if (gA T 148 j23) = 0 then (some ((), T))
  else (if 3 ≤ (gI T 1229 133) then (some ((), T))
  else (bd (G v1 T) fun _ T25 =>
  some ((), T25))))
  else (if (gI T 1251 133) = 3 then (ix v1 16 fun j9 =>
  if (gA T 148 j9) = 0 then (some ((), T))
  else (if 3 ≤ (gI T 1229 133) then (some ((), T))
  else (lb ((gI T 1229 133)) fun v11 =>
  bd (f_X12_save v11 T) fun _ T12 =>
  bd (G v1 T12) fun _ T13 =>
  if (gI T13 1233 133) = 0 then (ix ((v11 * 192) + 0) 960 fun j14 =>
  if (gA T13 134 0) = (gA T13 135 j14) then (ix ((v11 * 192) + 1) 960 fun j18 =>
  if (gA T13 134 1) = (gA T13 135 j18) then (bd (f_X12_back v11 T13) fun _ T20 =>
  some ((), T20))
  else (bd (f_X12_eject G T13) fun _ T21 =>
  bd (f_X12_back v11 T21) fun _ T22 =>
  some ((), T22)))
  else (bd (f_X12_eject G T13) fun _ T16 =>
  bd (f_X12_back v11 T16) fun _ T17 =>
  some ((), T17)))
  else (some ((), T13)))))
  else (if (gI T 1251 133) = 4 then (lb (uA T 134 187 (v1)) fun T8 =>
  some ((), T8))
  else (if (gI T 1251 133) = 5 then (lb (uA T 134 187 ((-1))) fun T7 =>
  some ((), T7))
  else (if (gI T 1251 133) = 6 then (bd (f_X12_macrosGo 0 T) fun _ T6 =>
  some ((), T6))
  else (if (gI T 1251 133) = 7 then (bd (f_X12_macrosGo 1 T) fun _ T5 =>
  some ((), T5))
  else (if (gI T 1251 133) = 8 then (ix v1 16 fun j2 => lb (uA T 148 j2 (0)) fun T4 =>
  some ((), T4))
  else (if (gI T 1251 133) = 9 then (f_X12_macroAct_281 G v1 T)
  else (if (gI T 1251 133) = 10 then (f_X12_macroAct_281 G v1 T)
  else (some ((), T)))))))))))
set_option maxRecDepth 100000 in
set_option maxHeartbeats 4000000 in
theorem s_X12_macroAct {ad : Nat → Nat} {U T : Mm} {q : Unit × Mm} {D : Nat} {G : Int32 → Mm → Option (Unit × Mm)}  (hD : 40 ≤ D) (hG : ∀ (i : Int32) (T : Mm) (q : Unit × Mm), G i T = some q → Cr D yX12_through cX12_through 8 none [.ref (ad 133), .int i] ad false U T eV q) (h : f_X12_macroAct G  T = some q) : Cr (D + 2) yX12_macroAct cX12_macroAct 3 none [.ref (ad 133)] ad false U T eV q := by
  refine cr_of (by decide) (Nat.le_of_ble_eq_true rfl) fun x S0 hn9 C M => ?_
  have C : CB x RX12 cX12_macroAct := C
  refine Jr.eq (lv' := [(0, .ref (ad 133))]) (st' := []) rfl rfl ?_
  unfold f_X12_macroAct at h
  refine r_aload_n C dX12_macroAct_0 rfl 0 rfl ?_
  refine r_getp (f := 1200) (j := 134) C flX12_9 dX12_macroAct_1 kq_133 (by decide) rfl (fun W => pt_1200 kq_133 W) ?_
  refine r_sipush (v := 145) C dX12_macroAct_4 (by decide) ?_
  refine r_ialdc (n := 192) C 145 dX12_macroAct_7 kq_134 lq_134 (vp_lit (by decide)) (by decide) ?_
  refine r_lbI h (fun v1 h => ?_)
  refine r_istore_n (lv' := [(1, .int v1), (0, .ref (ad 133))]) C dX12_macroAct_8 rfl (by rw [hn9]; decide) rfl ?_
  show Jr _ _ _ _ _ _ 9 _
  refine r_aload_n C dX12_macroAct_9 rfl 1 rfl ?_
  refine r_geti (f := 1251) C flX12_379 dX12_macroAct_10 kq_133 (by decide) (by decide) rfl ?_
  refine r_if_ne (tgt := 36) C dX12_macroAct_13 (by decide) h (fun h => ?_) (fun h => ?_)
  · refine r_aload_n C dX12_macroAct_36 rfl 1 rfl ?_
    refine r_geti (f := 1251) C flX12_379 dX12_macroAct_37 kq_133 (by decide) (by decide) rfl ?_
    refine r_iconst (v := 2) C dX12_macroAct_40 (by decide) ?_
    refine r_ic_ne (tgt := 69) C dX12_macroAct_41 (by decide) h (fun h => ?_) (fun h => ?_)
    · refine r_aload_n C dX12_macroAct_69 rfl 1 rfl ?_
      refine r_geti (f := 1251) C flX12_379 dX12_macroAct_70 kq_133 (by decide) (by decide) rfl ?_
      refine r_iconst (v := 3) C dX12_macroAct_73 (by decide) ?_
      refine r_ic_ne (tgt := 170) C dX12_macroAct_74 (by decide) h (fun h => ?_) (fun h => ?_)
      · refine r_aload_n C dX12_macroAct_170 rfl 1 rfl ?_
        refine r_geti (f := 1251) C flX12_379 dX12_macroAct_171 kq_133 (by decide) (by decide) rfl ?_
        refine r_iconst (v := 4) C dX12_macroAct_174 (by decide) ?_
        refine r_ic_ne (tgt := 190) C dX12_macroAct_175 (by decide) h (fun h => ?_) (fun h => ?_)
        · refine r_aload_n C dX12_macroAct_190 rfl 1 rfl ?_
          refine r_geti (f := 1251) C flX12_379 dX12_macroAct_191 kq_133 (by decide) (by decide) rfl ?_
          refine r_iconst (v := 5) C dX12_macroAct_194 (by decide) ?_
          refine r_ic_ne (tgt := 210) C dX12_macroAct_195 (by decide) h (fun h => ?_) (fun h => ?_)
          · refine r_aload_n C dX12_macroAct_210 rfl 1 rfl ?_
            refine r_geti (f := 1251) C flX12_379 dX12_macroAct_211 kq_133 (by decide) (by decide) rfl ?_
            refine r_bipush (v := 6) C dX12_macroAct_214 (by decide) ?_
            refine r_ic_ne (tgt := 227) C dX12_macroAct_216 (by decide) h (fun h => ?_) (fun h => ?_)
            · refine r_aload_n C dX12_macroAct_227 rfl 1 rfl ?_
              refine r_geti (f := 1251) C flX12_379 dX12_macroAct_228 kq_133 (by decide) (by decide) rfl ?_
              refine r_bipush (v := 7) C dX12_macroAct_231 (by decide) ?_
              refine r_ic_ne (tgt := 244) C dX12_macroAct_233 (by decide) h (fun h => ?_) (fun h => ?_)
              · refine r_aload_n C dX12_macroAct_244 rfl 1 rfl ?_
                refine r_geti (f := 1251) C flX12_379 dX12_macroAct_245 kq_133 (by decide) (by decide) rfl ?_
                refine r_bipush (v := 8) C dX12_macroAct_248 (by decide) ?_
                refine r_ic_ne (tgt := 263) C dX12_macroAct_250 (by decide) h (fun h => ?_) (fun h => ?_)
                · refine r_aload_n C dX12_macroAct_263 rfl 1 rfl ?_
                  refine r_geti (f := 1251) C flX12_379 dX12_macroAct_264 kq_133 (by decide) (by decide) rfl ?_
                  refine r_bipush (v := 9) C dX12_macroAct_267 (by decide) ?_
                  refine r_ic_eq (tgt := 281) C dX12_macroAct_269 (by decide) h (fun h => ?_) (fun h => ?_)
                  · refine Jr.sub [1, 0] (lv' := [(0, .ref (ad 133)), (1, .int v1)]) rfl ?_
                    exact s_X12_macroAct_281 hn9 C M hD hG  v1 T h
                  · refine r_aload_n C dX12_macroAct_272 rfl 1 rfl ?_
                    refine r_geti (f := 1251) C flX12_379 dX12_macroAct_273 kq_133 (by decide) (by decide) rfl ?_
                    refine r_bipush (v := 10) C dX12_macroAct_276 (by decide) ?_
                    refine r_ic_ne (tgt := 301) C dX12_macroAct_278 (by decide) h (fun h => ?_) (fun h => ?_)
                    · exact r_vret C M dX12_macroAct_301 h
                    · refine Jr.sub [1, 0] (lv' := [(0, .ref (ad 133)), (1, .int v1)]) rfl ?_
                      exact s_X12_macroAct_281 hn9 C M hD hG  v1 T h
                · refine r_aload_n C dX12_macroAct_253 rfl 1 rfl ?_
                  refine r_getp (f := 1215) (j := 148) C flX12_53 dX12_macroAct_254 kq_133 (by decide) rfl (fun W => pt_1215 kq_133 W) ?_
                  refine r_iload_n C dX12_macroAct_257 rfl 0 rfl ?_
                  refine r_iconst (v := 0) C dX12_macroAct_258 (by decide) ?_
                  refine r_zast (n := 16) C dX12_macroAct_259 kq_148 lq_148 (by decide) h (fun j2 T4 hj3 h => ?_)
                  show Jr _ _ _ _ _ _ 260 _
                  refine r_goto (tgt := 301) C dX12_macroAct_260 (by decide) ?_
                  exact r_vret C M dX12_macroAct_301 h
              · refine r_aload_n C dX12_macroAct_236 rfl 1 rfl ?_
                refine r_iconst (v := 1) C dX12_macroAct_237 (by decide) ?_
                refine r_callVN C M h [.int 1] [] mlX12_251 mcX12_macrosGo (fun q9 e9 => s_X12_macrosGo 1  e9) kq_133 rfl (by omega) (by decide) rfl rfl (Nat.le_of_ble_eq_true rfl) dX12_macroAct_238 (fun _ T5 h => ?_)
                refine r_goto (tgt := 301) C dX12_macroAct_241 (by decide) ?_
                exact r_vret C M dX12_macroAct_301 h
            · refine r_aload_n C dX12_macroAct_219 rfl 1 rfl ?_
              refine r_iconst (v := 0) C dX12_macroAct_220 (by decide) ?_
              refine r_callVN C M h [.int 0] [] mlX12_251 mcX12_macrosGo (fun q9 e9 => s_X12_macrosGo 0  e9) kq_133 rfl (by omega) (by decide) rfl rfl (Nat.le_of_ble_eq_true rfl) dX12_macroAct_221 (fun _ T6 h => ?_)
              refine r_goto (tgt := 301) C dX12_macroAct_224 (by decide) ?_
              exact r_vret C M dX12_macroAct_301 h
          · refine r_aload_n C dX12_macroAct_198 rfl 1 rfl ?_
            refine r_getp (f := 1200) (j := 134) C flX12_9 dX12_macroAct_199 kq_133 (by decide) rfl (fun W => pt_1200 kq_133 W) ?_
            refine r_sipush (v := 187) C dX12_macroAct_202 (by decide) ?_
            refine r_iconst (v := (-1)) C dX12_macroAct_205 (by decide) ?_
            refine r_iastc (n := 192) C 187 dX12_macroAct_206 kq_134 lq_134 (vp_lit (by decide)) (by decide) h (fun T7 h => ?_)
            show Jr _ _ _ _ _ _ 207 _
            refine r_goto (tgt := 301) C dX12_macroAct_207 (by decide) ?_
            exact r_vret C M dX12_macroAct_301 h
        · refine r_aload_n C dX12_macroAct_178 rfl 1 rfl ?_
          refine r_getp (f := 1200) (j := 134) C flX12_9 dX12_macroAct_179 kq_133 (by decide) rfl (fun W => pt_1200 kq_133 W) ?_
          refine r_sipush (v := 187) C dX12_macroAct_182 (by decide) ?_
          refine r_iload_n C dX12_macroAct_185 rfl 0 rfl ?_
          refine r_iastc (n := 192) C 187 dX12_macroAct_186 kq_134 lq_134 (vp_lit (by decide)) (by decide) h (fun T8 h => ?_)
          show Jr _ _ _ _ _ _ 187 _
          refine r_goto (tgt := 301) C dX12_macroAct_187 (by decide) ?_
          exact r_vret C M dX12_macroAct_301 h
      · refine r_aload_n C dX12_macroAct_77 rfl 1 rfl ?_
        refine r_getp (f := 1215) (j := 148) C flX12_53 dX12_macroAct_78 kq_133 (by decide) rfl (fun W => pt_1215 kq_133 W) ?_
        refine r_iload_n C dX12_macroAct_81 rfl 0 rfl ?_
        refine r_zald (n := 16) C dX12_macroAct_82 kq_148 lq_148 h (fun j9 hj10 h => ?_)
        refine r_if_eq (tgt := 301) C dX12_macroAct_83 (by decide) h (fun h => ?_) (fun h => ?_)
        · exact r_vret C M dX12_macroAct_301 h
        · refine r_aload_n C dX12_macroAct_86 rfl 1 rfl ?_
          refine r_geti (f := 1229) C flX12_222 dX12_macroAct_87 kq_133 (by decide) (by decide) rfl ?_
          refine r_iconst (v := 3) C dX12_macroAct_90 (by decide) ?_
          refine r_ic_ge (tgt := 301) C dX12_macroAct_91 (by decide) h (fun h => ?_) (fun h => ?_)
          · exact r_vret C M dX12_macroAct_301 h
          · refine r_aload_n C dX12_macroAct_94 rfl 1 rfl ?_
            refine r_geti (f := 1229) C flX12_222 dX12_macroAct_95 kq_133 (by decide) (by decide) rfl ?_
            refine r_lbI h (fun v11 h => ?_)
            refine r_istore_n (lv' := [(2, .int v11), (1, .int v1), (0, .ref (ad 133))]) C dX12_macroAct_98 rfl (by rw [hn9]; decide) rfl ?_
            refine r_aload_n C dX12_macroAct_99 rfl 2 rfl ?_
            refine r_iload_n C dX12_macroAct_100 rfl 0 rfl ?_
            show Jr _ _ _ _ _ _ 101 _
            refine r_callVN C M h [.int v11] [] mlX12_225 mcX12_save (fun q9 e9 => s_X12_save v11  e9) kq_133 rfl (by omega) (by decide) rfl rfl (Nat.le_of_ble_eq_true rfl) dX12_macroAct_101 (fun _ T12 h => ?_)
            refine r_aload_n C dX12_macroAct_104 rfl 2 rfl ?_
            refine r_iload_n C dX12_macroAct_105 rfl 1 rfl ?_
            refine r_callVN C M h [.int v1] [] mlX12_232 mcX12_through (fun q9 e9 => hG v1 _ q9 e9) kq_133 rfl (by omega) (by decide) rfl rfl (Nat.le_of_ble_eq_true rfl) dX12_macroAct_106 (fun _ T13 h => ?_)
            refine r_aload_n C dX12_macroAct_109 rfl 2 rfl ?_
            refine r_geti (f := 1233) C flX12_191 dX12_macroAct_110 kq_133 (by decide) (by decide) rfl ?_
            show Jr _ _ _ _ _ _ 113 _
            refine r_if_ne (tgt := 167) C dX12_macroAct_113 (by decide) h (fun h => ?_) (fun h => ?_)
            · refine r_goto (tgt := 301) C dX12_macroAct_167 (by decide) ?_
              exact r_vret C M dX12_macroAct_301 h
            · refine r_aload_n C dX12_macroAct_116 rfl 2 rfl ?_
              refine r_getp (f := 1200) (j := 134) C flX12_9 dX12_macroAct_117 kq_133 (by decide) rfl (fun W => pt_1200 kq_133 W) ?_
              refine r_iconst (v := 0) C dX12_macroAct_120 (by decide) ?_
              refine r_ialdc (n := 192) C 0 dX12_macroAct_121 kq_134 lq_134 (vp_lit (by decide)) (by decide) ?_
              refine r_aload_n C dX12_macroAct_122 rfl 2 rfl ?_
              show Jr _ _ _ _ _ _ 123 _
              refine r_getp (f := 1201) (j := 135) C flX12_13 dX12_macroAct_123 kq_133 (by decide) rfl (fun W => pt_1201 kq_133 W) ?_
              refine r_iload_n C dX12_macroAct_126 rfl 0 rfl ?_
              refine r_sipush (v := 192) C dX12_macroAct_127 (by decide) ?_
              refine r_imul C dX12_macroAct_130 rfl ?_
              refine r_iconst (v := 0) C dX12_macroAct_131 (by decide) ?_
              refine r_iadd C dX12_macroAct_132 rfl ?_
              show Jr _ _ _ _ _ _ 133 _
              refine r_iald (n := 960) C dX12_macroAct_133 kq_135 lq_135 h (fun j14 hj15 h => ?_)
              refine r_ic_ne (tgt := 158) C dX12_macroAct_134 (by decide) h (fun h => ?_) (fun h => ?_)
              · refine r_aload_n C dX12_macroAct_158 rfl 2 rfl ?_
                refine r_callVN C M h [] [] mlX12_307 mcX12_eject (fun q9 e9 => s_X12_eject hD (fun i9 T9 q9 e9 => hG i9 T9 q9 e9)   e9) kq_133 rfl (by omega) (by decide) rfl rfl (Nat.le_of_ble_eq_true rfl) dX12_macroAct_159 (fun _ T16 h => ?_)
                refine r_aload_n C dX12_macroAct_162 rfl 2 rfl ?_
                refine r_iload_n C dX12_macroAct_163 rfl 0 rfl ?_
                refine r_callVN C M h [.int v11] [] mlX12_235 mcX12_back (fun q9 e9 => s_X12_back v11  e9) kq_133 rfl (by omega) (by decide) rfl rfl (Nat.le_of_ble_eq_true rfl) dX12_macroAct_164 (fun _ T17 h => ?_)
                show Jr _ _ _ _ _ _ 167 _
                refine r_goto (tgt := 301) C dX12_macroAct_167 (by decide) ?_
                exact r_vret C M dX12_macroAct_301 h
              · refine r_aload_n C dX12_macroAct_137 rfl 2 rfl ?_
                refine r_getp (f := 1200) (j := 134) C flX12_9 dX12_macroAct_138 kq_133 (by decide) rfl (fun W => pt_1200 kq_133 W) ?_
                refine r_iconst (v := 1) C dX12_macroAct_141 (by decide) ?_
                refine r_ialdc (n := 192) C 1 dX12_macroAct_142 kq_134 lq_134 (vp_lit (by decide)) (by decide) ?_
                refine r_aload_n C dX12_macroAct_143 rfl 2 rfl ?_
                show Jr _ _ _ _ _ _ 144 _
                refine r_getp (f := 1201) (j := 135) C flX12_13 dX12_macroAct_144 kq_133 (by decide) rfl (fun W => pt_1201 kq_133 W) ?_
                refine r_iload_n C dX12_macroAct_147 rfl 0 rfl ?_
                refine r_sipush (v := 192) C dX12_macroAct_148 (by decide) ?_
                refine r_imul C dX12_macroAct_151 rfl ?_
                refine r_iconst (v := 1) C dX12_macroAct_152 (by decide) ?_
                refine r_iadd C dX12_macroAct_153 rfl ?_
                show Jr _ _ _ _ _ _ 154 _
                refine r_iald (n := 960) C dX12_macroAct_154 kq_135 lq_135 h (fun j18 hj19 h => ?_)
                refine r_ic_eq (tgt := 162) C dX12_macroAct_155 (by decide) h (fun h => ?_) (fun h => ?_)
                · refine r_aload_n C dX12_macroAct_162 rfl 2 rfl ?_
                  refine r_iload_n C dX12_macroAct_163 rfl 0 rfl ?_
                  refine r_callVN C M h [.int v11] [] mlX12_235 mcX12_back (fun q9 e9 => s_X12_back v11  e9) kq_133 rfl (by omega) (by decide) rfl rfl (Nat.le_of_ble_eq_true rfl) dX12_macroAct_164 (fun _ T20 h => ?_)
                  refine r_goto (tgt := 301) C dX12_macroAct_167 (by decide) ?_
                  exact r_vret C M dX12_macroAct_301 h
                · refine r_aload_n C dX12_macroAct_158 rfl 2 rfl ?_
                  refine r_callVN C M h [] [] mlX12_307 mcX12_eject (fun q9 e9 => s_X12_eject hD (fun i9 T9 q9 e9 => hG i9 T9 q9 e9)   e9) kq_133 rfl (by omega) (by decide) rfl rfl (Nat.le_of_ble_eq_true rfl) dX12_macroAct_159 (fun _ T21 h => ?_)
                  refine r_aload_n C dX12_macroAct_162 rfl 2 rfl ?_
                  refine r_iload_n C dX12_macroAct_163 rfl 0 rfl ?_
                  refine r_callVN C M h [.int v11] [] mlX12_235 mcX12_back (fun q9 e9 => s_X12_back v11  e9) kq_133 rfl (by omega) (by decide) rfl rfl (Nat.le_of_ble_eq_true rfl) dX12_macroAct_164 (fun _ T22 h => ?_)
                  show Jr _ _ _ _ _ _ 167 _
                  refine r_goto (tgt := 301) C dX12_macroAct_167 (by decide) ?_
                  exact r_vret C M dX12_macroAct_301 h
    · refine r_aload_n C dX12_macroAct_44 rfl 1 rfl ?_
      refine r_getp (f := 1215) (j := 148) C flX12_53 dX12_macroAct_45 kq_133 (by decide) rfl (fun W => pt_1215 kq_133 W) ?_
      refine r_iload_n C dX12_macroAct_48 rfl 0 rfl ?_
      refine r_zald (n := 16) C dX12_macroAct_49 kq_148 lq_148 h (fun j23 hj24 h => ?_)
      refine r_if_eq (tgt := 301) C dX12_macroAct_50 (by decide) h (fun h => ?_) (fun h => ?_)
      · exact r_vret C M dX12_macroAct_301 h
      · refine r_aload_n C dX12_macroAct_53 rfl 1 rfl ?_
        refine r_geti (f := 1229) C flX12_222 dX12_macroAct_54 kq_133 (by decide) (by decide) rfl ?_
        refine r_iconst (v := 3) C dX12_macroAct_57 (by decide) ?_
        refine r_ic_ge (tgt := 301) C dX12_macroAct_58 (by decide) h (fun h => ?_) (fun h => ?_)
        · exact r_vret C M dX12_macroAct_301 h
        · refine r_aload_n C dX12_macroAct_61 rfl 1 rfl ?_
          refine r_iload_n C dX12_macroAct_62 rfl 0 rfl ?_
          refine r_callVN C M h [.int v1] [] mlX12_232 mcX12_through (fun q9 e9 => hG v1 _ q9 e9) kq_133 rfl (by omega) (by decide) rfl rfl (Nat.le_of_ble_eq_true rfl) dX12_macroAct_63 (fun _ T25 h => ?_)
          refine r_goto (tgt := 301) C dX12_macroAct_66 (by decide) ?_
          exact r_vret C M dX12_macroAct_301 h
  · refine r_aload_n C dX12_macroAct_16 rfl 1 rfl ?_
    refine r_geti (f := 1230) C flX12_279 dX12_macroAct_17 kq_133 (by decide) (by decide) rfl ?_
    refine r_if_ne (tgt := 301) C dX12_macroAct_20 (by decide) h (fun h => ?_) (fun h => ?_)
    · exact r_vret C M dX12_macroAct_301 h
    · refine r_aload_n C dX12_macroAct_23 rfl 1 rfl ?_
      refine r_iload_n C dX12_macroAct_24 rfl 0 rfl ?_
      refine r_callVN C M h [.int v1] [] mlX12_438 mcX12_define (fun q9 e9 => s_X12_define v1  e9) kq_133 rfl (by omega) (by decide) rfl rfl (Nat.le_of_ble_eq_true rfl) dX12_macroAct_25 (fun _ T26 h => ?_)
      refine r_aload_n C dX12_macroAct_28 rfl 1 rfl ?_
      refine r_iconst (v := 1) C dX12_macroAct_29 (by decide) ?_
      show Jr _ _ _ _ _ _ 30 _
      refine r_putz (f := 1252) C flX12_370 (by decide) rfl rfl (by decide) dX12_macroAct_30 kq_133 rfl h (fun T27 h => ?_)
      refine r_goto (tgt := 301) C dX12_macroAct_33 (by decide) ?_
      exact r_vret C M dX12_macroAct_301 h
