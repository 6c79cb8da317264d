set_option maxRecDepth 100000 in
set_option maxHeartbeats 4000000 in
theorem law_start {x : JX} {b L : Nat} {xs : Nat → Int32} (C : CB x RL cL_law) (M : LM x b) (X : LX x b L xs) (hn9 : x_n x = 4) (hLq : L ≤ 6) : J x 0 0 hp0 [(0, .ref b)] 0 [] := by
  refine j_new (N := 12) C (ci := 11) rfl rfl klL_7 knX11 kiX11 (M.cells (by decide)) (M.slots (by decide)) dL_law_0 (fun q_1 hq_2 => ?_)
  refine j_dup C dL_law_3 rfl ?_
  refine j_callI C [] [.ref q_1] mlL_9 mcX11_init (c_X11_init (nO hp0 q_1 11) q_1 mem_new (kd_nO' (k := 11))) (M.rm (by decide) (by decide) (Nat.le_of_ble_eq_true rfl) (Nat.le_of_ble_eq_true rfl)) rfl rfl (Nat.le_of_ble_eq_true rfl) dL_law_4 (fun r_124 S_125 hp_126 => ?_)
  obtain ⟨rfl, hf_127, e_21, e_22, q_3, q_4, q_5, q_6, q_7, q_8, q_9, q_10, q_11, q_12, q_13, q_14, q_15, q_16, q_17, q_18, q_19, q_20, e_23, e_24, e_25, e_26, e_27, e_28, e_29, e_30, e_31, e_32, e_33, e_34, e_35, e_36, e_37, e_38, e_39, e_40, e_41, e_42, e_43, e_44, e_45, e_46, e_47, e_48, e_49, e_50, e_51, e_52, e_53, e_54, e_55, e_56, e_57, e_58, e_59, e_60, e_61, e_62, e_63, e_64, e_65, e_66, e_67, e_68, e_69, e_70, e_71, e_72, e_73, e_74, e_75, e_76, e_77, e_78, e_79, e_80, e_81, e_82, e_83, e_84, e_85, e_86, e_87, e_88, e_89, e_90, e_91, e_92, e_93, e_94, e_95, e_96, e_97, e_98, e_99, e_100, e_101, e_102, e_103, e_104, e_105, e_106, e_107, e_108, e_109, e_110, e_111, e_112, e_113, e_114, e_115, e_116, e_117, e_118, e_119, e_120, e_121, e_122, e_123⟩ := hp_126
  refine J.eq (st' := [.ref q_1]) rfl rfl rfl ?_
  have hm_128 : q_1 ∈ hL S_125 := hf_127.mem mem_new
  have hk_129 : Kd S_125 q_1 11 := hf_127.kd mem_new (kd_nO' (k := 11))
  have hv_130 : hI S_125 1101 q_1 = 0 := hf_127.fi mem_new (fun h9 => h9.elim (fun q9 => absurd q9.1 (by decide)) (fun q9 => absurd q9.1 (by decide))) (rd_nOI' (k := 11))
  have hv_131 : hI S_125 1105 q_1 = 0 := hf_127.fi mem_new (fun h9 => h9.elim (fun q9 => absurd q9.1 (by decide)) (fun q9 => absurd q9.1 (by decide))) (rd_nOI' (k := 11))
  have hv_132 : hI S_125 1109 q_1 = 0 := hf_127.fi mem_new (fun h9 => h9.elim (fun q9 => absurd q9.1 (by decide)) (fun q9 => absurd q9.1 (by decide))) (rd_nOI' (k := 11))
  refine j_astore_n (lv' := [(1, .ref q_1), (0, .ref b)]) C dL_law_7 rfl (by rw [hn9]; decide) rfl ?_
  refine j_new (N := 80) C (ci := 12) rfl rfl klL_10 knX12 kiX12 (M.cells (by decide)) (M.slots (by decide)) dL_law_8 (fun q_133 hq_134 => ?_)
  refine j_dup C dL_law_11 rfl ?_
  refine j_callI C [] [.ref q_133] mlL_12 mcX12_init (c_X12_init (nO S_125 q_133 12) q_133 mem_new (kd_nO' (k := 12))) (M.rm (by decide) (by decide) (Nat.le_of_ble_eq_true rfl) (Nat.le_of_ble_eq_true rfl)) rfl rfl (Nat.le_of_ble_eq_true rfl) dL_law_12 (fun r_225 S_226 hp_227 => ?_)
  obtain ⟨rfl, hf_228, e_149, e_150, q_135, q_136, q_137, q_138, q_139, q_140, q_141, q_142, q_143, q_144, q_145, q_146, q_147, q_148, e_151, e_152, e_153, e_154, e_155, e_156, e_157, e_158, e_159, e_160, e_161, e_162, e_163, e_164, e_165, e_166, e_167, e_168, e_169, e_170, e_171, e_172, e_173, e_174, e_175, e_176, e_177, e_178, e_179, e_180, e_181, e_182, e_183, e_184, e_185, e_186, e_187, e_188, e_189, e_190, e_191, e_192, e_193, e_194, e_195, e_196, e_197, e_198, e_199, e_200, e_201, e_202, e_203, e_204, e_205, e_206, e_207, e_208, e_209, e_210, e_211, e_212, e_213, e_214, e_215, e_216, e_217, e_218, e_219, e_220, e_221, e_222, e_223, e_224⟩ := hp_227
  refine J.eq (st' := [.ref q_133]) rfl rfl rfl ?_
  have hz_229 : ∀ j, aI S_226 q_11 j = 0 := fun j9 => (hf_228.ai (mem_old e_66) (fun h9 => h9) j9).trans (e_70 j9)
  have hz_230 : ∀ j, aI S_226 q_14 j = 0 := fun j9 => (hf_228.ai (mem_old e_80) (fun h9 => h9) j9).trans (e_84 j9)
  have hz_231 : ∀ j, aI S_226 q_16 j = 0 := fun j9 => (hf_228.ai (mem_old e_90) (fun h9 => h9) j9).trans (e_94 j9)
  have hz_232 : ∀ j, aI S_226 q_18 j = 0 := fun j9 => (hf_228.ai (mem_old e_100) (fun h9 => h9) j9).trans (e_104 j9)
  have hz_233 : ∀ j, aI S_226 q_19 j = 0 := fun j9 => (hf_228.ai (mem_old e_106) (fun h9 => h9) j9).trans (e_110 j9)
  have hz_234 : ∀ j, aI S_226 q_20 j = 0 := fun j9 => (hf_228.ai (mem_old e_112) (fun h9 => h9) j9).trans (e_116 j9)
  have hz_235 : ∀ j, aI S_226 q_3 j = 0 := fun j9 => (hf_228.ai (mem_old e_24) (fun h9 => h9) j9).trans (e_28 j9)
  have hz_236 : ∀ j, aI S_226 q_4 j = 0 := fun j9 => (hf_228.ai (mem_old e_30) (fun h9 => h9) j9).trans (e_34 j9)
  have hz_237 : ∀ j, aI S_226 q_5 j = 0 := fun j9 => (hf_228.ai (mem_old e_36) (fun h9 => h9) j9).trans (e_40 j9)
  have hz_238 : ∀ j, aI S_226 q_6 j = 0 := fun j9 => (hf_228.ai (mem_old e_42) (fun h9 => h9) j9).trans (e_46 j9)
  have hz_239 : ∀ j, aI S_226 q_8 j = 0 := fun j9 => (hf_228.ai (mem_old e_52) (fun h9 => h9) j9).trans (e_56 j9)
  have hm_240 : q_1 ∈ hL S_226 := hf_228.mem (mem_old hm_128)
  have hk_241 : Kd S_226 q_1 11 := hf_228.kd (mem_old hm_128) (kd_nO (k := 12) hq_134 hm_128 hk_129)
  have hm_242 : q_10 ∈ hL S_226 := hf_228.mem (mem_old e_62)
  have hk_243 : Kd S_226 q_10 0 := hf_228.kd (mem_old e_62) (kd_nO (k := 12) hq_134 e_62 e_63)
  have hm_244 : q_11 ∈ hL S_226 := hf_228.mem (mem_old e_66)
  have hk_245 : Kd S_226 q_11 14 := hf_228.kd (mem_old e_66) (kd_nO (k := 12) hq_134 e_66 e_67)
  have hn_246 : Ln S_226 q_11 20000 := hf_228.ln (mem_old e_66) e_68
  have hm_247 : q_12 ∈ hL S_226 := hf_228.mem (mem_old e_72)
  have hk_248 : Kd S_226 q_12 2 := hf_228.kd (mem_old e_72) (kd_nO (k := 12) hq_134 e_72 e_73)
  have hm_249 : q_13 ∈ hL S_226 := hf_228.mem (mem_old e_76)
  have hk_250 : Kd S_226 q_13 8 := hf_228.kd (mem_old e_76) (kd_nO (k := 12) hq_134 e_76 e_77)
  have hm_251 : q_133 ∈ hL S_226 := hf_228.mem mem_new
  have hk_252 : Kd S_226 q_133 12 := hf_228.kd mem_new (kd_nO' (k := 12))
  have hm_253 : q_14 ∈ hL S_226 := hf_228.mem (mem_old e_80)
  have hk_254 : Kd S_226 q_14 14 := hf_228.kd (mem_old e_80) (kd_nO (k := 12) hq_134 e_80 e_81)
  have hn_255 : Ln S_226 q_14 16 := hf_228.ln (mem_old e_80) e_82
  have hm_256 : q_15 ∈ hL S_226 := hf_228.mem (mem_old e_86)
  have hk_257 : Kd S_226 q_15 8 := hf_228.kd (mem_old e_86) (kd_nO (k := 12) hq_134 e_86 e_87)
  have hm_258 : q_16 ∈ hL S_226 := hf_228.mem (mem_old e_90)
  have hk_259 : Kd S_226 q_16 14 := hf_228.kd (mem_old e_90) (kd_nO (k := 12) hq_134 e_90 e_91)
  have hn_260 : Ln S_226 q_16 16 := hf_228.ln (mem_old e_90) e_92
  have hm_261 : q_17 ∈ hL S_226 := hf_228.mem (mem_old e_96)
  have hk_262 : Kd S_226 q_17 8 := hf_228.kd (mem_old e_96) (kd_nO (k := 12) hq_134 e_96 e_97)
  have hm_263 : q_18 ∈ hL S_226 := hf_228.mem (mem_old e_100)
  have hk_264 : Kd S_226 q_18 14 := hf_228.kd (mem_old e_100) (kd_nO (k := 12) hq_134 e_100 e_101)
  have hn_265 : Ln S_226 q_18 16 := hf_228.ln (mem_old e_100) e_102
  have hm_266 : q_19 ∈ hL S_226 := hf_228.mem (mem_old e_106)
  have hk_267 : Kd S_226 q_19 14 := hf_228.kd (mem_old e_106) (kd_nO (k := 12) hq_134 e_106 e_107)
  have hn_268 : Ln S_226 q_19 16 := hf_228.ln (mem_old e_106) e_108
  have hm_269 : q_20 ∈ hL S_226 := hf_228.mem (mem_old e_112)
  have hk_270 : Kd S_226 q_20 14 := hf_228.kd (mem_old e_112) (kd_nO (k := 12) hq_134 e_112 e_113)
  have hn_271 : Ln S_226 q_20 12 := hf_228.ln (mem_old e_112) e_114
  have hm_272 : q_3 ∈ hL S_226 := hf_228.mem (mem_old e_24)
  have hk_273 : Kd S_226 q_3 13 := hf_228.kd (mem_old e_24) (kd_nO (k := 12) hq_134 e_24 e_25)
  have hn_274 : Ln S_226 q_3 8000 := hf_228.ln (mem_old e_24) e_26
  have hm_275 : q_4 ∈ hL S_226 := hf_228.mem (mem_old e_30)
  have hk_276 : Kd S_226 q_4 13 := hf_228.kd (mem_old e_30) (kd_nO (k := 12) hq_134 e_30 e_31)
  have hn_277 : Ln S_226 q_4 12000 := hf_228.ln (mem_old e_30) e_32
  have hm_278 : q_5 ∈ hL S_226 := hf_228.mem (mem_old e_36)
  have hk_279 : Kd S_226 q_5 14 := hf_228.kd (mem_old e_36) (kd_nO (k := 12) hq_134 e_36 e_37)
  have hn_280 : Ln S_226 q_5 6 := hf_228.ln (mem_old e_36) e_38
  have hm_281 : q_6 ∈ hL S_226 := hf_228.mem (mem_old e_42)
  have hk_282 : Kd S_226 q_6 14 := hf_228.kd (mem_old e_42) (kd_nO (k := 12) hq_134 e_42 e_43)
  have hn_283 : Ln S_226 q_6 7 := hf_228.ln (mem_old e_42) e_44
  have hm_284 : q_7 ∈ hL S_226 := hf_228.mem (mem_old e_48)
  have hk_285 : Kd S_226 q_7 6 := hf_228.kd (mem_old e_48) (kd_nO (k := 12) hq_134 e_48 e_49)
  have hm_286 : q_8 ∈ hL S_226 := hf_228.mem (mem_old e_52)
  have hk_287 : Kd S_226 q_8 13 := hf_228.kd (mem_old e_52) (kd_nO (k := 12) hq_134 e_52 e_53)
  have hn_288 : Ln S_226 q_8 60000 := hf_228.ln (mem_old e_52) e_54
  have hm_289 : q_9 ∈ hL S_226 := hf_228.mem (mem_old e_58)
  have hk_290 : Kd S_226 q_9 9 := hf_228.kd (mem_old e_58) (kd_nO (k := 12) hq_134 e_58 e_59)
  have hv_291 : hI S_226 1101 q_1 = 0 := hf_228.fi (mem_old hm_128) (fun h9 => h9.elim (fun q9 => absurd q9.1 (by decide)) (fun q9 => absurd q9.1 (by decide))) (rd_nOI (k := 12) hq_134 hm_128 hv_130)
  have hv_292 : hI S_226 1105 q_1 = 0 := hf_228.fi (mem_old hm_128) (fun h9 => h9.elim (fun q9 => absurd q9.1 (by decide)) (fun q9 => absurd q9.1 (by decide))) (rd_nOI (k := 12) hq_134 hm_128 hv_131)
  have hv_293 : hI S_226 1109 q_1 = 0 := hf_228.fi (mem_old hm_128) (fun h9 => h9.elim (fun q9 => absurd q9.1 (by decide)) (fun q9 => absurd q9.1 (by decide))) (rd_nOI (k := 12) hq_134 hm_128 hv_132)
  have hv_294 : hI S_226 1110 q_1 = (-1) := hf_228.fi (mem_old hm_128) (fun h9 => h9.elim (fun q9 => absurd q9.1 (by decide)) (fun q9 => absurd q9.1 (by decide))) (rd_nOI (k := 12) hq_134 hm_128 e_21)
  have hv_295 : hI S_226 1111 q_1 = (-1) := hf_228.fi (mem_old hm_128) (fun h9 => h9.elim (fun q9 => absurd q9.1 (by decide)) (fun q9 => absurd q9.1 (by decide))) (rd_nOI (k := 12) hq_134 hm_128 e_22)
  have hv_296 : hI S_226 1209 q_133 = 0 := hf_228.fi mem_new (fun h9 => h9.elim (fun q9 => absurd q9.1 (by decide)) (fun q9 => absurd q9.1 (by decide))) (rd_nOI' (k := 12))
  have hv_297 : hI S_226 1222 q_133 = 0 := hf_228.fi mem_new (fun h9 => h9.elim (fun q9 => absurd q9.1 (by decide)) (fun q9 => absurd q9.1 (by decide))) (rd_nOI' (k := 12))
  have hv_298 : hI S_226 1224 q_133 = 0 := hf_228.fi mem_new (fun h9 => h9.elim (fun q9 => absurd q9.1 (by decide)) (fun q9 => absurd q9.1 (by decide))) (rd_nOI' (k := 12))
  have hv_299 : hI S_226 1232 q_133 = 0 := hf_228.fi mem_new (fun h9 => h9.elim (fun q9 => absurd q9.1 (by decide)) (fun q9 => absurd q9.1 (by decide))) (rd_nOI' (k := 12))
  have hv_300 : hI S_226 1233 q_133 = 0 := hf_228.fi mem_new (fun h9 => h9.elim (fun q9 => absurd q9.1 (by decide)) (fun q9 => absurd q9.1 (by decide))) (rd_nOI' (k := 12))
  have hv_301 : hI S_226 1236 q_133 = 0 := hf_228.fi mem_new (fun h9 => h9.elim (fun q9 => absurd q9.1 (by decide)) (fun q9 => absurd q9.1 (by decide))) (rd_nOI' (k := 12))
  have hv_302 : hI S_226 1240 q_133 = 0 := hf_228.fi mem_new (fun h9 => h9.elim (fun q9 => absurd q9.1 (by decide)) (fun q9 => absurd q9.1 (by decide))) (rd_nOI' (k := 12))
  have hv_303 : hI S_226 1242 q_133 = 0 := hf_228.fi mem_new (fun h9 => h9.elim (fun q9 => absurd q9.1 (by decide)) (fun q9 => absurd q9.1 (by decide))) (rd_nOI' (k := 12))
  have hv_304 : hI S_226 1243 q_133 = 0 := hf_228.fi mem_new (fun h9 => h9.elim (fun q9 => absurd q9.1 (by decide)) (fun q9 => absurd q9.1 (by decide))) (rd_nOI' (k := 12))
  have hv_305 : hI S_226 1247 q_133 = 0 := hf_228.fi mem_new (fun h9 => h9.elim (fun q9 => absurd q9.1 (by decide)) (fun q9 => absurd q9.1 (by decide))) (rd_nOI' (k := 12))
  have hv_306 : hI S_226 206 q_12 = 0 := hf_228.fi (mem_old e_72) (fun h9 => h9.elim (fun q9 => absurd q9.1 (by decide)) (fun q9 => absurd q9.1 (by decide))) (rd_nOI (k := 12) hq_134 e_72 e_123)
  have hv_307 : hI S_226 3 q_10 = 0 := hf_228.fi (mem_old e_62) (fun h9 => h9.elim (fun q9 => absurd q9.1 (by decide)) (fun q9 => absurd q9.1 (by decide))) (rd_nOI (k := 12) hq_134 e_62 e_122)
  have hv_308 : hI S_226 601 q_7 = 0 := hf_228.fi (mem_old e_48) (fun h9 => h9.elim (fun q9 => absurd q9.1 (by decide)) (fun q9 => absurd q9.1 (by decide))) (rd_nOI (k := 12) hq_134 e_48 e_117)
  have hv_309 : hI S_226 602 q_7 = 0 := hf_228.fi (mem_old e_48) (fun h9 => h9.elim (fun q9 => absurd q9.1 (by decide)) (fun q9 => absurd q9.1 (by decide))) (rd_nOI (k := 12) hq_134 e_48 e_118)
  have hv_310 : hI S_226 603 q_7 = 0 := hf_228.fi (mem_old e_48) (fun h9 => h9.elim (fun q9 => absurd q9.1 (by decide)) (fun q9 => absurd q9.1 (by decide))) (rd_nOI (k := 12) hq_134 e_48 e_119)
  have hv_311 : hI S_226 916 q_9 = 0 := hf_228.fi (mem_old e_58) (fun h9 => h9.elim (fun q9 => absurd q9.1 (by decide)) (fun q9 => absurd q9.1 (by decide))) (rd_nOI (k := 12) hq_134 e_58 e_120)
  have hv_312 : hI S_226 918 q_9 = 0 := hf_228.fi (mem_old e_58) (fun h9 => h9.elim (fun q9 => absurd q9.1 (by decide)) (fun q9 => absurd q9.1 (by decide))) (rd_nOI (k := 12) hq_134 e_58 e_121)
  have hv_313 : hR S_226 0 q_10 = (some q_11) := hf_228.fr (mem_old e_62) (fun q9 => (fun e9 => absurd (((kd_nO (k := 12) hq_134 e_62 e_63)).symm.trans ((congrArg (hK _) e9).trans (kd_nO' (k := 12)))) (by decide)) q9) (rd_nOR (k := 12) hq_134 e_62 e_69)
  have hv_314 : hR S_226 1100 q_1 = (some q_3) := hf_228.fr (mem_old hm_128) (fun q9 => (fun e9 => absurd (((kd_nO (k := 12) hq_134 hm_128 hk_129)).symm.trans ((congrArg (hK _) e9).trans (kd_nO' (k := 12)))) (by decide)) q9) (rd_nOR (k := 12) hq_134 hm_128 e_27)
  have hv_315 : hR S_226 1102 q_1 = (some q_4) := hf_228.fr (mem_old hm_128) (fun q9 => (fun e9 => absurd (((kd_nO (k := 12) hq_134 hm_128 hk_129)).symm.trans ((congrArg (hK _) e9).trans (kd_nO' (k := 12)))) (by decide)) q9) (rd_nOR (k := 12) hq_134 hm_128 e_33)
  have hv_316 : hR S_226 1103 q_1 = (some q_5) := hf_228.fr (mem_old hm_128) (fun q9 => (fun e9 => absurd (((kd_nO (k := 12) hq_134 hm_128 hk_129)).symm.trans ((congrArg (hK _) e9).trans (kd_nO' (k := 12)))) (by decide)) q9) (rd_nOR (k := 12) hq_134 hm_128 e_39)
  have hv_317 : hR S_226 1104 q_1 = (some q_6) := hf_228.fr (mem_old hm_128) (fun q9 => (fun e9 => absurd (((kd_nO (k := 12) hq_134 hm_128 hk_129)).symm.trans ((congrArg (hK _) e9).trans (kd_nO' (k := 12)))) (by decide)) q9) (rd_nOR (k := 12) hq_134 hm_128 e_45)
  have hv_318 : hR S_226 1106 q_1 = (some q_7) := hf_228.fr (mem_old hm_128) (fun q9 => (fun e9 => absurd (((kd_nO (k := 12) hq_134 hm_128 hk_129)).symm.trans ((congrArg (hK _) e9).trans (kd_nO' (k := 12)))) (by decide)) q9) (rd_nOR (k := 12) hq_134 hm_128 e_50)
  have hv_319 : hR S_226 1107 q_1 = (some q_9) := hf_228.fr (mem_old hm_128) (fun q9 => (fun e9 => absurd (((kd_nO (k := 12) hq_134 hm_128 hk_129)).symm.trans ((congrArg (hK _) e9).trans (kd_nO' (k := 12)))) (by decide)) q9) (rd_nOR (k := 12) hq_134 hm_128 e_60)
  have hv_320 : hR S_226 200 q_12 = (some q_13) := hf_228.fr (mem_old e_72) (fun q9 => (fun e9 => absurd (((kd_nO (k := 12) hq_134 e_72 e_73)).symm.trans ((congrArg (hK _) e9).trans (kd_nO' (k := 12)))) (by decide)) q9) (rd_nOR (k := 12) hq_134 e_72 e_78)
  have hv_321 : hR S_226 600 q_7 = (some q_8) := hf_228.fr (mem_old e_48) (fun q9 => (fun e9 => absurd (((kd_nO (k := 12) hq_134 e_48 e_49)).symm.trans ((congrArg (hK _) e9).trans (kd_nO' (k := 12)))) (by decide)) q9) (rd_nOR (k := 12) hq_134 e_48 e_55)
  have hv_322 : hR S_226 800 q_13 = (some q_14) := hf_228.fr (mem_old e_76) (fun q9 => (fun e9 => absurd (((kd_nO (k := 12) hq_134 e_76 e_77)).symm.trans ((congrArg (hK _) e9).trans (kd_nO' (k := 12)))) (by decide)) q9) (rd_nOR (k := 12) hq_134 e_76 e_83)
  have hv_323 : hR S_226 800 q_15 = (some q_16) := hf_228.fr (mem_old e_86) (fun q9 => (fun e9 => absurd (((kd_nO (k := 12) hq_134 e_86 e_87)).symm.trans ((congrArg (hK _) e9).trans (kd_nO' (k := 12)))) (by decide)) q9) (rd_nOR (k := 12) hq_134 e_86 e_93)
  have hv_324 : hR S_226 800 q_17 = (some q_18) := hf_228.fr (mem_old e_96) (fun q9 => (fun e9 => absurd (((kd_nO (k := 12) hq_134 e_96 e_97)).symm.trans ((congrArg (hK _) e9).trans (kd_nO' (k := 12)))) (by decide)) q9) (rd_nOR (k := 12) hq_134 e_96 e_103)
  have hv_325 : hR S_226 901 q_9 = (some q_10) := hf_228.fr (mem_old e_58) (fun q9 => (fun e9 => absurd (((kd_nO (k := 12) hq_134 e_58 e_59)).symm.trans ((congrArg (hK _) e9).trans (kd_nO' (k := 12)))) (by decide)) q9) (rd_nOR (k := 12) hq_134 e_58 e_64)
  have hv_326 : hR S_226 902 q_9 = (some q_12) := hf_228.fr (mem_old e_58) (fun q9 => (fun e9 => absurd (((kd_nO (k := 12) hq_134 e_58 e_59)).symm.trans ((congrArg (hK _) e9).trans (kd_nO' (k := 12)))) (by decide)) q9) (rd_nOR (k := 12) hq_134 e_58 e_74)
  have hv_327 : hR S_226 903 q_9 = (some q_15) := hf_228.fr (mem_old e_58) (fun q9 => (fun e9 => absurd (((kd_nO (k := 12) hq_134 e_58 e_59)).symm.trans ((congrArg (hK _) e9).trans (kd_nO' (k := 12)))) (by decide)) q9) (rd_nOR (k := 12) hq_134 e_58 e_88)
  have hv_328 : hR S_226 906 q_9 = (some q_17) := hf_228.fr (mem_old e_58) (fun q9 => (fun e9 => absurd (((kd_nO (k := 12) hq_134 e_58 e_59)).symm.trans ((congrArg (hK _) e9).trans (kd_nO' (k := 12)))) (by decide)) q9) (rd_nOR (k := 12) hq_134 e_58 e_98)
  have hv_329 : hR S_226 908 q_9 = (some q_19) := hf_228.fr (mem_old e_58) (fun q9 => (fun e9 => absurd (((kd_nO (k := 12) hq_134 e_58 e_59)).symm.trans ((congrArg (hK _) e9).trans (kd_nO' (k := 12)))) (by decide)) q9) (rd_nOR (k := 12) hq_134 e_58 e_109)
  have hv_330 : hR S_226 917 q_9 = (some q_20) := hf_228.fr (mem_old e_58) (fun q9 => (fun e9 => absurd (((kd_nO (k := 12) hq_134 e_58 e_59)).symm.trans ((congrArg (hK _) e9).trans (kd_nO' (k := 12)))) (by decide)) q9) (rd_nOR (k := 12) hq_134 e_58 e_115)
  refine j_astore_n (lv' := [(2, .ref q_133), (1, .ref q_1), (0, .ref b)]) C dL_law_15 rfl (by rw [hn9]; decide) rfl ?_
  show J _ _ _ _ _ 16 _
  refine j_iconst (v := 0) C dL_law_16 (by decide) ?_
  refine j_istore_n (lv' := [(3, .int 0), (2, .ref q_133), (1, .ref q_1), (0, .ref b)]) C dL_law_17 rfl (by rw [hn9]; decide) rfl ?_
  by_cases hL6 : L = 6
  · skip
    refine j_iload_n C dL_law_18 rfl 0 rfl ?_
    refine j_aload_n C dL_law_19 rfl 3 rfl ?_
    refine j_slen (v := 6) C X dL_law_20 (by rw [hL6]; decide) ?_
    refine j_bipush (v := 6) C dL_law_21 (by decide) ?_
    refine j_isub (v := 0) C dL_law_23 (by decide) ?_
    refine j_ic_gt (tgt := 550) C dL_law_24 (by decide) (fun c9 => absurd c9 (by decide)) (fun c9 => ?_)
    show J _ _ _ _ _ 27 _
    refine j_aload_n C dL_law_27 rfl 3 rfl ?_
    refine j_iload_n C dL_law_28 rfl 0 rfl ?_
    refine j_sld (j := 0) C X dL_law_29 (by rw [hL6]; exact vp_lit (by decide)) (by decide) ?_
    refine j_bipush (v := 31) C dL_law_30 (by decide) ?_
    refine j_iand C dL_law_32 rfl ?_
    refine j_topi (fun y0 hy0 => ?_)
    by_cases hs_33_0 : y0 = 0
    · skip
      subst hs_33_0
      refine j_tabIn (off := 87) (tgt := 120) C dL_law_33 (by decide) (by decide) (by decide) (by decide) ?_
      exact law_0 C M X hn9 S_226 q_1 q_133 _ _ (Nat.le_of_ble_eq_true rfl) (Nat.le_of_ble_eq_true rfl) hL6 hm_240 hk_241 hm_251 hk_252 q_3 hv_314 hm_272 hk_273 hn_274 q_138 e_171 e_168 e_169 e_170 hv_291 hv_298
    by_cases hs_33_1 : y0 = 1
    · skip
      subst hs_33_1
      refine j_tabIn (off := 150) (tgt := 183) C dL_law_33 (by decide) (by decide) (by decide) (by decide) ?_
      exact law_1 C M X hn9 S_226 q_1 q_133 _ _ (Nat.le_of_ble_eq_true rfl) (Nat.le_of_ble_eq_true rfl) hL6 hm_240 hk_241 hm_251 hk_252 hv_291 hv_298
    by_cases hs_33_2 : y0 = 2
    · skip
      subst hs_33_2
      refine j_tabIn (off := 173) (tgt := 206) C dL_law_33 (by decide) (by decide) (by decide) (by decide) ?_
      exact law_2 C M X hn9 S_226 q_1 q_133 _ _ (Nat.le_of_ble_eq_true rfl) (Nat.le_of_ble_eq_true rfl) hL6 hm_240 hk_241 hm_251 hk_252 q_3 hv_314 hm_272 hk_273 hn_274 q_4 hv_315 hm_275 hk_276 hn_277 q_5 hv_316 hm_278 hk_279 hn_280 q_6 hv_317 hm_281 hk_282 hn_283 hz_238 q_138 e_171 e_168 e_169 e_170 q_135 e_155 e_152 e_153 e_154 q_137 e_166 e_163 e_164 e_165 q_136 e_160 e_157 e_158 e_159 e_161 hv_291 hv_292 hv_298 hv_297 (Ne.symm (ne_of_nin e_156 (mem_old e_36))) (Ne.symm (ne_of_nin e_156 (mem_old e_42)))
    by_cases hs_33_3 : y0 = 3
    · skip
      subst hs_33_3
      refine j_tabIn (off := 196) (tgt := 229) C dL_law_33 (by decide) (by decide) (by decide) (by decide) ?_
      exact law_3 C M X hn9 S_226 q_1 q_133 _ _ (Nat.le_of_ble_eq_true rfl) (Nat.le_of_ble_eq_true rfl) hL6 hm_240 hk_241 hm_251 hk_252 hv_292 hv_297
    by_cases hs_33_4 : y0 = 4
    · skip
      subst hs_33_4
      refine j_tabIn (off := 209) (tgt := 242) C dL_law_33 (by decide) (by decide) (by decide) (by decide) ?_
      exact law_4 C M X hn9 S_226 q_1 q_133 _ _ (Nat.le_of_ble_eq_true rfl) (Nat.le_of_ble_eq_true rfl) hL6 hm_240 hk_241 hm_251 hk_252 q_7 hv_318 hm_284 hk_285 q_9 hv_319 hm_289 hk_290 q_10 hv_325 hm_242 hk_243 q_11 hv_313 hm_244 hk_245 hn_246 q_139 e_176 e_173 e_174 e_175 q_137 e_166 e_163 e_164 e_165 hv_292 hv_297
    by_cases hs_33_5 : y0 = 5
    · skip
      subst hs_33_5
      refine j_tabIn (off := 232) (tgt := 265) C dL_law_33 (by decide) (by decide) (by decide) (by decide) ?_
      exact law_5 C M X hn9 S_226 q_1 q_133 _ _ (Nat.le_of_ble_eq_true rfl) (Nat.le_of_ble_eq_true rfl) hL6 hm_240 hk_241 hm_251 hk_252 hv_293 hv_294 hv_295 hv_304 e_149 e_150
    by_cases hs_33_6 : y0 = 6
    · skip
      subst hs_33_6
      refine j_tabIn (off := 255) (tgt := 288) C dL_law_33 (by decide) (by decide) (by decide) (by decide) ?_
      exact law_6 C M X hn9 S_226 q_1 q_133 _ _ (Nat.le_of_ble_eq_true rfl) (Nat.le_of_ble_eq_true rfl) hL6 hm_240 hk_241 hm_251 hk_252 q_7 hv_318 hm_284 hk_285 hv_308 hv_303
    by_cases hs_33_7 : y0 = 7
    · skip
      subst hs_33_7
      refine j_tabIn (off := 268) (tgt := 301) C dL_law_33 (by decide) (by decide) (by decide) (by decide) ?_
      exact law_7 C M X hn9 S_226 q_1 q_133 _ _ (Nat.le_of_ble_eq_true rfl) (Nat.le_of_ble_eq_true rfl) hL6 hm_240 hk_241 hm_251 hk_252 q_7 hv_318 hm_284 hk_285 q_8 hv_321 hm_286 hk_287 hn_288 hv_308 hv_303
    by_cases hs_33_8 : y0 = 8
    · skip
      subst hs_33_8
      refine j_tabIn (off := 291) (tgt := 324) C dL_law_33 (by decide) (by decide) (by decide) (by decide) ?_
      exact law_8 C M X hn9 S_226 q_1 q_133 _ _ (Nat.le_of_ble_eq_true rfl) (Nat.le_of_ble_eq_true rfl) hL6 hm_240 hk_241 hm_251 hk_252 q_7 hv_318 hm_284 hk_285 q_8 hv_321 hm_286 hk_287 hn_288 hv_308 hv_303
    by_cases hs_33_9 : y0 = 9
    · skip
      subst hs_33_9
      refine j_tabIn (off := 304) (tgt := 337) C dL_law_33 (by decide) (by decide) (by decide) (by decide) ?_
      exact law_9 C M X hn9 S_226 q_1 q_133 _ _ (Nat.le_of_ble_eq_true rfl) (Nat.le_of_ble_eq_true rfl) hL6 hm_240 hk_241 hm_251 hk_252 q_3 hv_314 hm_272 hk_273 hn_274 q_7 hv_318 hm_284 hk_285 q_8 hv_321 hm_286 hk_287 hn_288 hv_308 hv_303
    by_cases hs_33_10 : y0 = 10
    · skip
      subst hs_33_10
      refine j_tabIn (off := 317) (tgt := 350) C dL_law_33 (by decide) (by decide) (by decide) (by decide) ?_
      exact law_10 C M X hn9 S_226 q_1 q_133 _ _ (Nat.le_of_ble_eq_true rfl) (Nat.le_of_ble_eq_true rfl) hL6 hm_240 hk_241 hm_251 hk_252 q_7 hv_318 hm_284 hk_285 hv_309 hv_302
    by_cases hs_33_11 : y0 = 11
    · skip
      subst hs_33_11
      refine j_tabIn (off := 330) (tgt := 363) C dL_law_33 (by decide) (by decide) (by decide) (by decide) ?_
      exact law_11 C M X hn9 S_226 q_1 q_133 _ _ (Nat.le_of_ble_eq_true rfl) (Nat.le_of_ble_eq_true rfl) hL6 hm_240 hk_241 hm_251 hk_252 q_7 hv_318 hm_284 hk_285 hv_309 hv_302
    by_cases hs_33_12 : y0 = 12
    · skip
      subst hs_33_12
      refine j_tabIn (off := 353) (tgt := 386) C dL_law_33 (by decide) (by decide) (by decide) (by decide) ?_
      exact law_12 C M X hn9 S_226 q_1 q_133 _ _ (Nat.le_of_ble_eq_true rfl) (Nat.le_of_ble_eq_true rfl) hL6 hm_240 hk_241 hm_251 hk_252 q_7 hv_318 hm_284 hk_285 hv_309 hv_302
    by_cases hs_33_13 : y0 = 13
    · skip
      subst hs_33_13
      refine j_tabIn (off := 376) (tgt := 409) C dL_law_33 (by decide) (by decide) (by decide) (by decide) ?_
      exact law_13 C M X hn9 S_226 q_1 q_133 _ _ (Nat.le_of_ble_eq_true rfl) (Nat.le_of_ble_eq_true rfl) hL6 hm_240 hk_241 hm_251 hk_252 q_7 hv_318 hm_284 hk_285 hv_309 hv_302
    by_cases hs_33_14 : y0 = 14
    · skip
      subst hs_33_14
      refine j_tabIn (off := 419) (tgt := 452) C dL_law_33 (by decide) (by decide) (by decide) (by decide) ?_
      exact law_14 C M X hn9 S_226 q_1 q_133 _ _ (Nat.le_of_ble_eq_true rfl) (Nat.le_of_ble_eq_true rfl) hL6 hm_240 hk_241 hm_251 hk_252 q_7 hv_318 hm_284 hk_285 hv_309 hv_302
    by_cases hs_33_15 : y0 = 15
    · skip
      subst hs_33_15
      refine j_tabIn (off := 452) (tgt := 485) C dL_law_33 (by decide) (by decide) (by decide) (by decide) ?_
      exact law_15 C M X hn9 S_226 q_1 q_133 _ _ (Nat.le_of_ble_eq_true rfl) (Nat.le_of_ble_eq_true rfl) hL6 hm_240 hk_241 hm_251 hk_252 q_9 hv_319 hm_289 hk_290 q_20 hv_330 hm_269 hk_270 hn_271 hv_312 hv_305
    by_cases hs_33_16 : y0 = 16
    · skip
      subst hs_33_16
      refine j_tabIn (off := 475) (tgt := 508) C dL_law_33 (by decide) (by decide) (by decide) (by decide) ?_
      exact law_16 C M X hn9 S_226 q_1 q_133 _ _ (Nat.le_of_ble_eq_true rfl) (Nat.le_of_ble_eq_true rfl) hL6 hm_240 hk_241 hm_251 hk_252 q_9 hv_319 hm_289 hk_290 q_12 hv_326 hm_247 hk_248 q_13 hv_320 hm_249 hk_250 q_14 hv_322 hm_253 hk_254 hn_255 hz_230 q_15 hv_327 hm_256 hk_257 q_16 hv_323 hm_258 hk_259 hn_260 hz_231 q_17 hv_328 hm_261 hk_262 q_18 hv_324 hm_263 hk_264 hn_265 hz_232 q_19 hv_329 hm_266 hk_267 hn_268 q_10 hv_325 hm_242 hk_243 q_140 e_181 e_178 e_179 e_180 e_182 q_141 e_187 e_184 e_185 e_186 e_188 q_142 e_193 e_190 e_191 e_192 e_194 q_143 e_199 e_196 e_197 e_198 hv_306 hv_311 hv_307 hv_296 hv_299 hv_301
    by_cases hs_33_17 : y0 = 17
    · skip
      subst hs_33_17
      refine j_tabIn (off := 498) (tgt := 531) C dL_law_33 (by decide) (by decide) (by decide) (by decide) ?_
      exact law_17 C M X hn9 S_226 q_1 q_133 _ _ (Nat.le_of_ble_eq_true rfl) (Nat.le_of_ble_eq_true rfl) hL6 hm_240 hk_241 hm_251 hk_252 q_9 hv_319 hm_289 hk_290 q_12 hv_326 hm_247 hk_248 q_13 hv_320 hm_249 hk_250 q_14 hv_322 hm_253 hk_254 hn_255 hz_230 q_15 hv_327 hm_256 hk_257 q_16 hv_323 hm_258 hk_259 hn_260 hz_231 q_17 hv_328 hm_261 hk_262 q_18 hv_324 hm_263 hk_264 hn_265 hz_232 q_140 e_181 e_178 e_179 e_180 e_182 q_141 e_187 e_184 e_185 e_186 e_188 q_142 e_193 e_190 e_191 e_192 e_194 q_143 e_199 e_196 e_197 e_198 hv_296 hv_299 hv_301
    refine j_tabOut (tgt := 544) C dL_law_33 (by have t09 : (y0).toInt ≠ 0 := ne_toInt hs_33_0 (by decide); have t19 : (y0).toInt ≠ 1 := ne_toInt hs_33_1 (by decide); have t29 : (y0).toInt ≠ 2 := ne_toInt hs_33_2 (by decide); have t39 : (y0).toInt ≠ 3 := ne_toInt hs_33_3 (by decide); have t49 : (y0).toInt ≠ 4 := ne_toInt hs_33_4 (by decide); have t59 : (y0).toInt ≠ 5 := ne_toInt hs_33_5 (by decide); have t69 : (y0).toInt ≠ 6 := ne_toInt hs_33_6 (by decide); have t79 : (y0).toInt ≠ 7 := ne_toInt hs_33_7 (by decide); have t89 : (y0).toInt ≠ 8 := ne_toInt hs_33_8 (by decide); have t99 : (y0).toInt ≠ 9 := ne_toInt hs_33_9 (by decide); have t109 : (y0).toInt ≠ 10 := ne_toInt hs_33_10 (by decide); have t119 : (y0).toInt ≠ 11 := ne_toInt hs_33_11 (by decide); have t129 : (y0).toInt ≠ 12 := ne_toInt hs_33_12 (by decide); have t139 : (y0).toInt ≠ 13 := ne_toInt hs_33_13 (by decide); have t149 : (y0).toInt ≠ 14 := ne_toInt hs_33_14 (by decide); have t159 : (y0).toInt ≠ 15 := ne_toInt hs_33_15 (by decide); have t169 : (y0).toInt ≠ 16 := ne_toInt hs_33_16 (by decide); have t179 : (y0).toInt ≠ 17 := ne_toInt hs_33_17 (by decide); omega) (by decide) ?_
    exact law_tail C M X hn9 _ q_1 q_133 _ _ (Nat.le_of_ble_eq_true rfl) (Nat.le_of_ble_eq_true rfl) hL6
  · exact law_short C M X hn9 _ q_1 q_133 _ _ (Nat.le_of_ble_eq_true rfl) (Nat.le_of_ble_eq_true rfl) (by omega)
