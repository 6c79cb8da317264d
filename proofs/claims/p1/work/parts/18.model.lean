/-- from S, by new arrays (address, kind, length, field of h), comes S' -/
def Ini (h : Nat) : Hp → List (Nat × Nat × Nat × Nat) → Hp → Prop
  | S, [], S' => S' = S
  | S, e :: l, S' => e.1 ∉ hL S ∧ Ini h (sR (nA S e.1 e.2.1 e.2.2.1) e.2.2.2 h (some e.1)) l S'
theorem Ini_nil {h : Nat} {S : Hp} : Ini h S [] S := rfl
theorem Ini_cons {h q k n f : Nat} {S S1 S' : Hp} {l : List (Nat × Nat × Nat × Nat)} (hq : q ∉ hL S) (e : S1 = sR (nA S q k n) f h (some q)) (hi : Ini h S1 l S') : Ini h S ((q, k, n, f) :: l) S' := ⟨hq, by subst e; exact hi⟩
theorem Ini_all {h : Nat} : ∀ (l : List (Nat × Nat × Nat × Nat)) (S S' : Hp) (fs : List Nat), h ∈ hL S → Ini h S l S' → l.map (fun e => e.2.2.2) = fs → fs.Nodup → Fm (fun _ _ => False) (fun f9 b9 => b9 = h ∧ f9 ∈ fs) (fun _ => False) S S' ∧ ∀ e, e ∈ l → e.1 ∉ hL S ∧ e.1 ∈ hL S' ∧ Kd S' e.1 e.2.1 ∧ Ln S' e.1 e.2.2.1 ∧ hR S' e.2.2.2 h = some e.1 ∧ ∀ j, aI S' e.1 j = 0
  | [], S, S', fs, _, hi, _, _ => by
    cases hi
    exact ⟨Fm.refl, fun e he => absurd he List.not_mem_nil⟩
  | e :: l, S, S', fs, hm, hi, hf, hn => by
    obtain ⟨hq, hi⟩ := hi
    cases fs with
    | nil => cases hf
    | cons f0 fs =>
    injection hf with hf0 hf
    obtain ⟨hnf, hn⟩ := List.nodup_cons.mp hn
    generalize hS1 : sR (nA S e.1 e.2.1 e.2.2.1) e.2.2.2 h (some e.1) = S1 at hi
    have hm1 : h ∈ hL S1 := by rw [← hS1]; exact mem_old hm
    obtain ⟨h1, h2⟩ := Ini_all l S1 S' fs hm1 hi hf hn
    have hF1 : Fm (fun _ _ => False) (fun f9 b9 => b9 = h ∧ f9 ∈ f0 :: fs) (fun _ => False) S S1 := by
      rw [← hS1]
      exact (Fm.refl.nA _ _ hq).sR _ (fun _ => ⟨rfl, by rw [← hf0]; exact List.mem_cons_self⟩)
    have g1 : e.1 ∈ hL S1 := by rw [← hS1]; exact mem_new
    have g2 : hK S1 e.1 = e.2.1 := by rw [← hS1]; exact kd_nA' (k := e.2.1) (n := e.2.2.1)
    have g3 : hN S1 e.1 = e.2.2.1 := by rw [← hS1]; exact ln_nA' (k := e.2.1)
    have g4 : hR S1 e.2.2.2 h = some e.1 := by rw [← hS1]; exact rd_sR
    have g5 : ∀ j, aI S1 e.1 j = 0 := by rw [← hS1]; exact fun j => rd_nAI' (k := e.2.1) (n := e.2.2.1)
    refine ⟨hF1.then h1 (fun a _ => ⟨fun f h9 => h9.elim, fun f h9 => ⟨h9.1, List.mem_cons_of_mem _ h9.2⟩, fun h9 => h9.elim⟩), fun e' he' => ?_⟩
    rcases List.mem_cons.mp he' with rfl | he'
    · refine ⟨hq, h1.mem g1, h1.kd g1 g2, h1.ln g1 g3, h1.fr hm1 (fun h9 => ?_) g4, fun j => (h1.ai g1 (fun h9 => h9) j).trans (g5 j)⟩
      exact hnf (by rw [← hf0]; exact h9.2)
    · obtain ⟨a1, a2⟩ := h2 e' he'
      exact ⟨fun h9 => a1 (hF1.mem h9), a2⟩

theorem Ini_nin {h : Nat} : ∀ (l : List (Nat × Nat × Nat × Nat)) (S S' : Hp), Ini h S l S' → ∀ (j : Nat) (y : Nat × Nat × Nat × Nat), l[j]? = some y → y.1 ∉ hL S
  | [], S, S', _, j, y, hy => by simp at hy
  | e :: l, S, S', hi, j, y, hy => by
    obtain ⟨hq, hi⟩ := hi
    cases j with
    | zero =>
      cases (show e = y by simpa using hy)
      exact hq
    | succ j =>
      have hy : l[j]? = some y := by simpa using hy
      exact fun h9 => Ini_nin l _ S' hi j y hy (mem_old h9)
theorem Ini_ne {h : Nat} : ∀ (l : List (Nat × Nat × Nat × Nat)) (S S' : Hp), Ini h S l S' → ∀ (i j : Nat) (x y : Nat × Nat × Nat × Nat), i < j → l[i]? = some x → l[j]? = some y → x.1 ≠ y.1
  | [], S, S', _, i, j, x, y, _, hx, _ => by simp at hx
  | e :: l, S, S', hi, i, j, x, y, hij, hx, hy => by
    obtain ⟨hq, hi⟩ := hi
    cases j with
    | zero => omega
    | succ j =>
    cases i with
    | succ i => exact Ini_ne l _ S' hi i j x y (by omega) (by simpa using hx) (by simpa using hy)
    | zero =>
      cases (show e = x by simpa using hx)
      have hy : l[j]? = some y := by simpa using hy
      exact ne_of_nin (Ini_nin l _ S' hi j y hy) mem_new

theorem dX12_init_0 : decode cX12_init 0 = .ok (.aload_n 0, 1) := by decide +kernel
theorem dX12_init_1 : decode cX12_init 1 = .ok (.invokespecial 1, 3) := by decide +kernel
theorem dX12_init_4 : decode cX12_init 4 = .ok (.aload_n 0, 1) := by decide +kernel
theorem dX12_init_5 : decode cX12_init 5 = .ok (.sipush 192, 3) := by decide +kernel
theorem dX12_init_8 : decode cX12_init 8 = .ok (.newarray .int, 2) := by decide +kernel
theorem dX12_init_10 : decode cX12_init 10 = .ok (.putfield 9, 3) := by decide +kernel
theorem dX12_init_13 : decode cX12_init 13 = .ok (.aload_n 0, 1) := by decide +kernel
theorem dX12_init_14 : decode cX12_init 14 = .ok (.sipush 960, 3) := by decide +kernel
theorem dX12_init_17 : decode cX12_init 17 = .ok (.newarray .int, 2) := by decide +kernel
theorem dX12_init_19 : decode cX12_init 19 = .ok (.putfield 13, 3) := by decide +kernel
theorem dX12_init_22 : decode cX12_init 22 = .ok (.aload_n 0, 1) := by decide +kernel
theorem dX12_init_23 : decode cX12_init 23 = .ok (.bipush 17, 2) := by decide +kernel
theorem dX12_init_25 : decode cX12_init 25 = .ok (.newarray .boolean, 2) := by decide +kernel
theorem dX12_init_27 : decode cX12_init 27 = .ok (.putfield 16, 3) := by decide +kernel
theorem dX12_init_30 : decode cX12_init 30 = .ok (.aload_n 0, 1) := by decide +kernel
theorem dX12_init_31 : decode cX12_init 31 = .ok (.bipush 17, 2) := by decide +kernel
theorem dX12_init_33 : decode cX12_init 33 = .ok (.newarray .boolean, 2) := by decide +kernel
theorem dX12_init_35 : decode cX12_init 35 = .ok (.putfield 20, 3) := by decide +kernel
theorem dX12_init_38 : decode cX12_init 38 = .ok (.aload_n 0, 1) := by decide +kernel
theorem dX12_init_39 : decode cX12_init 39 = .ok (.bipush 119, 2) := by decide +kernel
theorem dX12_init_41 : decode cX12_init 41 = .ok (.newarray .int, 2) := by decide +kernel
theorem dX12_init_43 : decode cX12_init 43 = .ok (.putfield 23, 3) := by decide +kernel
theorem dX12_init_46 : decode cX12_init 46 = .ok (.aload_n 0, 1) := by decide +kernel
theorem dX12_init_47 : decode cX12_init 47 = .ok (.sipush 4096, 3) := by decide +kernel
theorem dX12_init_50 : decode cX12_init 50 = .ok (.newarray .int, 2) := by decide +kernel
theorem dX12_init_52 : decode cX12_init 52 = .ok (.putfield 26, 3) := by decide +kernel
theorem dX12_init_55 : decode cX12_init 55 = .ok (.aload_n 0, 1) := by decide +kernel
theorem dX12_init_56 : decode cX12_init 56 = .ok (.sipush 400, 3) := by decide +kernel
theorem dX12_init_59 : decode cX12_init 59 = .ok (.newarray .boolean, 2) := by decide +kernel
theorem dX12_init_61 : decode cX12_init 61 = .ok (.putfield 29, 3) := by decide +kernel
theorem dX12_init_64 : decode cX12_init 64 = .ok (.aload_n 0, 1) := by decide +kernel
theorem dX12_init_65 : decode cX12_init 65 = .ok (.sipush 2000, 3) := by decide +kernel
theorem dX12_init_68 : decode cX12_init 68 = .ok (.newarray .int, 2) := by decide +kernel
theorem dX12_init_70 : decode cX12_init 70 = .ok (.putfield 32, 3) := by decide +kernel
theorem dX12_init_73 : decode cX12_init 73 = .ok (.aload_n 0, 1) := by decide +kernel
theorem dX12_init_74 : decode cX12_init 74 = .ok (.sipush 12800, 3) := by decide +kernel
theorem dX12_init_77 : decode cX12_init 77 = .ok (.newarray .int, 2) := by decide +kernel
theorem dX12_init_79 : decode cX12_init 79 = .ok (.putfield 35, 3) := by decide +kernel
theorem dX12_init_82 : decode cX12_init 82 = .ok (.aload_n 0, 1) := by decide +kernel
theorem dX12_init_83 : decode cX12_init 83 = .ok (.bipush 16, 2) := by decide +kernel
theorem dX12_init_85 : decode cX12_init 85 = .ok (.newarray .boolean, 2) := by decide +kernel
theorem dX12_init_87 : decode cX12_init 87 = .ok (.putfield 38, 3) := by decide +kernel
theorem dX12_init_90 : decode cX12_init 90 = .ok (.aload_n 0, 1) := by decide +kernel
theorem dX12_init_91 : decode cX12_init 91 = .ok (.bipush 16, 2) := by decide +kernel
theorem dX12_init_93 : decode cX12_init 93 = .ok (.newarray .boolean, 2) := by decide +kernel
theorem dX12_init_95 : decode cX12_init 95 = .ok (.putfield 41, 3) := by decide +kernel
theorem dX12_init_98 : decode cX12_init 98 = .ok (.aload_n 0, 1) := by decide +kernel
theorem dX12_init_99 : decode cX12_init 99 = .ok (.bipush 16, 2) := by decide +kernel
theorem dX12_init_101 : decode cX12_init 101 = .ok (.newarray .int, 2) := by decide +kernel
theorem dX12_init_103 : decode cX12_init 103 = .ok (.putfield 44, 3) := by decide +kernel
theorem dX12_init_106 : decode cX12_init 106 = .ok (.aload_n 0, 1) := by decide +kernel
theorem dX12_init_107 : decode cX12_init 107 = .ok (.bipush 16, 2) := by decide +kernel
theorem dX12_init_109 : decode cX12_init 109 = .ok (.newarray .int, 2) := by decide +kernel
theorem dX12_init_111 : decode cX12_init 111 = .ok (.putfield 47, 3) := by decide +kernel
theorem dX12_init_114 : decode cX12_init 114 = .ok (.aload_n 0, 1) := by decide +kernel
theorem dX12_init_115 : decode cX12_init 115 = .ok (.sipush 256, 3) := by decide +kernel
theorem dX12_init_118 : decode cX12_init 118 = .ok (.newarray .int, 2) := by decide +kernel
theorem dX12_init_120 : decode cX12_init 120 = .ok (.putfield 50, 3) := by decide +kernel
theorem dX12_init_123 : decode cX12_init 123 = .ok (.aload_n 0, 1) := by decide +kernel
theorem dX12_init_124 : decode cX12_init 124 = .ok (.bipush 16, 2) := by decide +kernel
theorem dX12_init_126 : decode cX12_init 126 = .ok (.newarray .boolean, 2) := by decide +kernel
theorem dX12_init_128 : decode cX12_init 128 = .ok (.putfield 53, 3) := by decide +kernel
theorem dX12_init_131 : decode cX12_init 131 = .ok (.aload_n 0, 1) := by decide +kernel
theorem dX12_init_132 : decode cX12_init 132 = .ok (.bipush 16, 2) := by decide +kernel
theorem dX12_init_134 : decode cX12_init 134 = .ok (.newarray .boolean, 2) := by decide +kernel
theorem dX12_init_136 : decode cX12_init 136 = .ok (.putfield 56, 3) := by decide +kernel
theorem dX12_init_139 : decode cX12_init 139 = .ok (.aload_n 0, 1) := by decide +kernel
theorem dX12_init_140 : decode cX12_init 140 = .ok (.bipush 16, 2) := by decide +kernel
theorem dX12_init_142 : decode cX12_init 142 = .ok (.newarray .int, 2) := by decide +kernel
theorem dX12_init_144 : decode cX12_init 144 = .ok (.putfield 59, 3) := by decide +kernel
theorem dX12_init_147 : decode cX12_init 147 = .ok (.aload_n 0, 1) := by decide +kernel
theorem dX12_init_148 : decode cX12_init 148 = .ok (.sipush 24000, 3) := by decide +kernel
theorem dX12_init_151 : decode cX12_init 151 = .ok (.newarray .byte, 2) := by decide +kernel
theorem dX12_init_153 : decode cX12_init 153 = .ok (.putfield 62, 3) := by decide +kernel
theorem dX12_init_156 : decode cX12_init 156 = .ok (.aload_n 0, 1) := by decide +kernel
theorem dX12_init_157 : decode cX12_init 157 = .ok (.sipush 12000, 3) := by decide +kernel
theorem dX12_init_160 : decode cX12_init 160 = .ok (.newarray .byte, 2) := by decide +kernel
theorem dX12_init_162 : decode cX12_init 162 = .ok (.putfield 66, 3) := by decide +kernel
theorem dX12_init_165 : decode cX12_init 165 = .ok (.aload_n 0, 1) := by decide +kernel
theorem dX12_init_166 : decode cX12_init 166 = .ok (.bipush 7, 2) := by decide +kernel
theorem dX12_init_168 : decode cX12_init 168 = .ok (.newarray .int, 2) := by decide +kernel
theorem dX12_init_170 : decode cX12_init 170 = .ok (.putfield 69, 3) := by decide +kernel
theorem dX12_init_173 : decode cX12_init 173 = .ok (.aload_n 0, 1) := by decide +kernel
theorem dX12_init_174 : decode cX12_init 174 = .ok (.bipush 6, 2) := by decide +kernel
theorem dX12_init_176 : decode cX12_init 176 = .ok (.newarray .int, 2) := by decide +kernel
theorem dX12_init_178 : decode cX12_init 178 = .ok (.putfield 72, 3) := by decide +kernel
theorem dX12_init_181 : decode cX12_init 181 = .ok (.aload_n 0, 1) := by decide +kernel
theorem dX12_init_182 : decode cX12_init 182 = .ok (.sipush 8000, 3) := by decide +kernel
theorem dX12_init_185 : decode cX12_init 185 = .ok (.newarray .byte, 2) := by decide +kernel
theorem dX12_init_187 : decode cX12_init 187 = .ok (.putfield 75, 3) := by decide +kernel
theorem dX12_init_190 : decode cX12_init 190 = .ok (.aload_n 0, 1) := by decide +kernel
theorem dX12_init_191 : decode cX12_init 191 = .ok (.sipush 6000, 3) := by decide +kernel
theorem dX12_init_194 : decode cX12_init 194 = .ok (.newarray .byte, 2) := by decide +kernel
theorem dX12_init_196 : decode cX12_init 196 = .ok (.putfield 78, 3) := by decide +kernel
theorem dX12_init_199 : decode cX12_init 199 = .ok (.aload_n 0, 1) := by decide +kernel
theorem dX12_init_200 : decode cX12_init 200 = .ok (.ldc 81, 2) := by decide +kernel
theorem dX12_init_202 : decode cX12_init 202 = .ok (.newarray .byte, 2) := by decide +kernel
theorem dX12_init_204 : decode cX12_init 204 = .ok (.putfield 82, 3) := by decide +kernel
theorem dX12_init_207 : decode cX12_init 207 = .ok (.aload_n 0, 1) := by decide +kernel
theorem dX12_init_208 : decode cX12_init 208 = .ok (.ldc 85, 2) := by decide +kernel
theorem dX12_init_210 : decode cX12_init 210 = .ok (.newarray .byte, 2) := by decide +kernel
theorem dX12_init_212 : decode cX12_init 212 = .ok (.putfield 86, 3) := by decide +kernel
theorem dX12_init_215 : decode cX12_init 215 = .ok (.aload_n 0, 1) := by decide +kernel
theorem dX12_init_216 : decode cX12_init 216 = .ok (.bipush 12, 2) := by decide +kernel
theorem dX12_init_218 : decode cX12_init 218 = .ok (.newarray .int, 2) := by decide +kernel
theorem dX12_init_220 : decode cX12_init 220 = .ok (.putfield 89, 3) := by decide +kernel
theorem dX12_init_223 : decode cX12_init 223 = .ok (.aload_n 0, 1) := by decide +kernel
theorem dX12_init_224 : decode cX12_init 224 = .ok (.bipush 12, 2) := by decide +kernel
theorem dX12_init_226 : decode cX12_init 226 = .ok (.newarray .int, 2) := by decide +kernel
theorem dX12_init_228 : decode cX12_init 228 = .ok (.putfield 92, 3) := by decide +kernel
theorem dX12_init_231 : decode cX12_init 231 = .ok (.aload_n 0, 1) := by decide +kernel
theorem dX12_init_232 : decode cX12_init 232 = .ok (.ldc 95, 2) := by decide +kernel
theorem dX12_init_234 : decode cX12_init 234 = .ok (.newarray .byte, 2) := by decide +kernel
theorem dX12_init_236 : decode cX12_init 236 = .ok (.putfield 96, 3) := by decide +kernel
theorem dX12_init_239 : decode cX12_init 239 = .ok (.aload_n 0, 1) := by decide +kernel
theorem dX12_init_240 : decode cX12_init 240 = .ok (.bipush 12, 2) := by decide +kernel
theorem dX12_init_242 : decode cX12_init 242 = .ok (.newarray .int, 2) := by decide +kernel
theorem dX12_init_244 : decode cX12_init 244 = .ok (.putfield 99, 3) := by decide +kernel
theorem dX12_init_247 : decode cX12_init 247 = .ok (.aload_n 0, 1) := by decide +kernel
theorem dX12_init_248 : decode cX12_init 248 = .ok (.bipush 20, 2) := by decide +kernel
theorem dX12_init_250 : decode cX12_init 250 = .ok (.newarray .int, 2) := by decide +kernel
theorem dX12_init_252 : decode cX12_init 252 = .ok (.putfield 102, 3) := by decide +kernel
theorem dX12_init_255 : decode cX12_init 255 = .ok (.aload_n 0, 1) := by decide +kernel
theorem dX12_init_256 : decode cX12_init 256 = .ok (.bipush 17, 2) := by decide +kernel
theorem dX12_init_258 : decode cX12_init 258 = .ok (.newarray .boolean, 2) := by decide +kernel
theorem dX12_init_260 : decode cX12_init 260 = .ok (.putfield 105, 3) := by decide +kernel
theorem dX12_init_263 : decode cX12_init 263 = .ok (.aload_n 0, 1) := by decide +kernel
theorem dX12_init_264 : decode cX12_init 264 = .ok (.sipush 148, 3) := by decide +kernel
theorem dX12_init_267 : decode cX12_init 267 = .ok (.newarray .int, 2) := by decide +kernel
theorem dX12_init_269 : decode cX12_init 269 = .ok (.putfield 108, 3) := by decide +kernel
theorem dX12_init_272 : decode cX12_init 272 = .ok (.aload_n 0, 1) := by decide +kernel
theorem dX12_init_273 : decode cX12_init 273 = .ok (.sipush 148, 3) := by decide +kernel
theorem dX12_init_276 : decode cX12_init 276 = .ok (.newarray .int, 2) := by decide +kernel
theorem dX12_init_278 : decode cX12_init 278 = .ok (.putfield 111, 3) := by decide +kernel
theorem dX12_init_281 : decode cX12_init 281 = .ok (.aload_n 0, 1) := by decide +kernel
theorem dX12_init_282 : decode cX12_init 282 = .ok (.sipush 640, 3) := by decide +kernel
theorem dX12_init_285 : decode cX12_init 285 = .ok (.newarray .int, 2) := by decide +kernel
theorem dX12_init_287 : decode cX12_init 287 = .ok (.putfield 114, 3) := by decide +kernel
theorem dX12_init_290 : decode cX12_init 290 = .ok (.aload_n 0, 1) := by decide +kernel
theorem dX12_init_291 : decode cX12_init 291 = .ok (.sipush 640, 3) := by decide +kernel
theorem dX12_init_294 : decode cX12_init 294 = .ok (.newarray .int, 2) := by decide +kernel
theorem dX12_init_296 : decode cX12_init 296 = .ok (.putfield 117, 3) := by decide +kernel
theorem dX12_init_299 : decode cX12_init 299 = .ok (.aload_n 0, 1) := by decide +kernel
theorem dX12_init_300 : decode cX12_init 300 = .ok (.bipush 12, 2) := by decide +kernel
theorem dX12_init_302 : decode cX12_init 302 = .ok (.newarray .int, 2) := by decide +kernel
theorem dX12_init_304 : decode cX12_init 304 = .ok (.putfield 120, 3) := by decide +kernel
theorem dX12_init_307 : decode cX12_init 307 = .ok (.aload_n 0, 1) := by decide +kernel
theorem dX12_init_308 : decode cX12_init 308 = .ok (.sipush 400, 3) := by decide +kernel
theorem dX12_init_311 : decode cX12_init 311 = .ok (.newarray .int, 2) := by decide +kernel
theorem dX12_init_313 : decode cX12_init 313 = .ok (.putfield 123, 3) := by decide +kernel
theorem dX12_init_316 : decode cX12_init 316 = .ok (.aload_n 0, 1) := by decide +kernel
theorem dX12_init_317 : decode cX12_init 317 = .ok (.sipush 400, 3) := by decide +kernel
theorem dX12_init_320 : decode cX12_init 320 = .ok (.newarray .long, 2) := by decide +kernel
theorem dX12_init_322 : decode cX12_init 322 = .ok (.putfield 126, 3) := by decide +kernel
theorem dX12_init_325 : decode cX12_init 325 = .ok (.aload_n 0, 1) := by decide +kernel
theorem dX12_init_326 : decode cX12_init 326 = .ok (.bipush 40, 2) := by decide +kernel
theorem dX12_init_328 : decode cX12_init 328 = .ok (.newarray .long, 2) := by decide +kernel
theorem dX12_init_330 : decode cX12_init 330 = .ok (.putfield 130, 3) := by decide +kernel
theorem dX12_init_333 : decode cX12_init 333 = .ok (.aload_n 0, 1) := by decide +kernel
theorem dX12_init_334 : decode cX12_init 334 = .ok (.bipush 40, 2) := by decide +kernel
theorem dX12_init_336 : decode cX12_init 336 = .ok (.newarray .long, 2) := by decide +kernel
theorem dX12_init_338 : decode cX12_init 338 = .ok (.putfield 133, 3) := by decide +kernel
theorem dX12_init_341 : decode cX12_init 341 = .ok (.iconst 0, 1) := by decide +kernel
theorem dX12_init_342 : decode cX12_init 342 = .ok (.istore_n 1, 1) := by decide +kernel
theorem dX12_init_343 : decode cX12_init 343 = .ok (.iload_n 1, 1) := by decide +kernel
theorem dX12_init_344 : decode cX12_init 344 = .ok (.sipush 4096, 3) := by decide +kernel
theorem dX12_init_347 : decode cX12_init 347 = .ok (.if_icmp .ge 16, 3) := by decide +kernel
theorem dX12_init_350 : decode cX12_init 350 = .ok (.aload_n 0, 1) := by decide +kernel
theorem dX12_init_351 : decode cX12_init 351 = .ok (.getfield 26, 3) := by decide +kernel
theorem dX12_init_354 : decode cX12_init 354 = .ok (.iload_n 1, 1) := by decide +kernel
theorem dX12_init_355 : decode cX12_init 355 = .ok (.iconst (-1), 1) := by decide +kernel
theorem dX12_init_356 : decode cX12_init 356 = .ok (.iastore, 1) := by decide +kernel
theorem dX12_init_357 : decode cX12_init 357 = .ok (.iinc 1 1, 3) := by decide +kernel
theorem dX12_init_360 : decode cX12_init 360 = .ok (.goto (-17), 3) := by decide +kernel
theorem dX12_init_363 : decode cX12_init 363 = .ok (.aload_n 0, 1) := by decide +kernel
theorem dX12_init_364 : decode cX12_init 364 = .ok (.getfield 16, 3) := by decide +kernel
theorem dX12_init_367 : decode cX12_init 367 = .ok (.bipush 16, 2) := by decide +kernel
theorem dX12_init_369 : decode cX12_init 369 = .ok (.iconst 1, 1) := by decide +kernel
theorem dX12_init_370 : decode cX12_init 370 = .ok (.bastore, 1) := by decide +kernel
theorem dX12_init_371 : decode cX12_init 371 = .ok (.aload_n 0, 1) := by decide +kernel
theorem dX12_init_372 : decode cX12_init 372 = .ok (.getfield 23, 3) := by decide +kernel
theorem dX12_init_375 : decode cX12_init 375 = .ok (.bipush 113, 2) := by decide +kernel
theorem dX12_init_377 : decode cX12_init 377 = .ok (.sipush 720, 3) := by decide +kernel
theorem dX12_init_380 : decode cX12_init 380 = .ok (.iastore, 1) := by decide +kernel
theorem dX12_init_381 : decode cX12_init 381 = .ok (.aload_n 0, 1) := by decide +kernel
theorem dX12_init_382 : decode cX12_init 382 = .ok (.getfield 23, 3) := by decide +kernel
theorem dX12_init_385 : decode cX12_init 385 = .ok (.bipush 114, 2) := by decide +kernel
theorem dX12_init_387 : decode cX12_init 387 = .ok (.bipush 8, 2) := by decide +kernel
theorem dX12_init_389 : decode cX12_init 389 = .ok (.iastore, 1) := by decide +kernel
theorem dX12_init_390 : decode cX12_init 390 = .ok (.aload_n 0, 1) := by decide +kernel
theorem dX12_init_391 : decode cX12_init 391 = .ok (.iconst (-1), 1) := by decide +kernel
theorem dX12_init_392 : decode cX12_init 392 = .ok (.putfield 136, 3) := by decide +kernel
theorem dX12_init_395 : decode cX12_init 395 = .ok (.aload_n 0, 1) := by decide +kernel
theorem dX12_init_396 : decode cX12_init 396 = .ok (.iconst (-1), 1) := by decide +kernel
theorem dX12_init_397 : decode cX12_init 397 = .ok (.putfield 140, 3) := by decide +kernel
theorem dX12_init_400 : decode cX12_init 400 = .ok (.aload_n 0, 1) := by decide +kernel
theorem dX12_init_401 : decode cX12_init 401 = .ok (.invokevirtual 143, 3) := by decide +kernel
theorem dX12_init_404 : decode cX12_init 404 = .ok (.return_, 1) := by decide +kernel
set_option maxRecDepth 100000 in
set_option maxHeartbeats 4000000 in
theorem c_X12_init (S : Hp) (h : Nat) (hm : h ∈ hL S) (hk : hK S h = 12) : Ct 7 yX12_init cX12_init 2 none 40 965531 [.ref h] S (fun r S' => r = none ∧ Fm (fun f9 b9 => (f9 = 1244 ∧ b9 = h) ∨ (f9 = 1245 ∧ b9 = h)) (fun f9 b9 => b9 = h) (fun _ => False) S S' ∧ hI S' 1244 h = (-1) ∧ hI S' 1245 h = (-1) ∧ ∃ p0 p1 p2 p3 p4 p5 p6 p7 p8 p9 p10 p11 p12 p13 : Nat, p0 ∉ hL S ∧ p0 ∈ hL S' ∧ Kd S' p0 13 ∧ Ln S' p0 12000 ∧ hR S' 1219 h = some p0 ∧ p1 ∉ hL S ∧ p1 ∈ hL S' ∧ Kd S' p1 14 ∧ Ln S' p1 7 ∧ hR S' 1220 h = some p1 ∧ (∀ j, aI S' p1 j = 0) ∧ p2 ∉ hL S ∧ p2 ∈ hL S' ∧ Kd S' p2 14 ∧ Ln S' p2 6 ∧ hR S' 1221 h = some p2 ∧ p3 ∉ hL S ∧ p3 ∈ hL S' ∧ Kd S' p3 13 ∧ Ln S' p3 8000 ∧ hR S' 1223 h = some p3 ∧ p4 ∉ hL S ∧ p4 ∈ hL S' ∧ Kd S' p4 13 ∧ Ln S' p4 64000 ∧ hR S' 1234 h = some p4 ∧ p5 ∉ hL S ∧ p5 ∈ hL S' ∧ Kd S' p5 17 ∧ Ln S' p5 17 ∧ hR S' 1202 h = some p5 ∧ (∀ j, j < 16 → aI S' p5 j = 0) ∧ p6 ∉ hL S ∧ p6 ∈ hL S' ∧ Kd S' p6 17 ∧ Ln S' p6 16 ∧ hR S' 1210 h = some p6 ∧ (∀ j, aI S' p6 j = 0) ∧ p7 ∉ hL S ∧ p7 ∈ hL S' ∧ Kd S' p7 17 ∧ Ln S' p7 16 ∧ hR S' 1215 h = some p7 ∧ (∀ j, aI S' p7 j = 0) ∧ p8 ∉ hL S ∧ p8 ∈ hL S' ∧ Kd S' p8 14 ∧ Ln S' p8 16 ∧ hR S' 1217 h = some p8 ∧ p9 ∉ hL S ∧ p9 ∈ hL S' ∧ Kd S' p9 13 ∧ Ln S' p9 60008 ∧ hR S' 1241 h = some p9 ∧ p10 ∉ hL S ∧ p10 ∈ hL S' ∧ Kd S' p10 17 ∧ Ln S' p10 17 ∧ hR S' 1203 h = some p10 ∧ p11 ∉ hL S ∧ p11 ∈ hL S' ∧ Kd S' p11 17 ∧ Ln S' p11 16 ∧ hR S' 1211 h = some p11 ∧ p12 ∉ hL S ∧ p12 ∈ hL S' ∧ Kd S' p12 17 ∧ Ln S' p12 16 ∧ hR S' 1216 h = some p12 ∧ p13 ∉ hL S ∧ p13 ∈ hL S' ∧ Kd S' p13 14 ∧ Ln S' p13 12 ∧ hR S' 1246 h = some p13) := by
  refine ct_of (by decide) (Nat.le_of_ble_eq_true rfl) fun x hn9 C M hm9 => ?_
  have C : CB x RX12 cX12_init := C
  refine J.eq (lv' := [(0, .ref h)]) rfl rfl rfl ?_
  refine j_aload_n C dX12_init_0 rfl 0 rfl ?_
  refine j_objInit C mlX12_1 nst_oi (M.fl (by decide)) dX12_init_1 ?_
  refine j_aload_n C dX12_init_4 rfl 0 rfl ?_
  refine j_sipush (v := 192) C dX12_init_5 (by decide) ?_
  refine j_newI (N := 192) C ka_int (by decide) (by decide) (Nat.le_of_ble_eq_true rfl) (M.cells (by decide)) (M.slots (Nat.le_of_ble_eq_true rfl)) dX12_init_8 (fun q_1 hq_2 => ?_)
  refine j_putrF (f := 1200) C hm9 flX12_9o (by decide) rfl rfl dX12_init_10 (mem_old hm) (kd_nA (k := 14) (n := 192) hq_2 hm hk) rfl ?_
  obtain ⟨S_3, eS_4⟩ : ∃ S9 : Hp, S9 = (sR (nA S q_1 14 192) 1200 h (some q_1)) := ⟨_, rfl⟩
  refine J.eq (S' := S_3) eS_4.symm rfl rfl ?_
  have hm_5 : h ∈ hL S_3 := by rw [eS_4]; exact (mem_old hm)
  have hk_6 : Kd S_3 h 12 := by rw [eS_4]; exact (kd_nA (k := 14) (n := 192) hq_2 hm hk)
  show J _ _ _ _ _ 13 _
  refine j_aload_n C dX12_init_13 rfl 0 rfl ?_
  refine j_sipush (v := 960) C dX12_init_14 (by decide) ?_
  refine j_newI (N := 960) C ka_int (by decide) (by decide) (Nat.le_of_ble_eq_true rfl) (M.cells (by decide)) (M.slots (Nat.le_of_ble_eq_true rfl)) dX12_init_17 (fun q_7 hq_8 => ?_)
  refine j_putrF (f := 1201) C hm9 flX12_13o (by decide) rfl rfl dX12_init_19 (mem_old hm_5) (kd_nA (k := 14) (n := 960) hq_8 hm_5 hk_6) rfl ?_
  obtain ⟨S_9, eS_10⟩ : ∃ S9 : Hp, S9 = (sR (nA S_3 q_7 14 960) 1201 h (some q_7)) := ⟨_, rfl⟩
  refine J.eq (S' := S_9) eS_10.symm rfl rfl ?_
  have hm_11 : h ∈ hL S_9 := by rw [eS_10]; exact (mem_old hm_5)
  have hk_12 : Kd S_9 h 12 := by rw [eS_10]; exact (kd_nA (k := 14) (n := 960) hq_8 hm_5 hk_6)
  show J _ _ _ _ _ 22 _
  refine j_aload_n C dX12_init_22 rfl 0 rfl ?_
  refine j_bipush (v := 17) C dX12_init_23 (by decide) ?_
  refine j_newZ (N := 17) C ka_boolean (by decide) (by decide) (Nat.le_of_ble_eq_true rfl) (M.cells (by decide)) (M.slots (Nat.le_of_ble_eq_true rfl)) dX12_init_25 (fun q_13 hq_14 => ?_)
  refine j_putrF (f := 1202) C hm9 flX12_16o (by decide) rfl rfl dX12_init_27 (mem_old hm_11) (kd_nA (k := 17) (n := 17) hq_14 hm_11 hk_12) rfl ?_
  obtain ⟨S_15, eS_16⟩ : ∃ S9 : Hp, S9 = (sR (nA S_9 q_13 17 17) 1202 h (some q_13)) := ⟨_, rfl⟩
  refine J.eq (S' := S_15) eS_16.symm rfl rfl ?_
  have hm_17 : h ∈ hL S_15 := by rw [eS_16]; exact (mem_old hm_11)
  have hk_18 : Kd S_15 h 12 := by rw [eS_16]; exact (kd_nA (k := 17) (n := 17) hq_14 hm_11 hk_12)
  show J _ _ _ _ _ 30 _
  refine j_aload_n C dX12_init_30 rfl 0 rfl ?_
  refine j_bipush (v := 17) C dX12_init_31 (by decide) ?_
  refine j_newZ (N := 17) C ka_boolean (by decide) (by decide) (Nat.le_of_ble_eq_true rfl) (M.cells (by decide)) (M.slots (Nat.le_of_ble_eq_true rfl)) dX12_init_33 (fun q_19 hq_20 => ?_)
  refine j_putrF (f := 1203) C hm9 flX12_20o (by decide) rfl rfl dX12_init_35 (mem_old hm_17) (kd_nA (k := 17) (n := 17) hq_20 hm_17 hk_18) rfl ?_
  obtain ⟨S_21, eS_22⟩ : ∃ S9 : Hp, S9 = (sR (nA S_15 q_19 17 17) 1203 h (some q_19)) := ⟨_, rfl⟩
  refine J.eq (S' := S_21) eS_22.symm rfl rfl ?_
  have hm_23 : h ∈ hL S_21 := by rw [eS_22]; exact (mem_old hm_17)
  have hk_24 : Kd S_21 h 12 := by rw [eS_22]; exact (kd_nA (k := 17) (n := 17) hq_20 hm_17 hk_18)
  show J _ _ _ _ _ 38 _
  refine j_aload_n C dX12_init_38 rfl 0 rfl ?_
  refine j_bipush (v := 119) C dX12_init_39 (by decide) ?_
  refine j_newI (N := 119) C ka_int (by decide) (by decide) (Nat.le_of_ble_eq_true rfl) (M.cells (by decide)) (M.slots (Nat.le_of_ble_eq_true rfl)) dX12_init_41 (fun q_25 hq_26 => ?_)
  refine j_putrF (f := 1204) C hm9 flX12_23o (by decide) rfl rfl dX12_init_43 (mem_old hm_23) (kd_nA (k := 14) (n := 119) hq_26 hm_23 hk_24) rfl ?_
  obtain ⟨S_27, eS_28⟩ : ∃ S9 : Hp, S9 = (sR (nA S_21 q_25 14 119) 1204 h (some q_25)) := ⟨_, rfl⟩
  refine J.eq (S' := S_27) eS_28.symm rfl rfl ?_
  have hm_29 : h ∈ hL S_27 := by rw [eS_28]; exact (mem_old hm_23)
  have hk_30 : Kd S_27 h 12 := by rw [eS_28]; exact (kd_nA (k := 14) (n := 119) hq_26 hm_23 hk_24)
  show J _ _ _ _ _ 46 _
  refine j_aload_n C dX12_init_46 rfl 0 rfl ?_
  refine j_sipush (v := 4096) C dX12_init_47 (by decide) ?_
  refine j_newI (N := 4096) C ka_int (by decide) (by decide) (Nat.le_of_ble_eq_true rfl) (M.cells (by decide)) (M.slots (Nat.le_of_ble_eq_true rfl)) dX12_init_50 (fun q_31 hq_32 => ?_)
  refine j_putrF (f := 1205) C hm9 flX12_26o (by decide) rfl rfl dX12_init_52 (mem_old hm_29) (kd_nA (k := 14) (n := 4096) hq_32 hm_29 hk_30) rfl ?_
  obtain ⟨S_33, eS_34⟩ : ∃ S9 : Hp, S9 = (sR (nA S_27 q_31 14 4096) 1205 h (some q_31)) := ⟨_, rfl⟩
  refine J.eq (S' := S_33) eS_34.symm rfl rfl ?_
  have hm_35 : h ∈ hL S_33 := by rw [eS_34]; exact (mem_old hm_29)
  have hk_36 : Kd S_33 h 12 := by rw [eS_34]; exact (kd_nA (k := 14) (n := 4096) hq_32 hm_29 hk_30)
  show J _ _ _ _ _ 55 _
  refine j_aload_n C dX12_init_55 rfl 0 rfl ?_
  refine j_sipush (v := 400) C dX12_init_56 (by decide) ?_
  refine j_newZ (N := 400) C ka_boolean (by decide) (by decide) (Nat.le_of_ble_eq_true rfl) (M.cells (by decide)) (M.slots (Nat.le_of_ble_eq_true rfl)) dX12_init_59 (fun q_37 hq_38 => ?_)
  refine j_putrF (f := 1206) C hm9 flX12_29o (by decide) rfl rfl dX12_init_61 (mem_old hm_35) (kd_nA (k := 17) (n := 400) hq_38 hm_35 hk_36) rfl ?_
  obtain ⟨S_39, eS_40⟩ : ∃ S9 : Hp, S9 = (sR (nA S_33 q_37 17 400) 1206 h (some q_37)) := ⟨_, rfl⟩
  refine J.eq (S' := S_39) eS_40.symm rfl rfl ?_
  have hm_41 : h ∈ hL S_39 := by rw [eS_40]; exact (mem_old hm_35)
  have hk_42 : Kd S_39 h 12 := by rw [eS_40]; exact (kd_nA (k := 17) (n := 400) hq_38 hm_35 hk_36)
  show J _ _ _ _ _ 64 _
  refine j_aload_n C dX12_init_64 rfl 0 rfl ?_
  refine j_sipush (v := 2000) C dX12_init_65 (by decide) ?_
  refine j_newI (N := 2000) C ka_int (by decide) (by decide) (Nat.le_of_ble_eq_true rfl) (M.cells (by decide)) (M.slots (Nat.le_of_ble_eq_true rfl)) dX12_init_68 (fun q_43 hq_44 => ?_)
  refine j_putrF (f := 1207) C hm9 flX12_32o (by decide) rfl rfl dX12_init_70 (mem_old hm_41) (kd_nA (k := 14) (n := 2000) hq_44 hm_41 hk_42) rfl ?_
  obtain ⟨S_45, eS_46⟩ : ∃ S9 : Hp, S9 = (sR (nA S_39 q_43 14 2000) 1207 h (some q_43)) := ⟨_, rfl⟩
  refine J.eq (S' := S_45) eS_46.symm rfl rfl ?_
  have hm_47 : h ∈ hL S_45 := by rw [eS_46]; exact (mem_old hm_41)
  have hk_48 : Kd S_45 h 12 := by rw [eS_46]; exact (kd_nA (k := 14) (n := 2000) hq_44 hm_41 hk_42)
  show J _ _ _ _ _ 73 _
  refine j_aload_n C dX12_init_73 rfl 0 rfl ?_
  refine j_sipush (v := 12800) C dX12_init_74 (by decide) ?_
  refine j_newI (N := 12800) C ka_int (by decide) (by decide) (Nat.le_of_ble_eq_true rfl) (M.cells (by decide)) (M.slots (Nat.le_of_ble_eq_true rfl)) dX12_init_77 (fun q_49 hq_50 => ?_)
  refine j_putrF (f := 1208) C hm9 flX12_35o (by decide) rfl rfl dX12_init_79 (mem_old hm_47) (kd_nA (k := 14) (n := 12800) hq_50 hm_47 hk_48) rfl ?_
  obtain ⟨S_51, eS_52⟩ : ∃ S9 : Hp, S9 = (sR (nA S_45 q_49 14 12800) 1208 h (some q_49)) := ⟨_, rfl⟩
  refine J.eq (S' := S_51) eS_52.symm rfl rfl ?_
  have hm_53 : h ∈ hL S_51 := by rw [eS_52]; exact (mem_old hm_47)
  have hk_54 : Kd S_51 h 12 := by rw [eS_52]; exact (kd_nA (k := 14) (n := 12800) hq_50 hm_47 hk_48)
  show J _ _ _ _ _ 82 _
  refine j_aload_n C dX12_init_82 rfl 0 rfl ?_
  refine j_bipush (v := 16) C dX12_init_83 (by decide) ?_
  refine j_newZ (N := 16) C ka_boolean (by decide) (by decide) (Nat.le_of_ble_eq_true rfl) (M.cells (by decide)) (M.slots (Nat.le_of_ble_eq_true rfl)) dX12_init_85 (fun q_55 hq_56 => ?_)
  refine j_putrF (f := 1210) C hm9 flX12_38o (by decide) rfl rfl dX12_init_87 (mem_old hm_53) (kd_nA (k := 17) (n := 16) hq_56 hm_53 hk_54) rfl ?_
  obtain ⟨S_57, eS_58⟩ : ∃ S9 : Hp, S9 = (sR (nA S_51 q_55 17 16) 1210 h (some q_55)) := ⟨_, rfl⟩
  refine J.eq (S' := S_57) eS_58.symm rfl rfl ?_
  have hm_59 : h ∈ hL S_57 := by rw [eS_58]; exact (mem_old hm_53)
  have hk_60 : Kd S_57 h 12 := by rw [eS_58]; exact (kd_nA (k := 17) (n := 16) hq_56 hm_53 hk_54)
  show J _ _ _ _ _ 90 _
  refine j_aload_n C dX12_init_90 rfl 0 rfl ?_
  refine j_bipush (v := 16) C dX12_init_91 (by decide) ?_
  refine j_newZ (N := 16) C ka_boolean (by decide) (by decide) (Nat.le_of_ble_eq_true rfl) (M.cells (by decide)) (M.slots (Nat.le_of_ble_eq_true rfl)) dX12_init_93 (fun q_61 hq_62 => ?_)
  refine j_putrF (f := 1211) C hm9 flX12_41o (by decide) rfl rfl dX12_init_95 (mem_old hm_59) (kd_nA (k := 17) (n := 16) hq_62 hm_59 hk_60) rfl ?_
  obtain ⟨S_63, eS_64⟩ : ∃ S9 : Hp, S9 = (sR (nA S_57 q_61 17 16) 1211 h (some q_61)) := ⟨_, rfl⟩
  refine J.eq (S' := S_63) eS_64.symm rfl rfl ?_
  have hm_65 : h ∈ hL S_63 := by rw [eS_64]; exact (mem_old hm_59)
  have hk_66 : Kd S_63 h 12 := by rw [eS_64]; exact (kd_nA (k := 17) (n := 16) hq_62 hm_59 hk_60)
  show J _ _ _ _ _ 98 _
  refine j_aload_n C dX12_init_98 rfl 0 rfl ?_
  refine j_bipush (v := 16) C dX12_init_99 (by decide) ?_
  refine j_newI (N := 16) C ka_int (by decide) (by decide) (Nat.le_of_ble_eq_true rfl) (M.cells (by decide)) (M.slots (Nat.le_of_ble_eq_true rfl)) dX12_init_101 (fun q_67 hq_68 => ?_)
  refine j_putrF (f := 1212) C hm9 flX12_44o (by decide) rfl rfl dX12_init_103 (mem_old hm_65) (kd_nA (k := 14) (n := 16) hq_68 hm_65 hk_66) rfl ?_
  obtain ⟨S_69, eS_70⟩ : ∃ S9 : Hp, S9 = (sR (nA S_63 q_67 14 16) 1212 h (some q_67)) := ⟨_, rfl⟩
  refine J.eq (S' := S_69) eS_70.symm rfl rfl ?_
  have hm_71 : h ∈ hL S_69 := by rw [eS_70]; exact (mem_old hm_65)
  have hk_72 : Kd S_69 h 12 := by rw [eS_70]; exact (kd_nA (k := 14) (n := 16) hq_68 hm_65 hk_66)
  show J _ _ _ _ _ 106 _
  refine j_aload_n C dX12_init_106 rfl 0 rfl ?_
  refine j_bipush (v := 16) C dX12_init_107 (by decide) ?_
  refine j_newI (N := 16) C ka_int (by decide) (by decide) (Nat.le_of_ble_eq_true rfl) (M.cells (by decide)) (M.slots (Nat.le_of_ble_eq_true rfl)) dX12_init_109 (fun q_73 hq_74 => ?_)
  refine j_putrF (f := 1213) C hm9 flX12_47o (by decide) rfl rfl dX12_init_111 (mem_old hm_71) (kd_nA (k := 14) (n := 16) hq_74 hm_71 hk_72) rfl ?_
  obtain ⟨S_75, eS_76⟩ : ∃ S9 : Hp, S9 = (sR (nA S_69 q_73 14 16) 1213 h (some q_73)) := ⟨_, rfl⟩
  refine J.eq (S' := S_75) eS_76.symm rfl rfl ?_
  have hm_77 : h ∈ hL S_75 := by rw [eS_76]; exact (mem_old hm_71)
  have hk_78 : Kd S_75 h 12 := by rw [eS_76]; exact (kd_nA (k := 14) (n := 16) hq_74 hm_71 hk_72)
  show J _ _ _ _ _ 114 _
  refine j_aload_n C dX12_init_114 rfl 0 rfl ?_
  refine j_sipush (v := 256) C dX12_init_115 (by decide) ?_
  refine j_newI (N := 256) C ka_int (by decide) (by decide) (Nat.le_of_ble_eq_true rfl) (M.cells (by decide)) (M.slots (Nat.le_of_ble_eq_true rfl)) dX12_init_118 (fun q_79 hq_80 => ?_)
  refine j_putrF (f := 1214) C hm9 flX12_50o (by decide) rfl rfl dX12_init_120 (mem_old hm_77) (kd_nA (k := 14) (n := 256) hq_80 hm_77 hk_78) rfl ?_
  obtain ⟨S_81, eS_82⟩ : ∃ S9 : Hp, S9 = (sR (nA S_75 q_79 14 256) 1214 h (some q_79)) := ⟨_, rfl⟩
  refine J.eq (S' := S_81) eS_82.symm rfl rfl ?_
  have hm_83 : h ∈ hL S_81 := by rw [eS_82]; exact (mem_old hm_77)
  have hk_84 : Kd S_81 h 12 := by rw [eS_82]; exact (kd_nA (k := 14) (n := 256) hq_80 hm_77 hk_78)
  show J _ _ _ _ _ 123 _
  refine j_aload_n C dX12_init_123 rfl 0 rfl ?_
  refine j_bipush (v := 16) C dX12_init_124 (by decide) ?_
  refine j_newZ (N := 16) C ka_boolean (by decide) (by decide) (Nat.le_of_ble_eq_true rfl) (M.cells (by decide)) (M.slots (Nat.le_of_ble_eq_true rfl)) dX12_init_126 (fun q_85 hq_86 => ?_)
  refine j_putrF (f := 1215) C hm9 flX12_53o (by decide) rfl rfl dX12_init_128 (mem_old hm_83) (kd_nA (k := 17) (n := 16) hq_86 hm_83 hk_84) rfl ?_
  obtain ⟨S_87, eS_88⟩ : ∃ S9 : Hp, S9 = (sR (nA S_81 q_85 17 16) 1215 h (some q_85)) := ⟨_, rfl⟩
  refine J.eq (S' := S_87) eS_88.symm rfl rfl ?_
  have hm_89 : h ∈ hL S_87 := by rw [eS_88]; exact (mem_old hm_83)
  have hk_90 : Kd S_87 h 12 := by rw [eS_88]; exact (kd_nA (k := 17) (n := 16) hq_86 hm_83 hk_84)
  show J _ _ _ _ _ 131 _
  refine j_aload_n C dX12_init_131 rfl 0 rfl ?_
  refine j_bipush (v := 16) C dX12_init_132 (by decide) ?_
  refine j_newZ (N := 16) C ka_boolean (by decide) (by decide) (Nat.le_of_ble_eq_true rfl) (M.cells (by decide)) (M.slots (Nat.le_of_ble_eq_true rfl)) dX12_init_134 (fun q_91 hq_92 => ?_)
  refine j_putrF (f := 1216) C hm9 flX12_56o (by decide) rfl rfl dX12_init_136 (mem_old hm_89) (kd_nA (k := 17) (n := 16) hq_92 hm_89 hk_90) rfl ?_
  obtain ⟨S_93, eS_94⟩ : ∃ S9 : Hp, S9 = (sR (nA S_87 q_91 17 16) 1216 h (some q_91)) := ⟨_, rfl⟩
  refine J.eq (S' := S_93) eS_94.symm rfl rfl ?_
  have hm_95 : h ∈ hL S_93 := by rw [eS_94]; exact (mem_old hm_89)
  have hk_96 : Kd S_93 h 12 := by rw [eS_94]; exact (kd_nA (k := 17) (n := 16) hq_92 hm_89 hk_90)
  show J _ _ _ _ _ 139 _
  refine j_aload_n C dX12_init_139 rfl 0 rfl ?_
  refine j_bipush (v := 16) C dX12_init_140 (by decide) ?_
  refine j_newI (N := 16) C ka_int (by decide) (by decide) (Nat.le_of_ble_eq_true rfl) (M.cells (by decide)) (M.slots (Nat.le_of_ble_eq_true rfl)) dX12_init_142 (fun q_97 hq_98 => ?_)
  refine j_putrF (f := 1217) C hm9 flX12_59o (by decide) rfl rfl dX12_init_144 (mem_old hm_95) (kd_nA (k := 14) (n := 16) hq_98 hm_95 hk_96) rfl ?_
  obtain ⟨S_99, eS_100⟩ : ∃ S9 : Hp, S9 = (sR (nA S_93 q_97 14 16) 1217 h (some q_97)) := ⟨_, rfl⟩
  refine J.eq (S' := S_99) eS_100.symm rfl rfl ?_
  have hm_101 : h ∈ hL S_99 := by rw [eS_100]; exact (mem_old hm_95)
  have hk_102 : Kd S_99 h 12 := by rw [eS_100]; exact (kd_nA (k := 14) (n := 16) hq_98 hm_95 hk_96)
  show J _ _ _ _ _ 147 _
  refine j_aload_n C dX12_init_147 rfl 0 rfl ?_
  refine j_sipush (v := 24000) C dX12_init_148 (by decide) ?_
  refine j_newB (N := 24000) C ka_byte (by decide) (by decide) (Nat.le_of_ble_eq_true rfl) (M.cells (by decide)) (M.slots (Nat.le_of_ble_eq_true rfl)) dX12_init_151 (fun q_103 hq_104 => ?_)
  refine j_putrF (f := 1218) C hm9 flX12_62o (by decide) rfl rfl dX12_init_153 (mem_old hm_101) (kd_nA (k := 13) (n := 24000) hq_104 hm_101 hk_102) rfl ?_
  obtain ⟨S_105, eS_106⟩ : ∃ S9 : Hp, S9 = (sR (nA S_99 q_103 13 24000) 1218 h (some q_103)) := ⟨_, rfl⟩
  refine J.eq (S' := S_105) eS_106.symm rfl rfl ?_
  have hm_107 : h ∈ hL S_105 := by rw [eS_106]; exact (mem_old hm_101)
  have hk_108 : Kd S_105 h 12 := by rw [eS_106]; exact (kd_nA (k := 13) (n := 24000) hq_104 hm_101 hk_102)
  show J _ _ _ _ _ 156 _
  refine j_aload_n C dX12_init_156 rfl 0 rfl ?_
  refine j_sipush (v := 12000) C dX12_init_157 (by decide) ?_
  refine j_newB (N := 12000) C ka_byte (by decide) (by decide) (Nat.le_of_ble_eq_true rfl) (M.cells (by decide)) (M.slots (Nat.le_of_ble_eq_true rfl)) dX12_init_160 (fun q_109 hq_110 => ?_)
  refine j_putrF (f := 1219) C hm9 flX12_66o (by decide) rfl rfl dX12_init_162 (mem_old hm_107) (kd_nA (k := 13) (n := 12000) hq_110 hm_107 hk_108) rfl ?_
  obtain ⟨S_111, eS_112⟩ : ∃ S9 : Hp, S9 = (sR (nA S_105 q_109 13 12000) 1219 h (some q_109)) := ⟨_, rfl⟩
  refine J.eq (S' := S_111) eS_112.symm rfl rfl ?_
  have hm_113 : h ∈ hL S_111 := by rw [eS_112]; exact (mem_old hm_107)
  have hk_114 : Kd S_111 h 12 := by rw [eS_112]; exact (kd_nA (k := 13) (n := 12000) hq_110 hm_107 hk_108)
  show J _ _ _ _ _ 165 _
  refine j_aload_n C dX12_init_165 rfl 0 rfl ?_
  refine j_bipush (v := 7) C dX12_init_166 (by decide) ?_
  refine j_newI (N := 7) C ka_int (by decide) (by decide) (Nat.le_of_ble_eq_true rfl) (M.cells (by decide)) (M.slots (Nat.le_of_ble_eq_true rfl)) dX12_init_168 (fun q_115 hq_116 => ?_)
  refine j_putrF (f := 1220) C hm9 flX12_69o (by decide) rfl rfl dX12_init_170 (mem_old hm_113) (kd_nA (k := 14) (n := 7) hq_116 hm_113 hk_114) rfl ?_
  obtain ⟨S_117, eS_118⟩ : ∃ S9 : Hp, S9 = (sR (nA S_111 q_115 14 7) 1220 h (some q_115)) := ⟨_, rfl⟩
  refine J.eq (S' := S_117) eS_118.symm rfl rfl ?_
  have hm_119 : h ∈ hL S_117 := by rw [eS_118]; exact (mem_old hm_113)
  have hk_120 : Kd S_117 h 12 := by rw [eS_118]; exact (kd_nA (k := 14) (n := 7) hq_116 hm_113 hk_114)
  show J _ _ _ _ _ 173 _
  refine j_aload_n C dX12_init_173 rfl 0 rfl ?_
  refine j_bipush (v := 6) C dX12_init_174 (by decide) ?_
  refine j_newI (N := 6) C ka_int (by decide) (by decide) (Nat.le_of_ble_eq_true rfl) (M.cells (by decide)) (M.slots (Nat.le_of_ble_eq_true rfl)) dX12_init_176 (fun q_121 hq_122 => ?_)
  refine j_putrF (f := 1221) C hm9 flX12_72o (by decide) rfl rfl dX12_init_178 (mem_old hm_119) (kd_nA (k := 14) (n := 6) hq_122 hm_119 hk_120) rfl ?_
  obtain ⟨S_123, eS_124⟩ : ∃ S9 : Hp, S9 = (sR (nA S_117 q_121 14 6) 1221 h (some q_121)) := ⟨_, rfl⟩
  refine J.eq (S' := S_123) eS_124.symm rfl rfl ?_
  have hm_125 : h ∈ hL S_123 := by rw [eS_124]; exact (mem_old hm_119)
  have hk_126 : Kd S_123 h 12 := by rw [eS_124]; exact (kd_nA (k := 14) (n := 6) hq_122 hm_119 hk_120)
  show J _ _ _ _ _ 181 _
  refine j_aload_n C dX12_init_181 rfl 0 rfl ?_
  refine j_sipush (v := 8000) C dX12_init_182 (by decide) ?_
  refine j_newB (N := 8000) C ka_byte (by decide) (by decide) (Nat.le_of_ble_eq_true rfl) (M.cells (by decide)) (M.slots (Nat.le_of_ble_eq_true rfl)) dX12_init_185 (fun q_127 hq_128 => ?_)
  refine j_putrF (f := 1223) C hm9 flX12_75o (by decide) rfl rfl dX12_init_187 (mem_old hm_125) (kd_nA (k := 13) (n := 8000) hq_128 hm_125 hk_126) rfl ?_
  obtain ⟨S_129, eS_130⟩ : ∃ S9 : Hp, S9 = (sR (nA S_123 q_127 13 8000) 1223 h (some q_127)) := ⟨_, rfl⟩
  refine J.eq (S' := S_129) eS_130.symm rfl rfl ?_
  have hm_131 : h ∈ hL S_129 := by rw [eS_130]; exact (mem_old hm_125)
  have hk_132 : Kd S_129 h 12 := by rw [eS_130]; exact (kd_nA (k := 13) (n := 8000) hq_128 hm_125 hk_126)
  show J _ _ _ _ _ 190 _
  refine j_aload_n C dX12_init_190 rfl 0 rfl ?_
  refine j_sipush (v := 6000) C dX12_init_191 (by decide) ?_
  refine j_newB (N := 6000) C ka_byte (by decide) (by decide) (Nat.le_of_ble_eq_true rfl) (M.cells (by decide)) (M.slots (Nat.le_of_ble_eq_true rfl)) dX12_init_194 (fun q_133 hq_134 => ?_)
  refine j_putrF (f := 1225) C hm9 flX12_78o (by decide) rfl rfl dX12_init_196 (mem_old hm_131) (kd_nA (k := 13) (n := 6000) hq_134 hm_131 hk_132) rfl ?_
  obtain ⟨S_135, eS_136⟩ : ∃ S9 : Hp, S9 = (sR (nA S_129 q_133 13 6000) 1225 h (some q_133)) := ⟨_, rfl⟩
  refine J.eq (S' := S_135) eS_136.symm rfl rfl ?_
  have hm_137 : h ∈ hL S_135 := by rw [eS_136]; exact (mem_old hm_131)
  have hk_138 : Kd S_135 h 12 := by rw [eS_136]; exact (kd_nA (k := 13) (n := 6000) hq_134 hm_131 hk_132)
  show J _ _ _ _ _ 199 _
  refine j_aload_n C dX12_init_199 rfl 0 rfl ?_
  refine j_ldc (v := 64000) C dX12_init_200 kcX12_81 ?_
  refine j_newB (N := 64000) C ka_byte (by decide) (by decide) (Nat.le_of_ble_eq_true rfl) (M.cells (by decide)) (M.slots (Nat.le_of_ble_eq_true rfl)) dX12_init_202 (fun q_139 hq_140 => ?_)
  refine j_putrF (f := 1234) C hm9 flX12_82o (by decide) rfl rfl dX12_init_204 (mem_old hm_137) (kd_nA (k := 13) (n := 64000) hq_140 hm_137 hk_138) rfl ?_
  obtain ⟨S_141, eS_142⟩ : ∃ S9 : Hp, S9 = (sR (nA S_135 q_139 13 64000) 1234 h (some q_139)) := ⟨_, rfl⟩
  refine J.eq (S' := S_141) eS_142.symm rfl rfl ?_
  have hm_143 : h ∈ hL S_141 := by rw [eS_142]; exact (mem_old hm_137)
  have hk_144 : Kd S_141 h 12 := by rw [eS_142]; exact (kd_nA (k := 13) (n := 64000) hq_140 hm_137 hk_138)
  show J _ _ _ _ _ 207 _
  refine j_aload_n C dX12_init_207 rfl 0 rfl ?_
  refine j_ldc (v := 768000) C dX12_init_208 kcX12_85 ?_
  refine j_newB (N := 768000) C ka_byte (by decide) (by decide) (Nat.le_of_ble_eq_true rfl) (M.cells (by decide)) (M.slots (Nat.le_of_ble_eq_true rfl)) dX12_init_210 (fun q_145 hq_146 => ?_)
  refine j_putrF (f := 1237) C hm9 flX12_86o (by decide) rfl rfl dX12_init_212 (mem_old hm_143) (kd_nA (k := 13) (n := 768000) hq_146 hm_143 hk_144) rfl ?_
  obtain ⟨S_147, eS_148⟩ : ∃ S9 : Hp, S9 = (sR (nA S_141 q_145 13 768000) 1237 h (some q_145)) := ⟨_, rfl⟩
  refine J.eq (S' := S_147) eS_148.symm rfl rfl ?_
  have hm_149 : h ∈ hL S_147 := by rw [eS_148]; exact (mem_old hm_143)
  have hk_150 : Kd S_147 h 12 := by rw [eS_148]; exact (kd_nA (k := 13) (n := 768000) hq_146 hm_143 hk_144)
  show J _ _ _ _ _ 215 _
  refine j_aload_n C dX12_init_215 rfl 0 rfl ?_
  refine j_bipush (v := 12) C dX12_init_216 (by decide) ?_
  refine j_newI (N := 12) C ka_int (by decide) (by decide) (Nat.le_of_ble_eq_true rfl) (M.cells (by decide)) (M.slots (Nat.le_of_ble_eq_true rfl)) dX12_init_218 (fun q_151 hq_152 => ?_)
  refine j_putrF (f := 1238) C hm9 flX12_89o (by decide) rfl rfl dX12_init_220 (mem_old hm_149) (kd_nA (k := 14) (n := 12) hq_152 hm_149 hk_150) rfl ?_
  obtain ⟨S_153, eS_154⟩ : ∃ S9 : Hp, S9 = (sR (nA S_147 q_151 14 12) 1238 h (some q_151)) := ⟨_, rfl⟩
  refine J.eq (S' := S_153) eS_154.symm rfl rfl ?_
  have hm_155 : h ∈ hL S_153 := by rw [eS_154]; exact (mem_old hm_149)
  have hk_156 : Kd S_153 h 12 := by rw [eS_154]; exact (kd_nA (k := 14) (n := 12) hq_152 hm_149 hk_150)
  show J _ _ _ _ _ 223 _
  refine j_aload_n C dX12_init_223 rfl 0 rfl ?_
  refine j_bipush (v := 12) C dX12_init_224 (by decide) ?_
  refine j_newI (N := 12) C ka_int (by decide) (by decide) (Nat.le_of_ble_eq_true rfl) (M.cells (by decide)) (M.slots (Nat.le_of_ble_eq_true rfl)) dX12_init_226 (fun q_157 hq_158 => ?_)
  refine j_putrF (f := 1239) C hm9 flX12_92o (by decide) rfl rfl dX12_init_228 (mem_old hm_155) (kd_nA (k := 14) (n := 12) hq_158 hm_155 hk_156) rfl ?_
  obtain ⟨S_159, eS_160⟩ : ∃ S9 : Hp, S9 = (sR (nA S_153 q_157 14 12) 1239 h (some q_157)) := ⟨_, rfl⟩
  refine J.eq (S' := S_159) eS_160.symm rfl rfl ?_
  have hm_161 : h ∈ hL S_159 := by rw [eS_160]; exact (mem_old hm_155)
  have hk_162 : Kd S_159 h 12 := by rw [eS_160]; exact (kd_nA (k := 14) (n := 12) hq_158 hm_155 hk_156)
  show J _ _ _ _ _ 231 _
  refine j_aload_n C dX12_init_231 rfl 0 rfl ?_
  refine j_ldc (v := 60008) C dX12_init_232 kcX12_95 ?_
  refine j_newB (N := 60008) C ka_byte (by decide) (by decide) (Nat.le_of_ble_eq_true rfl) (M.cells (by decide)) (M.slots (Nat.le_of_ble_eq_true rfl)) dX12_init_234 (fun q_163 hq_164 => ?_)
  refine j_putrF (f := 1241) C hm9 flX12_96o (by decide) rfl rfl dX12_init_236 (mem_old hm_161) (kd_nA (k := 13) (n := 60008) hq_164 hm_161 hk_162) rfl ?_
  obtain ⟨S_165, eS_166⟩ : ∃ S9 : Hp, S9 = (sR (nA S_159 q_163 13 60008) 1241 h (some q_163)) := ⟨_, rfl⟩
  refine J.eq (S' := S_165) eS_166.symm rfl rfl ?_
  have hm_167 : h ∈ hL S_165 := by rw [eS_166]; exact (mem_old hm_161)
  have hk_168 : Kd S_165 h 12 := by rw [eS_166]; exact (kd_nA (k := 13) (n := 60008) hq_164 hm_161 hk_162)
  show J _ _ _ _ _ 239 _
  refine j_aload_n C dX12_init_239 rfl 0 rfl ?_
  refine j_bipush (v := 12) C dX12_init_240 (by decide) ?_
  refine j_newI (N := 12) C ka_int (by decide) (by decide) (Nat.le_of_ble_eq_true rfl) (M.cells (by decide)) (M.slots (Nat.le_of_ble_eq_true rfl)) dX12_init_242 (fun q_169 hq_170 => ?_)
  refine j_putrF (f := 1246) C hm9 flX12_99o (by decide) rfl rfl dX12_init_244 (mem_old hm_167) (kd_nA (k := 14) (n := 12) hq_170 hm_167 hk_168) rfl ?_
  obtain ⟨S_171, eS_172⟩ : ∃ S9 : Hp, S9 = (sR (nA S_165 q_169 14 12) 1246 h (some q_169)) := ⟨_, rfl⟩
  refine J.eq (S' := S_171) eS_172.symm rfl rfl ?_
  have hm_173 : h ∈ hL S_171 := by rw [eS_172]; exact (mem_old hm_167)
  have hk_174 : Kd S_171 h 12 := by rw [eS_172]; exact (kd_nA (k := 14) (n := 12) hq_170 hm_167 hk_168)
  show J _ _ _ _ _ 247 _
  refine j_aload_n C dX12_init_247 rfl 0 rfl ?_
  refine j_bipush (v := 20) C dX12_init_248 (by decide) ?_
  refine j_newI (N := 20) C ka_int (by decide) (by decide) (Nat.le_of_ble_eq_true rfl) (M.cells (by decide)) (M.slots (Nat.le_of_ble_eq_true rfl)) dX12_init_250 (fun q_175 hq_176 => ?_)
  refine j_putrF (f := 1248) C hm9 flX12_102o (by decide) rfl rfl dX12_init_252 (mem_old hm_173) (kd_nA (k := 14) (n := 20) hq_176 hm_173 hk_174) rfl ?_
  obtain ⟨S_177, eS_178⟩ : ∃ S9 : Hp, S9 = (sR (nA S_171 q_175 14 20) 1248 h (some q_175)) := ⟨_, rfl⟩
  refine J.eq (S' := S_177) eS_178.symm rfl rfl ?_
  have hm_179 : h ∈ hL S_177 := by rw [eS_178]; exact (mem_old hm_173)
  have hk_180 : Kd S_177 h 12 := by rw [eS_178]; exact (kd_nA (k := 14) (n := 20) hq_176 hm_173 hk_174)
  show J _ _ _ _ _ 255 _
  refine j_aload_n C dX12_init_255 rfl 0 rfl ?_
  refine j_bipush (v := 17) C dX12_init_256 (by decide) ?_
  refine j_newZ (N := 17) C ka_boolean (by decide) (by decide) (Nat.le_of_ble_eq_true rfl) (M.cells (by decide)) (M.slots (Nat.le_of_ble_eq_true rfl)) dX12_init_258 (fun q_181 hq_182 => ?_)
  refine j_putrF (f := 1250) C hm9 flX12_105o (by decide) rfl rfl dX12_init_260 (mem_old hm_179) (kd_nA (k := 17) (n := 17) hq_182 hm_179 hk_180) rfl ?_
  obtain ⟨S_183, eS_184⟩ : ∃ S9 : Hp, S9 = (sR (nA S_177 q_181 17 17) 1250 h (some q_181)) := ⟨_, rfl⟩
  refine J.eq (S' := S_183) eS_184.symm rfl rfl ?_
  have hm_185 : h ∈ hL S_183 := by rw [eS_184]; exact (mem_old hm_179)
  have hk_186 : Kd S_183 h 12 := by rw [eS_184]; exact (kd_nA (k := 17) (n := 17) hq_182 hm_179 hk_180)
  show J _ _ _ _ _ 263 _
  refine j_aload_n C dX12_init_263 rfl 0 rfl ?_
  refine j_sipush (v := 148) C dX12_init_264 (by decide) ?_
  refine j_newI (N := 148) C ka_int (by decide) (by decide) (Nat.le_of_ble_eq_true rfl) (M.cells (by decide)) (M.slots (Nat.le_of_ble_eq_true rfl)) dX12_init_267 (fun q_187 hq_188 => ?_)
  refine j_putrF (f := 1256) C hm9 flX12_108o (by decide) rfl rfl dX12_init_269 (mem_old hm_185) (kd_nA (k := 14) (n := 148) hq_188 hm_185 hk_186) rfl ?_
  obtain ⟨S_189, eS_190⟩ : ∃ S9 : Hp, S9 = (sR (nA S_183 q_187 14 148) 1256 h (some q_187)) := ⟨_, rfl⟩
  refine J.eq (S' := S_189) eS_190.symm rfl rfl ?_
  have hm_191 : h ∈ hL S_189 := by rw [eS_190]; exact (mem_old hm_185)
  have hk_192 : Kd S_189 h 12 := by rw [eS_190]; exact (kd_nA (k := 14) (n := 148) hq_188 hm_185 hk_186)
  show J _ _ _ _ _ 272 _
  refine j_aload_n C dX12_init_272 rfl 0 rfl ?_
  refine j_sipush (v := 148) C dX12_init_273 (by decide) ?_
  refine j_newI (N := 148) C ka_int (by decide) (by decide) (Nat.le_of_ble_eq_true rfl) (M.cells (by decide)) (M.slots (Nat.le_of_ble_eq_true rfl)) dX12_init_276 (fun q_193 hq_194 => ?_)
  refine j_putrF (f := 1257) C hm9 flX12_111o (by decide) rfl rfl dX12_init_278 (mem_old hm_191) (kd_nA (k := 14) (n := 148) hq_194 hm_191 hk_192) rfl ?_
  obtain ⟨S_195, eS_196⟩ : ∃ S9 : Hp, S9 = (sR (nA S_189 q_193 14 148) 1257 h (some q_193)) := ⟨_, rfl⟩
  refine J.eq (S' := S_195) eS_196.symm rfl rfl ?_
  have hm_197 : h ∈ hL S_195 := by rw [eS_196]; exact (mem_old hm_191)
  have hk_198 : Kd S_195 h 12 := by rw [eS_196]; exact (kd_nA (k := 14) (n := 148) hq_194 hm_191 hk_192)
  show J _ _ _ _ _ 281 _
  refine j_aload_n C dX12_init_281 rfl 0 rfl ?_
  refine j_sipush (v := 640) C dX12_init_282 (by decide) ?_
  refine j_newI (N := 640) C ka_int (by decide) (by decide) (Nat.le_of_ble_eq_true rfl) (M.cells (by decide)) (M.slots (Nat.le_of_ble_eq_true rfl)) dX12_init_285 (fun q_199 hq_200 => ?_)
  refine j_putrF (f := 1258) C hm9 flX12_114o (by decide) rfl rfl dX12_init_287 (mem_old hm_197) (kd_nA (k := 14) (n := 640) hq_200 hm_197 hk_198) rfl ?_
  obtain ⟨S_201, eS_202⟩ : ∃ S9 : Hp, S9 = (sR (nA S_195 q_199 14 640) 1258 h (some q_199)) := ⟨_, rfl⟩
  refine J.eq (S' := S_201) eS_202.symm rfl rfl ?_
  have hm_203 : h ∈ hL S_201 := by rw [eS_202]; exact (mem_old hm_197)
  have hk_204 : Kd S_201 h 12 := by rw [eS_202]; exact (kd_nA (k := 14) (n := 640) hq_200 hm_197 hk_198)
  show J _ _ _ _ _ 290 _
  refine j_aload_n C dX12_init_290 rfl 0 rfl ?_
  refine j_sipush (v := 640) C dX12_init_291 (by decide) ?_
  refine j_newI (N := 640) C ka_int (by decide) (by decide) (Nat.le_of_ble_eq_true rfl) (M.cells (by decide)) (M.slots (Nat.le_of_ble_eq_true rfl)) dX12_init_294 (fun q_205 hq_206 => ?_)
  refine j_putrF (f := 1259) C hm9 flX12_117o (by decide) rfl rfl dX12_init_296 (mem_old hm_203) (kd_nA (k := 14) (n := 640) hq_206 hm_203 hk_204) rfl ?_
  obtain ⟨S_207, eS_208⟩ : ∃ S9 : Hp, S9 = (sR (nA S_201 q_205 14 640) 1259 h (some q_205)) := ⟨_, rfl⟩
  refine J.eq (S' := S_207) eS_208.symm rfl rfl ?_
  have hm_209 : h ∈ hL S_207 := by rw [eS_208]; exact (mem_old hm_203)
  have hk_210 : Kd S_207 h 12 := by rw [eS_208]; exact (kd_nA (k := 14) (n := 640) hq_206 hm_203 hk_204)
  show J _ _ _ _ _ 299 _
  refine j_aload_n C dX12_init_299 rfl 0 rfl ?_
  refine j_bipush (v := 12) C dX12_init_300 (by decide) ?_
  refine j_newI (N := 12) C ka_int (by decide) (by decide) (Nat.le_of_ble_eq_true rfl) (M.cells (by decide)) (M.slots (Nat.le_of_ble_eq_true rfl)) dX12_init_302 (fun q_211 hq_212 => ?_)
  refine j_putrF (f := 1270) C hm9 flX12_120o (by decide) rfl rfl dX12_init_304 (mem_old hm_209) (kd_nA (k := 14) (n := 12) hq_212 hm_209 hk_210) rfl ?_
  obtain ⟨S_213, eS_214⟩ : ∃ S9 : Hp, S9 = (sR (nA S_207 q_211 14 12) 1270 h (some q_211)) := ⟨_, rfl⟩
  refine J.eq (S' := S_213) eS_214.symm rfl rfl ?_
  have hm_215 : h ∈ hL S_213 := by rw [eS_214]; exact (mem_old hm_209)
  have hk_216 : Kd S_213 h 12 := by rw [eS_214]; exact (kd_nA (k := 14) (n := 12) hq_212 hm_209 hk_210)
  show J _ _ _ _ _ 307 _
  refine j_aload_n C dX12_init_307 rfl 0 rfl ?_
  refine j_sipush (v := 400) C dX12_init_308 (by decide) ?_
  refine j_newI (N := 400) C ka_int (by decide) (by decide) (Nat.le_of_ble_eq_true rfl) (M.cells (by decide)) (M.slots (Nat.le_of_ble_eq_true rfl)) dX12_init_311 (fun q_217 hq_218 => ?_)
  refine j_putrF (f := 1272) C hm9 flX12_123o (by decide) rfl rfl dX12_init_313 (mem_old hm_215) (kd_nA (k := 14) (n := 400) hq_218 hm_215 hk_216) rfl ?_
  obtain ⟨S_219, eS_220⟩ : ∃ S9 : Hp, S9 = (sR (nA S_213 q_217 14 400) 1272 h (some q_217)) := ⟨_, rfl⟩
  refine J.eq (S' := S_219) eS_220.symm rfl rfl ?_
  have hm_221 : h ∈ hL S_219 := by rw [eS_220]; exact (mem_old hm_215)
  have hk_222 : Kd S_219 h 12 := by rw [eS_220]; exact (kd_nA (k := 14) (n := 400) hq_218 hm_215 hk_216)
  show J _ _ _ _ _ 316 _
  refine j_aload_n C dX12_init_316 rfl 0 rfl ?_
  refine j_sipush (v := 400) C dX12_init_317 (by decide) ?_
  refine j_newJ (N := 400) C ka_long (by decide) (by decide) (Nat.le_of_ble_eq_true rfl) (M.cells (by decide)) (M.slots (Nat.le_of_ble_eq_true rfl)) dX12_init_320 (fun q_223 hq_224 => ?_)
  refine j_putrF (f := 1273) C hm9 flX12_126o (by decide) rfl rfl dX12_init_322 (mem_old hm_221) (kd_nA (k := 15) (n := 400) hq_224 hm_221 hk_222) rfl ?_
  obtain ⟨S_225, eS_226⟩ : ∃ S9 : Hp, S9 = (sR (nA S_219 q_223 15 400) 1273 h (some q_223)) := ⟨_, rfl⟩
  refine J.eq (S' := S_225) eS_226.symm rfl rfl ?_
  have hm_227 : h ∈ hL S_225 := by rw [eS_226]; exact (mem_old hm_221)
  have hk_228 : Kd S_225 h 12 := by rw [eS_226]; exact (kd_nA (k := 15) (n := 400) hq_224 hm_221 hk_222)
  show J _ _ _ _ _ 325 _
  refine j_aload_n C dX12_init_325 rfl 0 rfl ?_
  refine j_bipush (v := 40) C dX12_init_326 (by decide) ?_
  refine j_newJ (N := 40) C ka_long (by decide) (by decide) (Nat.le_of_ble_eq_true rfl) (M.cells (by decide)) (M.slots (Nat.le_of_ble_eq_true rfl)) dX12_init_328 (fun q_229 hq_230 => ?_)
  refine j_putrF (f := 1274) C hm9 flX12_130o (by decide) rfl rfl dX12_init_330 (mem_old hm_227) (kd_nA (k := 15) (n := 40) hq_230 hm_227 hk_228) rfl ?_
  obtain ⟨S_231, eS_232⟩ : ∃ S9 : Hp, S9 = (sR (nA S_225 q_229 15 40) 1274 h (some q_229)) := ⟨_, rfl⟩
  refine J.eq (S' := S_231) eS_232.symm rfl rfl ?_
  have hm_233 : h ∈ hL S_231 := by rw [eS_232]; exact (mem_old hm_227)
  have hk_234 : Kd S_231 h 12 := by rw [eS_232]; exact (kd_nA (k := 15) (n := 40) hq_230 hm_227 hk_228)
  show J _ _ _ _ _ 333 _
  refine j_aload_n C dX12_init_333 rfl 0 rfl ?_
  refine j_bipush (v := 40) C dX12_init_334 (by decide) ?_
  refine j_newJ (N := 40) C ka_long (by decide) (by decide) (Nat.le_of_ble_eq_true rfl) (M.cells (by decide)) (M.slots (Nat.le_of_ble_eq_true rfl)) dX12_init_336 (fun q_235 hq_236 => ?_)
  refine j_putrF (f := 1275) C hm9 flX12_133o (by decide) rfl rfl dX12_init_338 (mem_old hm_233) (kd_nA (k := 15) (n := 40) hq_236 hm_233 hk_234) rfl ?_
  obtain ⟨S_237, eS_238⟩ : ∃ S9 : Hp, S9 = (sR (nA S_231 q_235 15 40) 1275 h (some q_235)) := ⟨_, rfl⟩
  refine J.eq (S' := S_237) eS_238.symm rfl rfl ?_
  have hm_239 : h ∈ hL S_237 := by rw [eS_238]; exact (mem_old hm_233)
  have hk_240 : Kd S_237 h 12 := by rw [eS_238]; exact (kd_nA (k := 15) (n := 40) hq_236 hm_233 hk_234)
  show J _ _ _ _ _ 341 _
  have hIni : Ini h S [(q_1, 14, 192, 1200), (q_7, 14, 960, 1201), (q_13, 17, 17, 1202), (q_19, 17, 17, 1203), (q_25, 14, 119, 1204), (q_31, 14, 4096, 1205), (q_37, 17, 400, 1206), (q_43, 14, 2000, 1207), (q_49, 14, 12800, 1208), (q_55, 17, 16, 1210), (q_61, 17, 16, 1211), (q_67, 14, 16, 1212), (q_73, 14, 16, 1213), (q_79, 14, 256, 1214), (q_85, 17, 16, 1215), (q_91, 17, 16, 1216), (q_97, 14, 16, 1217), (q_103, 13, 24000, 1218), (q_109, 13, 12000, 1219), (q_115, 14, 7, 1220), (q_121, 14, 6, 1221), (q_127, 13, 8000, 1223), (q_133, 13, 6000, 1225), (q_139, 13, 64000, 1234), (q_145, 13, 768000, 1237), (q_151, 14, 12, 1238), (q_157, 14, 12, 1239), (q_163, 13, 60008, 1241), (q_169, 14, 12, 1246), (q_175, 14, 20, 1248), (q_181, 17, 17, 1250), (q_187, 14, 148, 1256), (q_193, 14, 148, 1257), (q_199, 14, 640, 1258), (q_205, 14, 640, 1259), (q_211, 14, 12, 1270), (q_217, 14, 400, 1272), (q_223, 15, 400, 1273), (q_229, 15, 40, 1274), (q_235, 15, 40, 1275)] S_237 := (Ini_cons hq_2 eS_4 (Ini_cons hq_8 eS_10 (Ini_cons hq_14 eS_16 (Ini_cons hq_20 eS_22 (Ini_cons hq_26 eS_28 (Ini_cons hq_32 eS_34 (Ini_cons hq_38 eS_40 (Ini_cons hq_44 eS_46 (Ini_cons hq_50 eS_52 (Ini_cons hq_56 eS_58 (Ini_cons hq_62 eS_64 (Ini_cons hq_68 eS_70 (Ini_cons hq_74 eS_76 (Ini_cons hq_80 eS_82 (Ini_cons hq_86 eS_88 (Ini_cons hq_92 eS_94 (Ini_cons hq_98 eS_100 (Ini_cons hq_104 eS_106 (Ini_cons hq_110 eS_112 (Ini_cons hq_116 eS_118 (Ini_cons hq_122 eS_124 (Ini_cons hq_128 eS_130 (Ini_cons hq_134 eS_136 (Ini_cons hq_140 eS_142 (Ini_cons hq_146 eS_148 (Ini_cons hq_152 eS_154 (Ini_cons hq_158 eS_160 (Ini_cons hq_164 eS_166 (Ini_cons hq_170 eS_172 (Ini_cons hq_176 eS_178 (Ini_cons hq_182 eS_184 (Ini_cons hq_188 eS_190 (Ini_cons hq_194 eS_196 (Ini_cons hq_200 eS_202 (Ini_cons hq_206 eS_208 (Ini_cons hq_212 eS_214 (Ini_cons hq_218 eS_220 (Ini_cons hq_224 eS_226 (Ini_cons hq_230 eS_232 (Ini_cons hq_236 eS_238 Ini_nil))))))))))))))))))))))))))))))))))))))))
  obtain ⟨hfI, hall⟩ := Ini_all _ _ _ [1200, 1201, 1202, 1203, 1204, 1205, 1206, 1207, 1208, 1210, 1211, 1212, 1213, 1214, 1215, 1216, 1217, 1218, 1219, 1220, 1221, 1223, 1225, 1234, 1237, 1238, 1239, 1241, 1246, 1248, 1250, 1256, 1257, 1258, 1259, 1270, 1272, 1273, 1274, 1275] hm hIni rfl (by decide)
  have hfW : Fm (fun f9 b9 => (f9 = 1244 ∧ b9 = h) ∨ (f9 = 1245 ∧ b9 = h)) (fun f9 b9 => b9 = h) (fun _ => False) S S_237 := hfI.weak (fun f a h9 => h9.elim) (fun f a h9 => h9.1) (fun a h9 => h9.elim)
  obtain ⟨e_241, e_242, e_243, e_244, e_245, e_246⟩ := hall _ (List.mem_of_getElem? (i := 2) rfl)
  have e_247 : Kd S_237 q_13 17 := e_243
  have e_248 : Ln S_237 q_13 17 := e_244
  have e_249 : hR S_237 1202 h = some q_13 := e_245
  have e_250 : q_13 ∈ hL S_237 := e_242
  have e_251 : ∀ j, aI S_237 q_13 j = 0 := e_246
  have hz_252 : q_13 ∉ hL S := e_241
  obtain ⟨e_253, e_254, e_255, e_256, e_257, e_258⟩ := hall _ (List.mem_of_getElem? (i := 3) rfl)
  have e_259 : Kd S_237 q_19 17 := e_255
  have e_260 : Ln S_237 q_19 17 := e_256
  have e_261 : hR S_237 1203 h = some q_19 := e_257
  have e_262 : q_19 ∈ hL S_237 := e_254
  have e_263 : ∀ j, aI S_237 q_19 j = 0 := e_258
  have hz_264 : q_19 ∉ hL S := e_253
  obtain ⟨e_265, e_266, e_267, e_268, e_269, e_270⟩ := hall _ (List.mem_of_getElem? (i := 4) rfl)
  have e_271 : Kd S_237 q_25 14 := e_267
  have e_272 : Ln S_237 q_25 119 := e_268
  have e_273 : hR S_237 1204 h = some q_25 := e_269
  have e_274 : q_25 ∈ hL S_237 := e_266
  have e_275 : ∀ j, aI S_237 q_25 j = 0 := e_270
  have hz_276 : q_25 ∉ hL S := e_265
  obtain ⟨e_277, e_278, e_279, e_280, e_281, e_282⟩ := hall _ (List.mem_of_getElem? (i := 5) rfl)
  have e_283 : Kd S_237 q_31 14 := e_279
  have e_284 : Ln S_237 q_31 4096 := e_280
  have e_285 : hR S_237 1205 h = some q_31 := e_281
  have e_286 : q_31 ∈ hL S_237 := e_278
  have e_287 : ∀ j, aI S_237 q_31 j = 0 := e_282
  have hz_288 : q_31 ∉ hL S := e_277
  obtain ⟨e_289, e_290, e_291, e_292, e_293, e_294⟩ := hall _ (List.mem_of_getElem? (i := 9) rfl)
  have e_295 : Kd S_237 q_55 17 := e_291
  have e_296 : Ln S_237 q_55 16 := e_292
  have e_297 : hR S_237 1210 h = some q_55 := e_293
  have e_298 : q_55 ∈ hL S_237 := e_290
  have e_299 : ∀ j, aI S_237 q_55 j = 0 := e_294
  have hz_300 : q_55 ∉ hL S := e_289
  obtain ⟨e_301, e_302, e_303, e_304, e_305, e_306⟩ := hall _ (List.mem_of_getElem? (i := 10) rfl)
  have e_307 : Kd S_237 q_61 17 := e_303
  have e_308 : Ln S_237 q_61 16 := e_304
  have e_309 : hR S_237 1211 h = some q_61 := e_305
  have e_310 : q_61 ∈ hL S_237 := e_302
  have e_311 : ∀ j, aI S_237 q_61 j = 0 := e_306
  have hz_312 : q_61 ∉ hL S := e_301
  obtain ⟨e_313, e_314, e_315, e_316, e_317, e_318⟩ := hall _ (List.mem_of_getElem? (i := 14) rfl)
  have e_319 : Kd S_237 q_85 17 := e_315
  have e_320 : Ln S_237 q_85 16 := e_316
  have e_321 : hR S_237 1215 h = some q_85 := e_317
  have e_322 : q_85 ∈ hL S_237 := e_314
  have e_323 : ∀ j, aI S_237 q_85 j = 0 := e_318
  have hz_324 : q_85 ∉ hL S := e_313
  obtain ⟨e_325, e_326, e_327, e_328, e_329, e_330⟩ := hall _ (List.mem_of_getElem? (i := 15) rfl)
  have e_331 : Kd S_237 q_91 17 := e_327
  have e_332 : Ln S_237 q_91 16 := e_328
  have e_333 : hR S_237 1216 h = some q_91 := e_329
  have e_334 : q_91 ∈ hL S_237 := e_326
  have e_335 : ∀ j, aI S_237 q_91 j = 0 := e_330
  have hz_336 : q_91 ∉ hL S := e_325
  obtain ⟨e_337, e_338, e_339, e_340, e_341, e_342⟩ := hall _ (List.mem_of_getElem? (i := 16) rfl)
  have e_343 : Kd S_237 q_97 14 := e_339
  have e_344 : Ln S_237 q_97 16 := e_340
  have e_345 : hR S_237 1217 h = some q_97 := e_341
  have e_346 : q_97 ∈ hL S_237 := e_338
  have e_347 : ∀ j, aI S_237 q_97 j = 0 := e_342
  have hz_348 : q_97 ∉ hL S := e_337
  obtain ⟨e_349, e_350, e_351, e_352, e_353, e_354⟩ := hall _ (List.mem_of_getElem? (i := 18) rfl)
  have e_355 : Kd S_237 q_109 13 := e_351
  have e_356 : Ln S_237 q_109 12000 := e_352
  have e_357 : hR S_237 1219 h = some q_109 := e_353
  have e_358 : q_109 ∈ hL S_237 := e_350
  have e_359 : ∀ j, aI S_237 q_109 j = 0 := e_354
  have hz_360 : q_109 ∉ hL S := e_349
  obtain ⟨e_361, e_362, e_363, e_364, e_365, e_366⟩ := hall _ (List.mem_of_getElem? (i := 19) rfl)
  have e_367 : Kd S_237 q_115 14 := e_363
  have e_368 : Ln S_237 q_115 7 := e_364
  have e_369 : hR S_237 1220 h = some q_115 := e_365
  have e_370 : q_115 ∈ hL S_237 := e_362
  have e_371 : ∀ j, aI S_237 q_115 j = 0 := e_366
  have hz_372 : q_115 ∉ hL S := e_361
  obtain ⟨e_373, e_374, e_375, e_376, e_377, e_378⟩ := hall _ (List.mem_of_getElem? (i := 20) rfl)
  have e_379 : Kd S_237 q_121 14 := e_375
  have e_380 : Ln S_237 q_121 6 := e_376
  have e_381 : hR S_237 1221 h = some q_121 := e_377
  have e_382 : q_121 ∈ hL S_237 := e_374
  have e_383 : ∀ j, aI S_237 q_121 j = 0 := e_378
  have hz_384 : q_121 ∉ hL S := e_373
  obtain ⟨e_385, e_386, e_387, e_388, e_389, e_390⟩ := hall _ (List.mem_of_getElem? (i := 21) rfl)
  have e_391 : Kd S_237 q_127 13 := e_387
  have e_392 : Ln S_237 q_127 8000 := e_388
  have e_393 : hR S_237 1223 h = some q_127 := e_389
  have e_394 : q_127 ∈ hL S_237 := e_386
  have e_395 : ∀ j, aI S_237 q_127 j = 0 := e_390
  have hz_396 : q_127 ∉ hL S := e_385
  obtain ⟨e_397, e_398, e_399, e_400, e_401, e_402⟩ := hall _ (List.mem_of_getElem? (i := 23) rfl)
  have e_403 : Kd S_237 q_139 13 := e_399
  have e_404 : Ln S_237 q_139 64000 := e_400
  have e_405 : hR S_237 1234 h = some q_139 := e_401
  have e_406 : q_139 ∈ hL S_237 := e_398
  have e_407 : ∀ j, aI S_237 q_139 j = 0 := e_402
  have hz_408 : q_139 ∉ hL S := e_397
  obtain ⟨e_409, e_410, e_411, e_412, e_413, e_414⟩ := hall _ (List.mem_of_getElem? (i := 27) rfl)
  have e_415 : Kd S_237 q_163 13 := e_411
  have e_416 : Ln S_237 q_163 60008 := e_412
  have e_417 : hR S_237 1241 h = some q_163 := e_413
  have e_418 : q_163 ∈ hL S_237 := e_410
  have e_419 : ∀ j, aI S_237 q_163 j = 0 := e_414
  have hz_420 : q_163 ∉ hL S := e_409
  obtain ⟨e_421, e_422, e_423, e_424, e_425, e_426⟩ := hall _ (List.mem_of_getElem? (i := 28) rfl)
  have e_427 : Kd S_237 q_169 14 := e_423
  have e_428 : Ln S_237 q_169 12 := e_424
  have e_429 : hR S_237 1246 h = some q_169 := e_425
  have e_430 : q_169 ∈ hL S_237 := e_422
  have e_431 : ∀ j, aI S_237 q_169 j = 0 := e_426
  have hz_432 : q_169 ∉ hL S := e_421
  obtain ⟨e_433, e_434, e_435, e_436, e_437, e_438⟩ := hall _ (List.mem_of_getElem? (i := 31) rfl)
  have e_439 : Kd S_237 q_187 14 := e_435
  have e_440 : Ln S_237 q_187 148 := e_436
  have e_441 : hR S_237 1256 h = some q_187 := e_437
  have e_442 : q_187 ∈ hL S_237 := e_434
  have e_443 : ∀ j, aI S_237 q_187 j = 0 := e_438
  have hz_444 : q_187 ∉ hL S := e_433
  obtain ⟨e_445, e_446, e_447, e_448, e_449, e_450⟩ := hall _ (List.mem_of_getElem? (i := 32) rfl)
  have e_451 : Kd S_237 q_193 14 := e_447
  have e_452 : Ln S_237 q_193 148 := e_448
  have e_453 : hR S_237 1257 h = some q_193 := e_449
  have e_454 : q_193 ∈ hL S_237 := e_446
  have e_455 : ∀ j, aI S_237 q_193 j = 0 := e_450
  have hz_456 : q_193 ∉ hL S := e_445
  have ne_457 : q_13 ≠ q_19 := Ini_ne _ _ _ hIni 2 3 _ _ (by decide) rfl rfl
  have ne_458 : q_25 ≠ q_31 := Ini_ne _ _ _ hIni 4 5 _ _ (by decide) rfl rfl
  have ne_459 : q_25 ≠ q_187 := Ini_ne _ _ _ hIni 4 31 _ _ (by decide) rfl rfl
  have ne_460 : q_25 ≠ q_193 := Ini_ne _ _ _ hIni 4 32 _ _ (by decide) rfl rfl
  have ne_461 : q_31 ≠ q_187 := Ini_ne _ _ _ hIni 5 31 _ _ (by decide) rfl rfl
  have ne_462 : q_31 ≠ q_193 := Ini_ne _ _ _ hIni 5 32 _ _ (by decide) rfl rfl
  have ne_463 : q_13 ≠ q_55 := Ini_ne _ _ _ hIni 2 9 _ _ (by decide) rfl rfl
  have ne_464 : q_13 ≠ q_61 := Ini_ne _ _ _ hIni 2 10 _ _ (by decide) rfl rfl
  have ne_465 : q_13 ≠ q_85 := Ini_ne _ _ _ hIni 2 14 _ _ (by decide) rfl rfl
  have ne_466 : q_13 ≠ q_91 := Ini_ne _ _ _ hIni 2 15 _ _ (by decide) rfl rfl
  have ne_467 : q_25 ≠ q_97 := Ini_ne _ _ _ hIni 4 16 _ _ (by decide) rfl rfl
  have ne_468 : q_31 ≠ q_97 := Ini_ne _ _ _ hIni 5 16 _ _ (by decide) rfl rfl
  have ne_469 : q_97 ≠ q_187 := Ini_ne _ _ _ hIni 16 31 _ _ (by decide) rfl rfl
  have ne_470 : q_97 ≠ q_193 := Ini_ne _ _ _ hIni 16 32 _ _ (by decide) rfl rfl
  have ne_471 : q_25 ≠ q_115 := Ini_ne _ _ _ hIni 4 19 _ _ (by decide) rfl rfl
  have ne_472 : q_31 ≠ q_115 := Ini_ne _ _ _ hIni 5 19 _ _ (by decide) rfl rfl
  have ne_473 : q_115 ≠ q_187 := Ini_ne _ _ _ hIni 19 31 _ _ (by decide) rfl rfl
  have ne_474 : q_115 ≠ q_193 := Ini_ne _ _ _ hIni 19 32 _ _ (by decide) rfl rfl
  have ne_475 : q_25 ≠ q_121 := Ini_ne _ _ _ hIni 4 20 _ _ (by decide) rfl rfl
  have ne_476 : q_31 ≠ q_121 := Ini_ne _ _ _ hIni 5 20 _ _ (by decide) rfl rfl
  have ne_477 : q_121 ≠ q_187 := Ini_ne _ _ _ hIni 20 31 _ _ (by decide) rfl rfl
  have ne_478 : q_121 ≠ q_193 := Ini_ne _ _ _ hIni 20 32 _ _ (by decide) rfl rfl
  have ne_479 : q_25 ≠ q_169 := Ini_ne _ _ _ hIni 4 28 _ _ (by decide) rfl rfl
  have ne_480 : q_31 ≠ q_169 := Ini_ne _ _ _ hIni 5 28 _ _ (by decide) rfl rfl
  have ne_481 : q_169 ≠ q_187 := Ini_ne _ _ _ hIni 28 31 _ _ (by decide) rfl rfl
  have ne_482 : q_169 ≠ q_193 := Ini_ne _ _ _ hIni 28 32 _ _ (by decide) rfl rfl
  have ne_483 : q_187 ≠ q_193 := Ini_ne _ _ _ hIni 31 32 _ _ (by decide) rfl rfl
  refine j_iconst (v := 0) C dX12_init_341 (by decide) ?_
  refine j_istore_n (lv' := [(1, .int 0), (0, .ref h)]) C dX12_init_342 rfl (by rw [hn9]; decide) rfl ?_
  have loop_488 : ∀ (m9 j1 : Nat) (S_485 : Hp), j1 + m9 = 4096 → Fm (fun _ _ => False) (fun _ _ => False) (fun b9 => b9 = q_31) S_237 S_485 → J x (0 + 1 + 1 + 1 + 1 + 1 + 1 + 1 + 1 + 1 + 1 + 1 + 1 + 1 + 1 + 1 + 1 + 1 + 1 + 1 + 1 + 1 + 1 + 1 + 1 + 1 + 1 + 1 + 1 + 1 + 1 + 1 + 1 + 1 + 1 + 1 + 1 + 1 + 1 + 1 + 1) (0 + 192 + 960 + 17 + 17 + 119 + 4096 + 400 + 2000 + 12800 + 16 + 16 + 16 + 16 + 256 + 16 + 16 + 16 + 24000 + 12000 + 7 + 6 + 8000 + 6000 + 64000 + 768000 + 12 + 12 + 60008 + 12 + 20 + 17 + 148 + 148 + 640 + 640 + 12 + 400 + 400 + 40 + 40) S_485 [(1, .int (nI j1)), (0, .ref h)] 343 [] := by
    intro m9
    induction m9 with
    | zero =>
      intro j1 S_485  hi_489 hl_486 
      have hz_490 : ∀ j, aI S_485 q_109 j = 0 := fun j9 => (hl_486.ai e_358 (fun q9 => (fun e9 => absurd ((e_355).symm.trans ((congrArg (hK _) e9).trans e_283)) (by decide)) q9) j9).trans (e_359 j9)
      have hz_491 : ∀ j, aI S_485 q_115 j = 0 := fun j9 => (hl_486.ai e_370 (fun q9 => (Ne.symm ne_472) q9) j9).trans (e_371 j9)
      have hz_492 : ∀ j, aI S_485 q_121 j = 0 := fun j9 => (hl_486.ai e_382 (fun q9 => (Ne.symm ne_476) q9) j9).trans (e_383 j9)
      have hz_493 : ∀ j, aI S_485 q_127 j = 0 := fun j9 => (hl_486.ai e_394 (fun q9 => (fun e9 => absurd ((e_391).symm.trans ((congrArg (hK _) e9).trans e_283)) (by decide)) q9) j9).trans (e_395 j9)
      have hz_494 : ∀ j, aI S_485 q_13 j = 0 := fun j9 => (hl_486.ai e_250 (fun q9 => (fun e9 => absurd ((e_247).symm.trans ((congrArg (hK _) e9).trans e_283)) (by decide)) q9) j9).trans (e_251 j9)
      have hz_495 : ∀ j, aI S_485 q_139 j = 0 := fun j9 => (hl_486.ai e_406 (fun q9 => (fun e9 => absurd ((e_403).symm.trans ((congrArg (hK _) e9).trans e_283)) (by decide)) q9) j9).trans (e_407 j9)
      have hz_496 : ∀ j, aI S_485 q_163 j = 0 := fun j9 => (hl_486.ai e_418 (fun q9 => (fun e9 => absurd ((e_415).symm.trans ((congrArg (hK _) e9).trans e_283)) (by decide)) q9) j9).trans (e_419 j9)
      have hz_497 : ∀ j, aI S_485 q_169 j = 0 := fun j9 => (hl_486.ai e_430 (fun q9 => (Ne.symm ne_480) q9) j9).trans (e_431 j9)
      have hz_498 : ∀ j, aI S_485 q_187 j = 0 := fun j9 => (hl_486.ai e_442 (fun q9 => (Ne.symm ne_461) q9) j9).trans (e_443 j9)
      have hz_499 : ∀ j, aI S_485 q_19 j = 0 := fun j9 => (hl_486.ai e_262 (fun q9 => (fun e9 => absurd ((e_259).symm.trans ((congrArg (hK _) e9).trans e_283)) (by decide)) q9) j9).trans (e_263 j9)
      have hz_500 : ∀ j, aI S_485 q_193 j = 0 := fun j9 => (hl_486.ai e_454 (fun q9 => (Ne.symm ne_462) q9) j9).trans (e_455 j9)
      have hz_501 : ∀ j, aI S_485 q_25 j = 0 := fun j9 => (hl_486.ai e_274 (fun q9 => ne_458 q9) j9).trans (e_275 j9)
      have hz_502 : ∀ j, aI S_485 q_55 j = 0 := fun j9 => (hl_486.ai e_298 (fun q9 => (fun e9 => absurd ((e_295).symm.trans ((congrArg (hK _) e9).trans e_283)) (by decide)) q9) j9).trans (e_299 j9)
      have hz_503 : ∀ j, aI S_485 q_61 j = 0 := fun j9 => (hl_486.ai e_310 (fun q9 => (fun e9 => absurd ((e_307).symm.trans ((congrArg (hK _) e9).trans e_283)) (by decide)) q9) j9).trans (e_311 j9)
      have hz_504 : ∀ j, aI S_485 q_85 j = 0 := fun j9 => (hl_486.ai e_322 (fun q9 => (fun e9 => absurd ((e_319).symm.trans ((congrArg (hK _) e9).trans e_283)) (by decide)) q9) j9).trans (e_323 j9)
      have hz_505 : ∀ j, aI S_485 q_91 j = 0 := fun j9 => (hl_486.ai e_334 (fun q9 => (fun e9 => absurd ((e_331).symm.trans ((congrArg (hK _) e9).trans e_283)) (by decide)) q9) j9).trans (e_335 j9)
      have hz_506 : ∀ j, aI S_485 q_97 j = 0 := fun j9 => (hl_486.ai e_346 (fun q9 => (Ne.symm ne_468) q9) j9).trans (e_347 j9)
      have hm_507 : h ∈ hL S_485 := hl_486.mem hm_239
      have hk_508 : Kd S_485 h 12 := hl_486.kd hm_239 hk_240
      have hm_509 : q_109 ∈ hL S_485 := hl_486.mem e_358
      have hk_510 : Kd S_485 q_109 13 := hl_486.kd e_358 e_355
      have hn_511 : Ln S_485 q_109 12000 := hl_486.ln e_358 e_356
      have hm_512 : q_115 ∈ hL S_485 := hl_486.mem e_370
      have hk_513 : Kd S_485 q_115 14 := hl_486.kd e_370 e_367
      have hn_514 : Ln S_485 q_115 7 := hl_486.ln e_370 e_368
      have hm_515 : q_121 ∈ hL S_485 := hl_486.mem e_382
      have hk_516 : Kd S_485 q_121 14 := hl_486.kd e_382 e_379
      have hn_517 : Ln S_485 q_121 6 := hl_486.ln e_382 e_380
      have hm_518 : q_127 ∈ hL S_485 := hl_486.mem e_394
      have hk_519 : Kd S_485 q_127 13 := hl_486.kd e_394 e_391
      have hn_520 : Ln S_485 q_127 8000 := hl_486.ln e_394 e_392
      have hm_521 : q_13 ∈ hL S_485 := hl_486.mem e_250
      have hk_522 : Kd S_485 q_13 17 := hl_486.kd e_250 e_247
      have hn_523 : Ln S_485 q_13 17 := hl_486.ln e_250 e_248
      have hm_524 : q_139 ∈ hL S_485 := hl_486.mem e_406
      have hk_525 : Kd S_485 q_139 13 := hl_486.kd e_406 e_403
      have hn_526 : Ln S_485 q_139 64000 := hl_486.ln e_406 e_404
      have hm_527 : q_163 ∈ hL S_485 := hl_486.mem e_418
      have hk_528 : Kd S_485 q_163 13 := hl_486.kd e_418 e_415
      have hn_529 : Ln S_485 q_163 60008 := hl_486.ln e_418 e_416
      have hm_530 : q_169 ∈ hL S_485 := hl_486.mem e_430
      have hk_531 : Kd S_485 q_169 14 := hl_486.kd e_430 e_427
      have hn_532 : Ln S_485 q_169 12 := hl_486.ln e_430 e_428
      have hm_533 : q_187 ∈ hL S_485 := hl_486.mem e_442
      have hk_534 : Kd S_485 q_187 14 := hl_486.kd e_442 e_439
      have hn_535 : Ln S_485 q_187 148 := hl_486.ln e_442 e_440
      have hm_536 : q_19 ∈ hL S_485 := hl_486.mem e_262
      have hk_537 : Kd S_485 q_19 17 := hl_486.kd e_262 e_259
      have hn_538 : Ln S_485 q_19 17 := hl_486.ln e_262 e_260
      have hm_539 : q_193 ∈ hL S_485 := hl_486.mem e_454
      have hk_540 : Kd S_485 q_193 14 := hl_486.kd e_454 e_451
      have hn_541 : Ln S_485 q_193 148 := hl_486.ln e_454 e_452
      have hm_542 : q_25 ∈ hL S_485 := hl_486.mem e_274
      have hk_543 : Kd S_485 q_25 14 := hl_486.kd e_274 e_271
      have hn_544 : Ln S_485 q_25 119 := hl_486.ln e_274 e_272
      have hm_545 : q_31 ∈ hL S_485 := hl_486.mem e_286
      have hk_546 : Kd S_485 q_31 14 := hl_486.kd e_286 e_283
      have hn_547 : Ln S_485 q_31 4096 := hl_486.ln e_286 e_284
      have hm_548 : q_55 ∈ hL S_485 := hl_486.mem e_298
      have hk_549 : Kd S_485 q_55 17 := hl_486.kd e_298 e_295
      have hn_550 : Ln S_485 q_55 16 := hl_486.ln e_298 e_296
      have hm_551 : q_61 ∈ hL S_485 := hl_486.mem e_310
      have hk_552 : Kd S_485 q_61 17 := hl_486.kd e_310 e_307
      have hn_553 : Ln S_485 q_61 16 := hl_486.ln e_310 e_308
      have hm_554 : q_85 ∈ hL S_485 := hl_486.mem e_322
      have hk_555 : Kd S_485 q_85 17 := hl_486.kd e_322 e_319
      have hn_556 : Ln S_485 q_85 16 := hl_486.ln e_322 e_320
      have hm_557 : q_91 ∈ hL S_485 := hl_486.mem e_334
      have hk_558 : Kd S_485 q_91 17 := hl_486.kd e_334 e_331
      have hn_559 : Ln S_485 q_91 16 := hl_486.ln e_334 e_332
      have hm_560 : q_97 ∈ hL S_485 := hl_486.mem e_346
      have hk_561 : Kd S_485 q_97 14 := hl_486.kd e_346 e_343
      have hn_562 : Ln S_485 q_97 16 := hl_486.ln e_346 e_344
      have hv_563 : hR S_485 1202 h = (some q_13) := hl_486.fr hm_239 (fun h9 => h9) e_249
      have hv_564 : hR S_485 1203 h = (some q_19) := hl_486.fr hm_239 (fun h9 => h9) e_261
      have hv_565 : hR S_485 1204 h = (some q_25) := hl_486.fr hm_239 (fun h9 => h9) e_273
      have hv_566 : hR S_485 1205 h = (some q_31) := hl_486.fr hm_239 (fun h9 => h9) e_285
      have hv_567 : hR S_485 1210 h = (some q_55) := hl_486.fr hm_239 (fun h9 => h9) e_297
      have hv_568 : hR S_485 1211 h = (some q_61) := hl_486.fr hm_239 (fun h9 => h9) e_309
      have hv_569 : hR S_485 1215 h = (some q_85) := hl_486.fr hm_239 (fun h9 => h9) e_321
      have hv_570 : hR S_485 1216 h = (some q_91) := hl_486.fr hm_239 (fun h9 => h9) e_333
      have hv_571 : hR S_485 1217 h = (some q_97) := hl_486.fr hm_239 (fun h9 => h9) e_345
      have hv_572 : hR S_485 1219 h = (some q_109) := hl_486.fr hm_239 (fun h9 => h9) e_357
      have hv_573 : hR S_485 1220 h = (some q_115) := hl_486.fr hm_239 (fun h9 => h9) e_369
      have hv_574 : hR S_485 1221 h = (some q_121) := hl_486.fr hm_239 (fun h9 => h9) e_381
      have hv_575 : hR S_485 1223 h = (some q_127) := hl_486.fr hm_239 (fun h9 => h9) e_393
      have hv_576 : hR S_485 1234 h = (some q_139) := hl_486.fr hm_239 (fun h9 => h9) e_405
      have hv_577 : hR S_485 1241 h = (some q_163) := hl_486.fr hm_239 (fun h9 => h9) e_417
      have hv_578 : hR S_485 1246 h = (some q_169) := hl_486.fr hm_239 (fun h9 => h9) e_429
      have hv_579 : hR S_485 1256 h = (some q_187) := hl_486.fr hm_239 (fun h9 => h9) e_441
      have hv_580 : hR S_485 1257 h = (some q_193) := hl_486.fr hm_239 (fun h9 => h9) e_453
      have hf_581 : Fm (fun f9 b9 => (f9 = 1244 ∧ b9 = h) ∨ (f9 = 1245 ∧ b9 = h)) (fun f9 b9 => b9 = h) (fun _ => False) S S_485 := hfW.then hl_486 (fun a9 ha9 => ⟨(fun f9 h9 => h9.elim), (fun f9 h9 => h9.elim), (fun h9 => (fun h8 => absurd (h8 ▸ ha9) hz_288) h9)⟩)
      refine j_iload_n C dX12_init_343 rfl 0 rfl ?_
      refine j_sipush (v := 4096) C dX12_init_344 (by decide) ?_
      refine j_ic_ge (tgt := 363) C dX12_init_347 (by decide) (fun c_347 => ?_) (fun c_347 => absurd (nI_le (a := 4096) (by omega) (by omega)) c_347)
      refine j_aload_n C dX12_init_363 rfl 1 rfl ?_
      refine j_getr (f := 1202) (v := q_13) C flX12_16 dX12_init_364 hm_507 hk_508 (by decide) rfl hv_563 ?_
      show J _ _ _ _ _ 367 _
      refine j_bipush (v := 16) C dX12_init_367 (by decide) ?_
      refine j_iconst (v := 1) C dX12_init_369 (by decide) ?_
      refine j_zast (j := 16) C dX12_init_370 hm_521 hk_522 (inr_of (n := 17) hn_523 (vp_lit (by decide))) (by decide) ?_
      refine j_aload_n C dX12_init_371 rfl 1 rfl ?_
      refine j_getr (f := 1204) (v := q_25) C flX12_23 dX12_init_372 hm_507 hk_508 (by decide) rfl hv_565 ?_
      refine j_bipush (v := 113) C dX12_init_375 (by decide) ?_
      refine j_sipush (v := 720) C dX12_init_377 (by decide) ?_
      refine j_iast (j := 113) C dX12_init_380 hm_542 hk_543 (inr_of (n := 119) hn_544 (vp_lit (by decide))) (by decide) ?_
      show J _ _ _ _ _ 381 _
      refine j_aload_n C dX12_init_381 rfl 1 rfl ?_
      refine j_getr (f := 1204) (v := q_25) C flX12_23 dX12_init_382 hm_507 hk_508 (by decide) rfl hv_565 ?_
      refine j_bipush (v := 114) C dX12_init_385 (by decide) ?_
      refine j_bipush (v := 8) C dX12_init_387 (by decide) ?_
      refine j_iast (j := 114) C dX12_init_389 hm_542 hk_543 (inr_of (n := 119) hn_544 (vp_lit (by decide))) (by decide) ?_
      refine j_aload_n C dX12_init_390 rfl 1 rfl ?_
      refine j_iconst (v := (-1)) C dX12_init_391 (by decide) ?_
      refine j_puti (f := 1244) C flX12_136 (by decide) rfl rfl dX12_init_392 hm_507 hk_508 rfl ?_
      show J _ _ _ _ _ 395 _
      refine j_aload_n C dX12_init_395 rfl 1 rfl ?_
      refine j_iconst (v := (-1)) C dX12_init_396 (by decide) ?_
      refine j_puti (f := 1245) C flX12_140 (by decide) rfl rfl dX12_init_397 hm_507 hk_508 rfl ?_
      refine j_aload_n C dX12_init_400 rfl 1 rfl ?_
      have hf_584 : Fm (fun f9 b9 => (f9 = 1244 ∧ b9 = h) ∨ (f9 = 1245 ∧ b9 = h)) (fun f9 b9 => b9 = h) (fun _ => False) S (sI (sI (tI (tI (tI S_485 q_13 16 (vp_nar .boolean 1)) q_25 113 (720 : Int32)) q_25 114 (8 : Int32)) 1244 h (-1)) 1245 h (-1)) := (((((hf_581.tI _ _ (fun h9 => absurd h9 hz_252)).tI _ _ (fun h9 => absurd h9 hz_276)).tI _ _ (fun h9 => absurd h9 hz_276)).sI _ (fun _ => (Or.inl ⟨rfl, rfl⟩))).sI _ (fun _ => (Or.inr ⟨rfl, rfl⟩)))
      obtain ⟨S_582, eS_583⟩ : ∃ S9 : Hp, S9 = (sI (sI (tI (tI (tI S_485 q_13 16 (vp_nar .boolean 1)) q_25 113 (720 : Int32)) q_25 114 (8 : Int32)) 1244 h (-1)) 1245 h (-1)) := ⟨_, rfl⟩
      refine J.eq (S' := S_582) eS_583.symm rfl rfl ?_
      have hm_585 : h ∈ hL S_582 := by rw [eS_583]; exact hm_507
      have hk_586 : Kd S_582 h 12 := by rw [eS_583]; exact hk_508
      have hm_587 : q_109 ∈ hL S_582 := by rw [eS_583]; exact hm_509
      have hk_588 : Kd S_582 q_109 13 := by rw [eS_583]; exact hk_510
      have hn_589 : Ln S_582 q_109 12000 := by rw [eS_583]; exact hn_511
      have hz_590 : ∀ j, aI S_582 q_109 j = 0 := by rw [eS_583]; exact (fun j9 => rd_tIa (S := (tI (tI S_485 q_13 16 (vp_nar .boolean 1)) q_25 113 (720 : Int32))) (fun e9 => absurd ((hk_510).symm.trans ((congrArg (hK _) e9).trans hk_543)) (by decide)) ((fun j9 => rd_tIa (S := (tI S_485 q_13 16 (vp_nar .boolean 1))) (fun e9 => absurd ((hk_510).symm.trans ((congrArg (hK _) e9).trans hk_543)) (by decide)) ((fun j9 => rd_tIa (S := S_485) (fun e9 => absurd ((hk_510).symm.trans ((congrArg (hK _) e9).trans hk_522)) (by decide)) (hz_490 j9)) j9)) j9))
      have hm_591 : q_115 ∈ hL S_582 := by rw [eS_583]; exact hm_512
      have hk_592 : Kd S_582 q_115 14 := by rw [eS_583]; exact hk_513
      have hn_593 : Ln S_582 q_115 7 := by rw [eS_583]; exact hn_514
      have hz_594 : ∀ j, aI S_582 q_115 j = 0 := by rw [eS_583]; exact (fun j9 => rd_tIa (S := (tI (tI S_485 q_13 16 (vp_nar .boolean 1)) q_25 113 (720 : Int32))) (Ne.symm ne_471) ((fun j9 => rd_tIa (S := (tI S_485 q_13 16 (vp_nar .boolean 1))) (Ne.symm ne_471) ((fun j9 => rd_tIa (S := S_485) (fun e9 => absurd ((hk_513).symm.trans ((congrArg (hK _) e9).trans hk_522)) (by decide)) (hz_491 j9)) j9)) j9))
      have hm_595 : q_121 ∈ hL S_582 := by rw [eS_583]; exact hm_515
      have hk_596 : Kd S_582 q_121 14 := by rw [eS_583]; exact hk_516
      have hn_597 : Ln S_582 q_121 6 := by rw [eS_583]; exact hn_517
      have hz_598 : ∀ j, aI S_582 q_121 j = 0 := by rw [eS_583]; exact (fun j9 => rd_tIa (S := (tI (tI S_485 q_13 16 (vp_nar .boolean 1)) q_25 113 (720 : Int32))) (Ne.symm ne_475) ((fun j9 => rd_tIa (S := (tI S_485 q_13 16 (vp_nar .boolean 1))) (Ne.symm ne_475) ((fun j9 => rd_tIa (S := S_485) (fun e9 => absurd ((hk_516).symm.trans ((congrArg (hK _) e9).trans hk_522)) (by decide)) (hz_492 j9)) j9)) j9))
      have hm_599 : q_127 ∈ hL S_582 := by rw [eS_583]; exact hm_518
      have hk_600 : Kd S_582 q_127 13 := by rw [eS_583]; exact hk_519
      have hn_601 : Ln S_582 q_127 8000 := by rw [eS_583]; exact hn_520
      have hz_602 : ∀ j, aI S_582 q_127 j = 0 := by rw [eS_583]; exact (fun j9 => rd_tIa (S := (tI (tI S_485 q_13 16 (vp_nar .boolean 1)) q_25 113 (720 : Int32))) (fun e9 => absurd ((hk_519).symm.trans ((congrArg (hK _) e9).trans hk_543)) (by decide)) ((fun j9 => rd_tIa (S := (tI S_485 q_13 16 (vp_nar .boolean 1))) (fun e9 => absurd ((hk_519).symm.trans ((congrArg (hK _) e9).trans hk_543)) (by decide)) ((fun j9 => rd_tIa (S := S_485) (fun e9 => absurd ((hk_519).symm.trans ((congrArg (hK _) e9).trans hk_522)) (by decide)) (hz_493 j9)) j9)) j9))
      have hm_603 : q_13 ∈ hL S_582 := by rw [eS_583]; exact hm_521
      have hk_604 : Kd S_582 q_13 17 := by rw [eS_583]; exact hk_522
      have hn_605 : Ln S_582 q_13 17 := by rw [eS_583]; exact hn_523
      have hy_606 : ∀ j, j < 16 → aI S_582 q_13 j = 0 := by rw [eS_583]; exact (fun (j9 : Nat) (h9 : j9 < 16) => rd_tIa (S := (tI (tI S_485 q_13 16 (vp_nar .boolean 1)) q_25 113 (720 : Int32))) (fun e9 => absurd ((hk_522).symm.trans ((congrArg (hK _) e9).trans hk_543)) (by decide)) ((fun (j9 : Nat) (h9 : j9 < 16) => rd_tIa (S := (tI S_485 q_13 16 (vp_nar .boolean 1))) (fun e9 => absurd ((hk_522).symm.trans ((congrArg (hK _) e9).trans hk_543)) (by decide)) ((fun (j9 : Nat) (h9 : j9 < 16) => rd_tIj (S := S_485) (j := 16) (by omega) ((fun j9 _ => hz_494 j9) j9 h9)) j9 h9)) j9 h9))
      have hm_607 : q_139 ∈ hL S_582 := by rw [eS_583]; exact hm_524
      have hk_608 : Kd S_582 q_139 13 := by rw [eS_583]; exact hk_525
      have hn_609 : Ln S_582 q_139 64000 := by rw [eS_583]; exact hn_526
      have hz_610 : ∀ j, aI S_582 q_139 j = 0 := by rw [eS_583]; exact (fun j9 => rd_tIa (S := (tI (tI S_485 q_13 16 (vp_nar .boolean 1)) q_25 113 (720 : Int32))) (fun e9 => absurd ((hk_525).symm.trans ((congrArg (hK _) e9).trans hk_543)) (by decide)) ((fun j9 => rd_tIa (S := (tI S_485 q_13 16 (vp_nar .boolean 1))) (fun e9 => absurd ((hk_525).symm.trans ((congrArg (hK _) e9).trans hk_543)) (by decide)) ((fun j9 => rd_tIa (S := S_485) (fun e9 => absurd ((hk_525).symm.trans ((congrArg (hK _) e9).trans hk_522)) (by decide)) (hz_495 j9)) j9)) j9))
      have hm_611 : q_163 ∈ hL S_582 := by rw [eS_583]; exact hm_527
      have hk_612 : Kd S_582 q_163 13 := by rw [eS_583]; exact hk_528
      have hn_613 : Ln S_582 q_163 60008 := by rw [eS_583]; exact hn_529
      have hz_614 : ∀ j, aI S_582 q_163 j = 0 := by rw [eS_583]; exact (fun j9 => rd_tIa (S := (tI (tI S_485 q_13 16 (vp_nar .boolean 1)) q_25 113 (720 : Int32))) (fun e9 => absurd ((hk_528).symm.trans ((congrArg (hK _) e9).trans hk_543)) (by decide)) ((fun j9 => rd_tIa (S := (tI S_485 q_13 16 (vp_nar .boolean 1))) (fun e9 => absurd ((hk_528).symm.trans ((congrArg (hK _) e9).trans hk_543)) (by decide)) ((fun j9 => rd_tIa (S := S_485) (fun e9 => absurd ((hk_528).symm.trans ((congrArg (hK _) e9).trans hk_522)) (by decide)) (hz_496 j9)) j9)) j9))
      have hm_615 : q_169 ∈ hL S_582 := by rw [eS_583]; exact hm_530
      have hk_616 : Kd S_582 q_169 14 := by rw [eS_583]; exact hk_531
      have hn_617 : Ln S_582 q_169 12 := by rw [eS_583]; exact hn_532
      have hz_618 : ∀ j, aI S_582 q_169 j = 0 := by rw [eS_583]; exact (fun j9 => rd_tIa (S := (tI (tI S_485 q_13 16 (vp_nar .boolean 1)) q_25 113 (720 : Int32))) (Ne.symm ne_479) ((fun j9 => rd_tIa (S := (tI S_485 q_13 16 (vp_nar .boolean 1))) (Ne.symm ne_479) ((fun j9 => rd_tIa (S := S_485) (fun e9 => absurd ((hk_531).symm.trans ((congrArg (hK _) e9).trans hk_522)) (by decide)) (hz_497 j9)) j9)) j9))
      have hm_619 : q_187 ∈ hL S_582 := by rw [eS_583]; exact hm_533
      have hk_620 : Kd S_582 q_187 14 := by rw [eS_583]; exact hk_534
      have hn_621 : Ln S_582 q_187 148 := by rw [eS_583]; exact hn_535
      have hz_622 : ∀ j, aI S_582 q_187 j = 0 := by rw [eS_583]; exact (fun j9 => rd_tIa (S := (tI (tI S_485 q_13 16 (vp_nar .boolean 1)) q_25 113 (720 : Int32))) (Ne.symm ne_459) ((fun j9 => rd_tIa (S := (tI S_485 q_13 16 (vp_nar .boolean 1))) (Ne.symm ne_459) ((fun j9 => rd_tIa (S := S_485) (fun e9 => absurd ((hk_534).symm.trans ((congrArg (hK _) e9).trans hk_522)) (by decide)) (hz_498 j9)) j9)) j9))
      have hm_623 : q_19 ∈ hL S_582 := by rw [eS_583]; exact hm_536
      have hk_624 : Kd S_582 q_19 17 := by rw [eS_583]; exact hk_537
      have hn_625 : Ln S_582 q_19 17 := by rw [eS_583]; exact hn_538
      have hz_626 : ∀ j, aI S_582 q_19 j = 0 := by rw [eS_583]; exact (fun j9 => rd_tIa (S := (tI (tI S_485 q_13 16 (vp_nar .boolean 1)) q_25 113 (720 : Int32))) (fun e9 => absurd ((hk_537).symm.trans ((congrArg (hK _) e9).trans hk_543)) (by decide)) ((fun j9 => rd_tIa (S := (tI S_485 q_13 16 (vp_nar .boolean 1))) (fun e9 => absurd ((hk_537).symm.trans ((congrArg (hK _) e9).trans hk_543)) (by decide)) ((fun j9 => rd_tIa (S := S_485) (Ne.symm ne_457) (hz_499 j9)) j9)) j9))
      have hm_627 : q_193 ∈ hL S_582 := by rw [eS_583]; exact hm_539
      have hk_628 : Kd S_582 q_193 14 := by rw [eS_583]; exact hk_540
      have hn_629 : Ln S_582 q_193 148 := by rw [eS_583]; exact hn_541
      have hz_630 : ∀ j, aI S_582 q_193 j = 0 := by rw [eS_583]; exact (fun j9 => rd_tIa (S := (tI (tI S_485 q_13 16 (vp_nar .boolean 1)) q_25 113 (720 : Int32))) (Ne.symm ne_460) ((fun j9 => rd_tIa (S := (tI S_485 q_13 16 (vp_nar .boolean 1))) (Ne.symm ne_460) ((fun j9 => rd_tIa (S := S_485) (fun e9 => absurd ((hk_540).symm.trans ((congrArg (hK _) e9).trans hk_522)) (by decide)) (hz_500 j9)) j9)) j9))
      have hm_631 : q_25 ∈ hL S_582 := by rw [eS_583]; exact hm_542
      have hk_632 : Kd S_582 q_25 14 := by rw [eS_583]; exact hk_543
      have hn_633 : Ln S_582 q_25 119 := by rw [eS_583]; exact hn_544
      have hm_634 : q_31 ∈ hL S_582 := by rw [eS_583]; exact hm_545
      have hk_635 : Kd S_582 q_31 14 := by rw [eS_583]; exact hk_546
      have hn_636 : Ln S_582 q_31 4096 := by rw [eS_583]; exact hn_547
      have hm_637 : q_55 ∈ hL S_582 := by rw [eS_583]; exact hm_548
      have hk_638 : Kd S_582 q_55 17 := by rw [eS_583]; exact hk_549
      have hn_639 : Ln S_582 q_55 16 := by rw [eS_583]; exact hn_550
      have hz_640 : ∀ j, aI S_582 q_55 j = 0 := by rw [eS_583]; exact (fun j9 => rd_tIa (S := (tI (tI S_485 q_13 16 (vp_nar .boolean 1)) q_25 113 (720 : Int32))) (fun e9 => absurd ((hk_549).symm.trans ((congrArg (hK _) e9).trans hk_543)) (by decide)) ((fun j9 => rd_tIa (S := (tI S_485 q_13 16 (vp_nar .boolean 1))) (fun e9 => absurd ((hk_549).symm.trans ((congrArg (hK _) e9).trans hk_543)) (by decide)) ((fun j9 => rd_tIa (S := S_485) (Ne.symm ne_463) (hz_502 j9)) j9)) j9))
      have hm_641 : q_61 ∈ hL S_582 := by rw [eS_583]; exact hm_551
      have hk_642 : Kd S_582 q_61 17 := by rw [eS_583]; exact hk_552
      have hn_643 : Ln S_582 q_61 16 := by rw [eS_583]; exact hn_553
      have hz_644 : ∀ j, aI S_582 q_61 j = 0 := by rw [eS_583]; exact (fun j9 => rd_tIa (S := (tI (tI S_485 q_13 16 (vp_nar .boolean 1)) q_25 113 (720 : Int32))) (fun e9 => absurd ((hk_552).symm.trans ((congrArg (hK _) e9).trans hk_543)) (by decide)) ((fun j9 => rd_tIa (S := (tI S_485 q_13 16 (vp_nar .boolean 1))) (fun e9 => absurd ((hk_552).symm.trans ((congrArg (hK _) e9).trans hk_543)) (by decide)) ((fun j9 => rd_tIa (S := S_485) (Ne.symm ne_464) (hz_503 j9)) j9)) j9))
      have hm_645 : q_85 ∈ hL S_582 := by rw [eS_583]; exact hm_554
      have hk_646 : Kd S_582 q_85 17 := by rw [eS_583]; exact hk_555
      have hn_647 : Ln S_582 q_85 16 := by rw [eS_583]; exact hn_556
      have hz_648 : ∀ j, aI S_582 q_85 j = 0 := by rw [eS_583]; exact (fun j9 => rd_tIa (S := (tI (tI S_485 q_13 16 (vp_nar .boolean 1)) q_25 113 (720 : Int32))) (fun e9 => absurd ((hk_555).symm.trans ((congrArg (hK _) e9).trans hk_543)) (by decide)) ((fun j9 => rd_tIa (S := (tI S_485 q_13 16 (vp_nar .boolean 1))) (fun e9 => absurd ((hk_555).symm.trans ((congrArg (hK _) e9).trans hk_543)) (by decide)) ((fun j9 => rd_tIa (S := S_485) (Ne.symm ne_465) (hz_504 j9)) j9)) j9))
      have hm_649 : q_91 ∈ hL S_582 := by rw [eS_583]; exact hm_557
      have hk_650 : Kd S_582 q_91 17 := by rw [eS_583]; exact hk_558
      have hn_651 : Ln S_582 q_91 16 := by rw [eS_583]; exact hn_559
      have hz_652 : ∀ j, aI S_582 q_91 j = 0 := by rw [eS_583]; exact (fun j9 => rd_tIa (S := (tI (tI S_485 q_13 16 (vp_nar .boolean 1)) q_25 113 (720 : Int32))) (fun e9 => absurd ((hk_558).symm.trans ((congrArg (hK _) e9).trans hk_543)) (by decide)) ((fun j9 => rd_tIa (S := (tI S_485 q_13 16 (vp_nar .boolean 1))) (fun e9 => absurd ((hk_558).symm.trans ((congrArg (hK _) e9).trans hk_543)) (by decide)) ((fun j9 => rd_tIa (S := S_485) (Ne.symm ne_466) (hz_505 j9)) j9)) j9))
      have hm_653 : q_97 ∈ hL S_582 := by rw [eS_583]; exact hm_560
      have hk_654 : Kd S_582 q_97 14 := by rw [eS_583]; exact hk_561
      have hn_655 : Ln S_582 q_97 16 := by rw [eS_583]; exact hn_562
      have hz_656 : ∀ j, aI S_582 q_97 j = 0 := by rw [eS_583]; exact (fun j9 => rd_tIa (S := (tI (tI S_485 q_13 16 (vp_nar .boolean 1)) q_25 113 (720 : Int32))) (Ne.symm ne_467) ((fun j9 => rd_tIa (S := (tI S_485 q_13 16 (vp_nar .boolean 1))) (Ne.symm ne_467) ((fun j9 => rd_tIa (S := S_485) (fun e9 => absurd ((hk_561).symm.trans ((congrArg (hK _) e9).trans hk_522)) (by decide)) (hz_506 j9)) j9)) j9))
      have hv_657 : hI S_582 1244 h = (-1) := by rw [eS_583]; exact (rd_sIf (S := (sI (tI (tI (tI S_485 q_13 16 (vp_nar .boolean 1)) q_25 113 (720 : Int32)) q_25 114 (8 : Int32)) 1244 h (-1))) (g := 1245) (a := h) (v := (-1)) (by decide) (rd_sI (S := (tI (tI (tI S_485 q_13 16 (vp_nar .boolean 1)) q_25 113 (720 : Int32)) q_25 114 (8 : Int32))) (g := 1244) (a := h) (v := (-1))))
      have hv_658 : hI S_582 1245 h = (-1) := by rw [eS_583]; exact (rd_sI (S := (sI (tI (tI (tI S_485 q_13 16 (vp_nar .boolean 1)) q_25 113 (720 : Int32)) q_25 114 (8 : Int32)) 1244 h (-1))) (g := 1245) (a := h) (v := (-1)))
      have hv_659 : hR S_582 1202 h = (some q_13) := by rw [eS_583]; exact hv_563
      have hv_660 : hR S_582 1203 h = (some q_19) := by rw [eS_583]; exact hv_564
      have hv_661 : hR S_582 1204 h = (some q_25) := by rw [eS_583]; exact hv_565
      have hv_662 : hR S_582 1205 h = (some q_31) := by rw [eS_583]; exact hv_566
      have hv_663 : hR S_582 1210 h = (some q_55) := by rw [eS_583]; exact hv_567
      have hv_664 : hR S_582 1211 h = (some q_61) := by rw [eS_583]; exact hv_568
      have hv_665 : hR S_582 1215 h = (some q_85) := by rw [eS_583]; exact hv_569
      have hv_666 : hR S_582 1216 h = (some q_91) := by rw [eS_583]; exact hv_570
      have hv_667 : hR S_582 1217 h = (some q_97) := by rw [eS_583]; exact hv_571
      have hv_668 : hR S_582 1219 h = (some q_109) := by rw [eS_583]; exact hv_572
      have hv_669 : hR S_582 1220 h = (some q_115) := by rw [eS_583]; exact hv_573
      have hv_670 : hR S_582 1221 h = (some q_121) := by rw [eS_583]; exact hv_574
      have hv_671 : hR S_582 1223 h = (some q_127) := by rw [eS_583]; exact hv_575
      have hv_672 : hR S_582 1234 h = (some q_139) := by rw [eS_583]; exact hv_576
      have hv_673 : hR S_582 1241 h = (some q_163) := by rw [eS_583]; exact hv_577
      have hv_674 : hR S_582 1246 h = (some q_169) := by rw [eS_583]; exact hv_578
      have hv_675 : hR S_582 1256 h = (some q_187) := by rw [eS_583]; exact hv_579
      have hv_676 : hR S_582 1257 h = (some q_193) := by rw [eS_583]; exact hv_580
      have hf_677 : Fm (fun f9 b9 => (f9 = 1244 ∧ b9 = h) ∨ (f9 = 1245 ∧ b9 = h)) (fun f9 b9 => b9 = h) (fun _ => False) S S_582 := by rw [eS_583]; exact hf_584
      refine j_callV (ci := 12) C [] [] mlX12_143 mcX12_readCodes (c_X12_readCodes S_582 h q_187 q_193 hm_585 hk_586 hv_675 hv_676 hm_619 hk_620 hn_621 hm_627 hk_628 hn_629) hm_585 hk_586 rfl (M.rm (by decide) (by decide) (Nat.le_of_ble_eq_true rfl) (Nat.le_of_ble_eq_true rfl)) rfl rfl (Nat.le_of_ble_eq_true rfl) dX12_init_401 (fun r_678 S_679 hp_680 => ?_)
      obtain ⟨rfl, hf_681⟩ := hp_680
      refine J.eq (st' := []) rfl rfl rfl ?_
      have hz_682 : ∀ j, aI S_679 q_109 j = 0 := fun j9 => (hf_681.ai hm_587 (fun h9 => h9.elim (fun q9 => (fun e9 => absurd ((hk_588).symm.trans ((congrArg (hK _) e9).trans hk_620)) (by decide)) q9) (fun q9 => (fun e9 => absurd ((hk_588).symm.trans ((congrArg (hK _) e9).trans hk_628)) (by decide)) q9)) j9).trans (hz_590 j9)
      have hz_683 : ∀ j, aI S_679 q_115 j = 0 := fun j9 => (hf_681.ai hm_591 (fun h9 => h9.elim (fun q9 => ne_473 q9) (fun q9 => ne_474 q9)) j9).trans (hz_594 j9)
      have hz_684 : ∀ j, aI S_679 q_121 j = 0 := fun j9 => (hf_681.ai hm_595 (fun h9 => h9.elim (fun q9 => ne_477 q9) (fun q9 => ne_478 q9)) j9).trans (hz_598 j9)
      have hz_685 : ∀ j, aI S_679 q_127 j = 0 := fun j9 => (hf_681.ai hm_599 (fun h9 => h9.elim (fun q9 => (fun e9 => absurd ((hk_600).symm.trans ((congrArg (hK _) e9).trans hk_620)) (by decide)) q9) (fun q9 => (fun e9 => absurd ((hk_600).symm.trans ((congrArg (hK _) e9).trans hk_628)) (by decide)) q9)) j9).trans (hz_602 j9)
      have hz_686 : ∀ j, aI S_679 q_139 j = 0 := fun j9 => (hf_681.ai hm_607 (fun h9 => h9.elim (fun q9 => (fun e9 => absurd ((hk_608).symm.trans ((congrArg (hK _) e9).trans hk_620)) (by decide)) q9) (fun q9 => (fun e9 => absurd ((hk_608).symm.trans ((congrArg (hK _) e9).trans hk_628)) (by decide)) q9)) j9).trans (hz_610 j9)
      have hz_687 : ∀ j, aI S_679 q_163 j = 0 := fun j9 => (hf_681.ai hm_611 (fun h9 => h9.elim (fun q9 => (fun e9 => absurd ((hk_612).symm.trans ((congrArg (hK _) e9).trans hk_620)) (by decide)) q9) (fun q9 => (fun e9 => absurd ((hk_612).symm.trans ((congrArg (hK _) e9).trans hk_628)) (by decide)) q9)) j9).trans (hz_614 j9)
      have hz_688 : ∀ j, aI S_679 q_169 j = 0 := fun j9 => (hf_681.ai hm_615 (fun h9 => h9.elim (fun q9 => ne_481 q9) (fun q9 => ne_482 q9)) j9).trans (hz_618 j9)
      have hz_689 : ∀ j, aI S_679 q_19 j = 0 := fun j9 => (hf_681.ai hm_623 (fun h9 => h9.elim (fun q9 => (fun e9 => absurd ((hk_624).symm.trans ((congrArg (hK _) e9).trans hk_620)) (by decide)) q9) (fun q9 => (fun e9 => absurd ((hk_624).symm.trans ((congrArg (hK _) e9).trans hk_628)) (by decide)) q9)) j9).trans (hz_626 j9)
      have hz_690 : ∀ j, aI S_679 q_55 j = 0 := fun j9 => (hf_681.ai hm_637 (fun h9 => h9.elim (fun q9 => (fun e9 => absurd ((hk_638).symm.trans ((congrArg (hK _) e9).trans hk_620)) (by decide)) q9) (fun q9 => (fun e9 => absurd ((hk_638).symm.trans ((congrArg (hK _) e9).trans hk_628)) (by decide)) q9)) j9).trans (hz_640 j9)
      have hz_691 : ∀ j, aI S_679 q_61 j = 0 := fun j9 => (hf_681.ai hm_641 (fun h9 => h9.elim (fun q9 => (fun e9 => absurd ((hk_642).symm.trans ((congrArg (hK _) e9).trans hk_620)) (by decide)) q9) (fun q9 => (fun e9 => absurd ((hk_642).symm.trans ((congrArg (hK _) e9).trans hk_628)) (by decide)) q9)) j9).trans (hz_644 j9)
      have hz_692 : ∀ j, aI S_679 q_85 j = 0 := fun j9 => (hf_681.ai hm_645 (fun h9 => h9.elim (fun q9 => (fun e9 => absurd ((hk_646).symm.trans ((congrArg (hK _) e9).trans hk_620)) (by decide)) q9) (fun q9 => (fun e9 => absurd ((hk_646).symm.trans ((congrArg (hK _) e9).trans hk_628)) (by decide)) q9)) j9).trans (hz_648 j9)
      have hz_693 : ∀ j, aI S_679 q_91 j = 0 := fun j9 => (hf_681.ai hm_649 (fun h9 => h9.elim (fun q9 => (fun e9 => absurd ((hk_650).symm.trans ((congrArg (hK _) e9).trans hk_620)) (by decide)) q9) (fun q9 => (fun e9 => absurd ((hk_650).symm.trans ((congrArg (hK _) e9).trans hk_628)) (by decide)) q9)) j9).trans (hz_652 j9)
      have hz_694 : ∀ j, aI S_679 q_97 j = 0 := fun j9 => (hf_681.ai hm_653 (fun h9 => h9.elim (fun q9 => ne_469 q9) (fun q9 => ne_470 q9)) j9).trans (hz_656 j9)
      have hy_695 : ∀ j, j < 16 → aI S_679 q_13 j = 0 := fun j9 h9 => (hf_681.ai hm_603 (fun h9 => h9.elim (fun q9 => (fun e9 => absurd ((hk_604).symm.trans ((congrArg (hK _) e9).trans hk_620)) (by decide)) q9) (fun q9 => (fun e9 => absurd ((hk_604).symm.trans ((congrArg (hK _) e9).trans hk_628)) (by decide)) q9)) j9).trans (hy_606 j9 h9)
      have hm_696 : h ∈ hL S_679 := hf_681.mem hm_585
      have hk_697 : Kd S_679 h 12 := hf_681.kd hm_585 hk_586
      have hm_698 : q_109 ∈ hL S_679 := hf_681.mem hm_587
      have hk_699 : Kd S_679 q_109 13 := hf_681.kd hm_587 hk_588
      have hn_700 : Ln S_679 q_109 12000 := hf_681.ln hm_587 hn_589
      have hm_701 : q_115 ∈ hL S_679 := hf_681.mem hm_591
      have hk_702 : Kd S_679 q_115 14 := hf_681.kd hm_591 hk_592
      have hn_703 : Ln S_679 q_115 7 := hf_681.ln hm_591 hn_593
      have hm_704 : q_121 ∈ hL S_679 := hf_681.mem hm_595
      have hk_705 : Kd S_679 q_121 14 := hf_681.kd hm_595 hk_596
      have hn_706 : Ln S_679 q_121 6 := hf_681.ln hm_595 hn_597
      have hm_707 : q_127 ∈ hL S_679 := hf_681.mem hm_599
      have hk_708 : Kd S_679 q_127 13 := hf_681.kd hm_599 hk_600
      have hn_709 : Ln S_679 q_127 8000 := hf_681.ln hm_599 hn_601
      have hm_710 : q_13 ∈ hL S_679 := hf_681.mem hm_603
      have hk_711 : Kd S_679 q_13 17 := hf_681.kd hm_603 hk_604
      have hn_712 : Ln S_679 q_13 17 := hf_681.ln hm_603 hn_605
      have hm_713 : q_139 ∈ hL S_679 := hf_681.mem hm_607
      have hk_714 : Kd S_679 q_139 13 := hf_681.kd hm_607 hk_608
      have hn_715 : Ln S_679 q_139 64000 := hf_681.ln hm_607 hn_609
      have hm_716 : q_163 ∈ hL S_679 := hf_681.mem hm_611
      have hk_717 : Kd S_679 q_163 13 := hf_681.kd hm_611 hk_612
      have hn_718 : Ln S_679 q_163 60008 := hf_681.ln hm_611 hn_613
      have hm_719 : q_169 ∈ hL S_679 := hf_681.mem hm_615
      have hk_720 : Kd S_679 q_169 14 := hf_681.kd hm_615 hk_616
      have hn_721 : Ln S_679 q_169 12 := hf_681.ln hm_615 hn_617
      have hm_722 : q_187 ∈ hL S_679 := hf_681.mem hm_619
      have hk_723 : Kd S_679 q_187 14 := hf_681.kd hm_619 hk_620
      have hn_724 : Ln S_679 q_187 148 := hf_681.ln hm_619 hn_621
      have hm_725 : q_19 ∈ hL S_679 := hf_681.mem hm_623
      have hk_726 : Kd S_679 q_19 17 := hf_681.kd hm_623 hk_624
      have hn_727 : Ln S_679 q_19 17 := hf_681.ln hm_623 hn_625
      have hm_728 : q_193 ∈ hL S_679 := hf_681.mem hm_627
      have hk_729 : Kd S_679 q_193 14 := hf_681.kd hm_627 hk_628
      have hn_730 : Ln S_679 q_193 148 := hf_681.ln hm_627 hn_629
      have hm_731 : q_25 ∈ hL S_679 := hf_681.mem hm_631
      have hk_732 : Kd S_679 q_25 14 := hf_681.kd hm_631 hk_632
      have hn_733 : Ln S_679 q_25 119 := hf_681.ln hm_631 hn_633
      have hm_734 : q_31 ∈ hL S_679 := hf_681.mem hm_634
      have hk_735 : Kd S_679 q_31 14 := hf_681.kd hm_634 hk_635
      have hn_736 : Ln S_679 q_31 4096 := hf_681.ln hm_634 hn_636
      have hm_737 : q_55 ∈ hL S_679 := hf_681.mem hm_637
      have hk_738 : Kd S_679 q_55 17 := hf_681.kd hm_637 hk_638
      have hn_739 : Ln S_679 q_55 16 := hf_681.ln hm_637 hn_639
      have hm_740 : q_61 ∈ hL S_679 := hf_681.mem hm_641
      have hk_741 : Kd S_679 q_61 17 := hf_681.kd hm_641 hk_642
      have hn_742 : Ln S_679 q_61 16 := hf_681.ln hm_641 hn_643
      have hm_743 : q_85 ∈ hL S_679 := hf_681.mem hm_645
      have hk_744 : Kd S_679 q_85 17 := hf_681.kd hm_645 hk_646
      have hn_745 : Ln S_679 q_85 16 := hf_681.ln hm_645 hn_647
      have hm_746 : q_91 ∈ hL S_679 := hf_681.mem hm_649
      have hk_747 : Kd S_679 q_91 17 := hf_681.kd hm_649 hk_650
      have hn_748 : Ln S_679 q_91 16 := hf_681.ln hm_649 hn_651
      have hm_749 : q_97 ∈ hL S_679 := hf_681.mem hm_653
      have hk_750 : Kd S_679 q_97 14 := hf_681.kd hm_653 hk_654
      have hn_751 : Ln S_679 q_97 16 := hf_681.ln hm_653 hn_655
      have hv_752 : hI S_679 1244 h = (-1) := hf_681.fi hm_585 (fun h9 => h9) hv_657
      have hv_753 : hI S_679 1245 h = (-1) := hf_681.fi hm_585 (fun h9 => h9) hv_658
      have hv_754 : hR S_679 1202 h = (some q_13) := hf_681.fr hm_585 (fun h9 => h9) hv_659
      have hv_755 : hR S_679 1203 h = (some q_19) := hf_681.fr hm_585 (fun h9 => h9) hv_660
      have hv_756 : hR S_679 1204 h = (some q_25) := hf_681.fr hm_585 (fun h9 => h9) hv_661
      have hv_757 : hR S_679 1205 h = (some q_31) := hf_681.fr hm_585 (fun h9 => h9) hv_662
      have hv_758 : hR S_679 1210 h = (some q_55) := hf_681.fr hm_585 (fun h9 => h9) hv_663
      have hv_759 : hR S_679 1211 h = (some q_61) := hf_681.fr hm_585 (fun h9 => h9) hv_664
      have hv_760 : hR S_679 1215 h = (some q_85) := hf_681.fr hm_585 (fun h9 => h9) hv_665
      have hv_761 : hR S_679 1216 h = (some q_91) := hf_681.fr hm_585 (fun h9 => h9) hv_666
      have hv_762 : hR S_679 1217 h = (some q_97) := hf_681.fr hm_585 (fun h9 => h9) hv_667
      have hv_763 : hR S_679 1219 h = (some q_109) := hf_681.fr hm_585 (fun h9 => h9) hv_668
      have hv_764 : hR S_679 1220 h = (some q_115) := hf_681.fr hm_585 (fun h9 => h9) hv_669
      have hv_765 : hR S_679 1221 h = (some q_121) := hf_681.fr hm_585 (fun h9 => h9) hv_670
      have hv_766 : hR S_679 1223 h = (some q_127) := hf_681.fr hm_585 (fun h9 => h9) hv_671
      have hv_767 : hR S_679 1234 h = (some q_139) := hf_681.fr hm_585 (fun h9 => h9) hv_672
      have hv_768 : hR S_679 1241 h = (some q_163) := hf_681.fr hm_585 (fun h9 => h9) hv_673
      have hv_769 : hR S_679 1246 h = (some q_169) := hf_681.fr hm_585 (fun h9 => h9) hv_674
      have hv_770 : hR S_679 1256 h = (some q_187) := hf_681.fr hm_585 (fun h9 => h9) hv_675
      have hv_771 : hR S_679 1257 h = (some q_193) := hf_681.fr hm_585 (fun h9 => h9) hv_676
      have hf_772 : Fm (fun f9 b9 => (f9 = 1244 ∧ b9 = h) ∨ (f9 = 1245 ∧ b9 = h)) (fun f9 b9 => b9 = h) (fun _ => False) S S_679 := hf_677.then hf_681 (fun a9 ha9 => ⟨(fun f9 h9 => h9.elim), (fun f9 h9 => h9.elim), (fun h9 => (fun h9 => h9.elim (fun h8 => absurd (h8 ▸ ha9) hz_444) (fun h8 => absurd (h8 ▸ ha9) hz_456)) h9)⟩)
      exact j_vret C M dX12_init_404 (Nat.le_of_ble_eq_true rfl) (Nat.le_of_ble_eq_true rfl) ⟨rfl, hf_772, hv_752, hv_753, q_109, q_115, q_121, q_127, q_139, q_13, q_55, q_85, q_97, q_163, q_19, q_61, q_91, q_169, hz_360, hm_698, hk_699, hn_700, hv_763, hz_372, hm_701, hk_702, hn_703, hv_764, hz_683, hz_384, hm_704, hk_705, hn_706, hv_765, hz_396, hm_707, hk_708, hn_709, hv_766, hz_408, hm_713, hk_714, hn_715, hv_767, hz_252, hm_710, hk_711, hn_712, hv_754, hy_695, hz_300, hm_737, hk_738, hn_739, hv_758, hz_690, hz_324, hm_743, hk_744, hn_745, hv_760, hz_692, hz_348, hm_749, hk_750, hn_751, hv_762, hz_420, hm_716, hk_717, hn_718, hv_768, hz_264, hm_725, hk_726, hn_727, hv_755, hz_312, hm_740, hk_741, hn_742, hv_759, hz_336, hm_746, hk_747, hn_748, hv_761, hz_432, hm_719, hk_720, hn_721, hv_769⟩
    | succ m9 ih_487 =>
      intro j1 S_485  hi_489 hl_486 
      have hz_773 : ∀ j, aI S_485 q_109 j = 0 := fun j9 => (hl_486.ai e_358 (fun q9 => (fun e9 => absurd ((e_355).symm.trans ((congrArg (hK _) e9).trans e_283)) (by decide)) q9) j9).trans (e_359 j9)
      have hz_774 : ∀ j, aI S_485 q_115 j = 0 := fun j9 => (hl_486.ai e_370 (fun q9 => (Ne.symm ne_472) q9) j9).trans (e_371 j9)
      have hz_775 : ∀ j, aI S_485 q_121 j = 0 := fun j9 => (hl_486.ai e_382 (fun q9 => (Ne.symm ne_476) q9) j9).trans (e_383 j9)
      have hz_776 : ∀ j, aI S_485 q_127 j = 0 := fun j9 => (hl_486.ai e_394 (fun q9 => (fun e9 => absurd ((e_391).symm.trans ((congrArg (hK _) e9).trans e_283)) (by decide)) q9) j9).trans (e_395 j9)
      have hz_777 : ∀ j, aI S_485 q_13 j = 0 := fun j9 => (hl_486.ai e_250 (fun q9 => (fun e9 => absurd ((e_247).symm.trans ((congrArg (hK _) e9).trans e_283)) (by decide)) q9) j9).trans (e_251 j9)
      have hz_778 : ∀ j, aI S_485 q_139 j = 0 := fun j9 => (hl_486.ai e_406 (fun q9 => (fun e9 => absurd ((e_403).symm.trans ((congrArg (hK _) e9).trans e_283)) (by decide)) q9) j9).trans (e_407 j9)
      have hz_779 : ∀ j, aI S_485 q_163 j = 0 := fun j9 => (hl_486.ai e_418 (fun q9 => (fun e9 => absurd ((e_415).symm.trans ((congrArg (hK _) e9).trans e_283)) (by decide)) q9) j9).trans (e_419 j9)
      have hz_780 : ∀ j, aI S_485 q_169 j = 0 := fun j9 => (hl_486.ai e_430 (fun q9 => (Ne.symm ne_480) q9) j9).trans (e_431 j9)
      have hz_781 : ∀ j, aI S_485 q_187 j = 0 := fun j9 => (hl_486.ai e_442 (fun q9 => (Ne.symm ne_461) q9) j9).trans (e_443 j9)
      have hz_782 : ∀ j, aI S_485 q_19 j = 0 := fun j9 => (hl_486.ai e_262 (fun q9 => (fun e9 => absurd ((e_259).symm.trans ((congrArg (hK _) e9).trans e_283)) (by decide)) q9) j9).trans (e_263 j9)
      have hz_783 : ∀ j, aI S_485 q_193 j = 0 := fun j9 => (hl_486.ai e_454 (fun q9 => (Ne.symm ne_462) q9) j9).trans (e_455 j9)
      have hz_784 : ∀ j, aI S_485 q_25 j = 0 := fun j9 => (hl_486.ai e_274 (fun q9 => ne_458 q9) j9).trans (e_275 j9)
      have hz_785 : ∀ j, aI S_485 q_55 j = 0 := fun j9 => (hl_486.ai e_298 (fun q9 => (fun e9 => absurd ((e_295).symm.trans ((congrArg (hK _) e9).trans e_283)) (by decide)) q9) j9).trans (e_299 j9)
      have hz_786 : ∀ j, aI S_485 q_61 j = 0 := fun j9 => (hl_486.ai e_310 (fun q9 => (fun e9 => absurd ((e_307).symm.trans ((congrArg (hK _) e9).trans e_283)) (by decide)) q9) j9).trans (e_311 j9)
      have hz_787 : ∀ j, aI S_485 q_85 j = 0 := fun j9 => (hl_486.ai e_322 (fun q9 => (fun e9 => absurd ((e_319).symm.trans ((congrArg (hK _) e9).trans e_283)) (by decide)) q9) j9).trans (e_323 j9)
      have hz_788 : ∀ j, aI S_485 q_91 j = 0 := fun j9 => (hl_486.ai e_334 (fun q9 => (fun e9 => absurd ((e_331).symm.trans ((congrArg (hK _) e9).trans e_283)) (by decide)) q9) j9).trans (e_335 j9)
      have hz_789 : ∀ j, aI S_485 q_97 j = 0 := fun j9 => (hl_486.ai e_346 (fun q9 => (Ne.symm ne_468) q9) j9).trans (e_347 j9)
      have hy_790 : ∀ j, j < 16 → aI S_485 q_13 j = 0 := fun j9 h9 => (hl_486.ai e_250 (fun q9 => (fun e9 => absurd ((e_247).symm.trans ((congrArg (hK _) e9).trans e_283)) (by decide)) q9) j9).trans ((fun j9 _ => e_251 j9) j9 h9)
      have hm_791 : h ∈ hL S_485 := hl_486.mem hm_239
      have hk_792 : Kd S_485 h 12 := hl_486.kd hm_239 hk_240
      have hm_793 : q_109 ∈ hL S_485 := hl_486.mem e_358
      have hk_794 : Kd S_485 q_109 13 := hl_486.kd e_358 e_355
      have hn_795 : Ln S_485 q_109 12000 := hl_486.ln e_358 e_356
      have hm_796 : q_115 ∈ hL S_485 := hl_486.mem e_370
      have hk_797 : Kd S_485 q_115 14 := hl_486.kd e_370 e_367
      have hn_798 : Ln S_485 q_115 7 := hl_486.ln e_370 e_368
      have hm_799 : q_121 ∈ hL S_485 := hl_486.mem e_382
      have hk_800 : Kd S_485 q_121 14 := hl_486.kd e_382 e_379
      have hn_801 : Ln S_485 q_121 6 := hl_486.ln e_382 e_380
      have hm_802 : q_127 ∈ hL S_485 := hl_486.mem e_394
      have hk_803 : Kd S_485 q_127 13 := hl_486.kd e_394 e_391
      have hn_804 : Ln S_485 q_127 8000 := hl_486.ln e_394 e_392
      have hm_805 : q_13 ∈ hL S_485 := hl_486.mem e_250
      have hk_806 : Kd S_485 q_13 17 := hl_486.kd e_250 e_247
      have hn_807 : Ln S_485 q_13 17 := hl_486.ln e_250 e_248
      have hm_808 : q_139 ∈ hL S_485 := hl_486.mem e_406
      have hk_809 : Kd S_485 q_139 13 := hl_486.kd e_406 e_403
      have hn_810 : Ln S_485 q_139 64000 := hl_486.ln e_406 e_404
      have hm_811 : q_163 ∈ hL S_485 := hl_486.mem e_418
      have hk_812 : Kd S_485 q_163 13 := hl_486.kd e_418 e_415
      have hn_813 : Ln S_485 q_163 60008 := hl_486.ln e_418 e_416
      have hm_814 : q_169 ∈ hL S_485 := hl_486.mem e_430
      have hk_815 : Kd S_485 q_169 14 := hl_486.kd e_430 e_427
      have hn_816 : Ln S_485 q_169 12 := hl_486.ln e_430 e_428
      have hm_817 : q_187 ∈ hL S_485 := hl_486.mem e_442
      have hk_818 : Kd S_485 q_187 14 := hl_486.kd e_442 e_439
      have hn_819 : Ln S_485 q_187 148 := hl_486.ln e_442 e_440
      have hm_820 : q_19 ∈ hL S_485 := hl_486.mem e_262
      have hk_821 : Kd S_485 q_19 17 := hl_486.kd e_262 e_259
      have hn_822 : Ln S_485 q_19 17 := hl_486.ln e_262 e_260
      have hm_823 : q_193 ∈ hL S_485 := hl_486.mem e_454
      have hk_824 : Kd S_485 q_193 14 := hl_486.kd e_454 e_451
      have hn_825 : Ln S_485 q_193 148 := hl_486.ln e_454 e_452
      have hm_826 : q_25 ∈ hL S_485 := hl_486.mem e_274
      have hk_827 : Kd S_485 q_25 14 := hl_486.kd e_274 e_271
      have hn_828 : Ln S_485 q_25 119 := hl_486.ln e_274 e_272
      have hm_829 : q_31 ∈ hL S_485 := hl_486.mem e_286
      have hk_830 : Kd S_485 q_31 14 := hl_486.kd e_286 e_283
      have hn_831 : Ln S_485 q_31 4096 := hl_486.ln e_286 e_284
      have hm_832 : q_55 ∈ hL S_485 := hl_486.mem e_298
      have hk_833 : Kd S_485 q_55 17 := hl_486.kd e_298 e_295
      have hn_834 : Ln S_485 q_55 16 := hl_486.ln e_298 e_296
      have hm_835 : q_61 ∈ hL S_485 := hl_486.mem e_310
      have hk_836 : Kd S_485 q_61 17 := hl_486.kd e_310 e_307
      have hn_837 : Ln S_485 q_61 16 := hl_486.ln e_310 e_308
      have hm_838 : q_85 ∈ hL S_485 := hl_486.mem e_322
      have hk_839 : Kd S_485 q_85 17 := hl_486.kd e_322 e_319
      have hn_840 : Ln S_485 q_85 16 := hl_486.ln e_322 e_320
      have hm_841 : q_91 ∈ hL S_485 := hl_486.mem e_334
      have hk_842 : Kd S_485 q_91 17 := hl_486.kd e_334 e_331
      have hn_843 : Ln S_485 q_91 16 := hl_486.ln e_334 e_332
      have hm_844 : q_97 ∈ hL S_485 := hl_486.mem e_346
      have hk_845 : Kd S_485 q_97 14 := hl_486.kd e_346 e_343
      have hn_846 : Ln S_485 q_97 16 := hl_486.ln e_346 e_344
      have hv_847 : hR S_485 1202 h = (some q_13) := hl_486.fr hm_239 (fun h9 => h9) e_249
      have hv_848 : hR S_485 1203 h = (some q_19) := hl_486.fr hm_239 (fun h9 => h9) e_261
      have hv_849 : hR S_485 1204 h = (some q_25) := hl_486.fr hm_239 (fun h9 => h9) e_273
      have hv_850 : hR S_485 1205 h = (some q_31) := hl_486.fr hm_239 (fun h9 => h9) e_285
      have hv_851 : hR S_485 1210 h = (some q_55) := hl_486.fr hm_239 (fun h9 => h9) e_297
      have hv_852 : hR S_485 1211 h = (some q_61) := hl_486.fr hm_239 (fun h9 => h9) e_309
      have hv_853 : hR S_485 1215 h = (some q_85) := hl_486.fr hm_239 (fun h9 => h9) e_321
      have hv_854 : hR S_485 1216 h = (some q_91) := hl_486.fr hm_239 (fun h9 => h9) e_333
      have hv_855 : hR S_485 1217 h = (some q_97) := hl_486.fr hm_239 (fun h9 => h9) e_345
      have hv_856 : hR S_485 1219 h = (some q_109) := hl_486.fr hm_239 (fun h9 => h9) e_357
      have hv_857 : hR S_485 1220 h = (some q_115) := hl_486.fr hm_239 (fun h9 => h9) e_369
      have hv_858 : hR S_485 1221 h = (some q_121) := hl_486.fr hm_239 (fun h9 => h9) e_381
      have hv_859 : hR S_485 1223 h = (some q_127) := hl_486.fr hm_239 (fun h9 => h9) e_393
      have hv_860 : hR S_485 1234 h = (some q_139) := hl_486.fr hm_239 (fun h9 => h9) e_405
      have hv_861 : hR S_485 1241 h = (some q_163) := hl_486.fr hm_239 (fun h9 => h9) e_417
      have hv_862 : hR S_485 1246 h = (some q_169) := hl_486.fr hm_239 (fun h9 => h9) e_429
      have hv_863 : hR S_485 1256 h = (some q_187) := hl_486.fr hm_239 (fun h9 => h9) e_441
      have hv_864 : hR S_485 1257 h = (some q_193) := hl_486.fr hm_239 (fun h9 => h9) e_453
      have hf_865 : Fm (fun f9 b9 => (f9 = 1244 ∧ b9 = h) ∨ (f9 = 1245 ∧ b9 = h)) (fun f9 b9 => b9 = h) (fun _ => False) S S_485 := hfW.then hl_486 (fun a9 ha9 => ⟨(fun f9 h9 => h9.elim), (fun f9 h9 => h9.elim), (fun h9 => (fun h8 => absurd (h8 ▸ ha9) hz_288) h9)⟩)
      refine j_iload_n C dX12_init_343 rfl 0 rfl ?_
      refine j_sipush (v := 4096) C dX12_init_344 (by decide) ?_
      refine j_ic_ge (tgt := 363) C dX12_init_347 (by decide) (fun c_347 => absurd c_347 (nI_ge (b := 4096) (by omega) (by omega))) (fun c_347 => ?_)
      refine j_aload_n C dX12_init_350 rfl 1 rfl ?_
      show J _ _ _ _ _ 351 _
      refine j_getr (f := 1205) (v := q_31) C flX12_26 dX12_init_351 hm_791 hk_792 (by decide) rfl hv_850 ?_
      refine j_iload_n C dX12_init_354 rfl 0 rfl ?_
      refine j_iconst (v := (-1)) C dX12_init_355 (by decide) ?_
      refine j_iast (j := j1) C dX12_init_356 hm_829 hk_830 (inr_of (n := 4096) hn_831 (vp_in_nI (by omega) (by omega))) (nI_clamp (by omega)) ?_
      refine j_iinc (q := 0) (v := nI (j1 + 1)) (lv' := [(1, .int (nI (j1 + 1))), (0, .ref h)]) C dX12_init_357 rfl (by rw [show Int32.ofInt 1 = 1 by decide]; exact nI_add j1 1) (by rw [hn9]; decide) rfl ?_
      refine j_goto (tgt := 343) C dX12_init_360 (by decide) ?_
      refine J.sub [0, 1] (lv' := [(1, .int (nI (j1 + 1))), (0, .ref h)]) (by rfl) ?_
      exact ih_487 (j1 + 1) _  (by omega) (hl_486.tI _ _ (fun _ => rfl)) 
  refine J.sub [0, 1] (lv' := [(1, .int (nI 0)), (0, .ref h)]) (by rw [nI_0]; rfl) ?_
  exact loop_488 4096 0 _  (by omega) Fm.refl 
