theorem dX9_init_0 : decode cX9_init 0 = .ok (.aload_n 0, 1) := by decide +kernel
theorem dX9_init_1 : decode cX9_init 1 = .ok (.invokespecial 3, 3) := by decide +kernel
theorem dX9_init_4 : decode cX9_init 4 = .ok (.aload_n 0, 1) := by decide +kernel
theorem dX9_init_5 : decode cX9_init 5 = .ok (.new 9, 3) := by decide +kernel
theorem dX9_init_8 : decode cX9_init 8 = .ok (.dup, 1) := by decide +kernel
theorem dX9_init_9 : decode cX9_init 9 = .ok (.invokespecial 11, 3) := by decide +kernel
theorem dX9_init_12 : decode cX9_init 12 = .ok (.putfield 12, 3) := by decide +kernel
theorem dX9_init_15 : decode cX9_init 15 = .ok (.aload_n 0, 1) := by decide +kernel
theorem dX9_init_16 : decode cX9_init 16 = .ok (.new 18, 3) := by decide +kernel
theorem dX9_init_19 : decode cX9_init 19 = .ok (.dup, 1) := by decide +kernel
theorem dX9_init_20 : decode cX9_init 20 = .ok (.invokespecial 20, 3) := by decide +kernel
theorem dX9_init_23 : decode cX9_init 23 = .ok (.putfield 21, 3) := by decide +kernel
theorem dX9_init_26 : decode cX9_init 26 = .ok (.aload_n 0, 1) := by decide +kernel
theorem dX9_init_27 : decode cX9_init 27 = .ok (.new 25, 3) := by decide +kernel
theorem dX9_init_30 : decode cX9_init 30 = .ok (.dup, 1) := by decide +kernel
theorem dX9_init_31 : decode cX9_init 31 = .ok (.invokespecial 27, 3) := by decide +kernel
theorem dX9_init_34 : decode cX9_init 34 = .ok (.putfield 28, 3) := by decide +kernel
theorem dX9_init_37 : decode cX9_init 37 = .ok (.aload_n 0, 1) := by decide +kernel
theorem dX9_init_38 : decode cX9_init 38 = .ok (.bipush 16, 2) := by decide +kernel
theorem dX9_init_40 : decode cX9_init 40 = .ok (.anewarray 32, 3) := by decide +kernel
theorem dX9_init_43 : decode cX9_init 43 = .ok (.putfield 34, 3) := by decide +kernel
theorem dX9_init_46 : decode cX9_init 46 = .ok (.aload_n 0, 1) := by decide +kernel
theorem dX9_init_47 : decode cX9_init 47 = .ok (.new 32, 3) := by decide +kernel
theorem dX9_init_50 : decode cX9_init 50 = .ok (.dup, 1) := by decide +kernel
theorem dX9_init_51 : decode cX9_init 51 = .ok (.invokespecial 38, 3) := by decide +kernel
theorem dX9_init_54 : decode cX9_init 54 = .ok (.putfield 39, 3) := by decide +kernel
theorem dX9_init_57 : decode cX9_init 57 = .ok (.aload_n 0, 1) := by decide +kernel
theorem dX9_init_58 : decode cX9_init 58 = .ok (.new 25, 3) := by decide +kernel
theorem dX9_init_61 : decode cX9_init 61 = .ok (.dup, 1) := by decide +kernel
theorem dX9_init_62 : decode cX9_init 62 = .ok (.invokespecial 27, 3) := by decide +kernel
theorem dX9_init_65 : decode cX9_init 65 = .ok (.putfield 43, 3) := by decide +kernel
theorem dX9_init_68 : decode cX9_init 68 = .ok (.aload_n 0, 1) := by decide +kernel
theorem dX9_init_69 : decode cX9_init 69 = .ok (.sipush 24000, 3) := by decide +kernel
theorem dX9_init_72 : decode cX9_init 72 = .ok (.newarray .byte, 2) := by decide +kernel
theorem dX9_init_74 : decode cX9_init 74 = .ok (.putfield 46, 3) := by decide +kernel
theorem dX9_init_77 : decode cX9_init 77 = .ok (.aload_n 0, 1) := by decide +kernel
theorem dX9_init_78 : decode cX9_init 78 = .ok (.bipush 16, 2) := by decide +kernel
theorem dX9_init_80 : decode cX9_init 80 = .ok (.newarray .int, 2) := by decide +kernel
theorem dX9_init_82 : decode cX9_init 82 = .ok (.putfield 50, 3) := by decide +kernel
theorem dX9_init_85 : decode cX9_init 85 = .ok (.aload_n 0, 1) := by decide +kernel
theorem dX9_init_86 : decode cX9_init 86 = .ok (.new 54, 3) := by decide +kernel
theorem dX9_init_89 : decode cX9_init 89 = .ok (.dup, 1) := by decide +kernel
theorem dX9_init_90 : decode cX9_init 90 = .ok (.invokespecial 56, 3) := by decide +kernel
theorem dX9_init_93 : decode cX9_init 93 = .ok (.putfield 57, 3) := by decide +kernel
theorem dX9_init_96 : decode cX9_init 96 = .ok (.aload_n 0, 1) := by decide +kernel
theorem dX9_init_97 : decode cX9_init 97 = .ok (.new 54, 3) := by decide +kernel
theorem dX9_init_100 : decode cX9_init 100 = .ok (.dup, 1) := by decide +kernel
theorem dX9_init_101 : decode cX9_init 101 = .ok (.invokespecial 56, 3) := by decide +kernel
theorem dX9_init_104 : decode cX9_init 104 = .ok (.putfield 61, 3) := by decide +kernel
theorem dX9_init_107 : decode cX9_init 107 = .ok (.aload_n 0, 1) := by decide +kernel
theorem dX9_init_108 : decode cX9_init 108 = .ok (.iconst 3, 1) := by decide +kernel
theorem dX9_init_109 : decode cX9_init 109 = .ok (.anewarray 54, 3) := by decide +kernel
theorem dX9_init_112 : decode cX9_init 112 = .ok (.putfield 64, 3) := by decide +kernel
theorem dX9_init_115 : decode cX9_init 115 = .ok (.aload_n 0, 1) := by decide +kernel
theorem dX9_init_116 : decode cX9_init 116 = .ok (.iconst 4, 1) := by decide +kernel
theorem dX9_init_117 : decode cX9_init 117 = .ok (.anewarray 68, 3) := by decide +kernel
theorem dX9_init_120 : decode cX9_init 120 = .ok (.putfield 70, 3) := by decide +kernel
theorem dX9_init_123 : decode cX9_init 123 = .ok (.aload_n 0, 1) := by decide +kernel
theorem dX9_init_124 : decode cX9_init 124 = .ok (.bipush 12, 2) := by decide +kernel
theorem dX9_init_126 : decode cX9_init 126 = .ok (.newarray .int, 2) := by decide +kernel
theorem dX9_init_128 : decode cX9_init 128 = .ok (.putfield 74, 3) := by decide +kernel
theorem dX9_init_131 : decode cX9_init 131 = .ok (.aload_n 0, 1) := by decide +kernel
theorem dX9_init_132 : decode cX9_init 132 = .ok (.aload_n 1, 1) := by decide +kernel
theorem dX9_init_133 : decode cX9_init 133 = .ok (.putfield 77, 3) := by decide +kernel
theorem dX9_init_136 : decode cX9_init 136 = .ok (.iconst 0, 1) := by decide +kernel
theorem dX9_init_137 : decode cX9_init 137 = .ok (.istore_n 2, 1) := by decide +kernel
theorem dX9_init_138 : decode cX9_init 138 = .ok (.iload_n 2, 1) := by decide +kernel
theorem dX9_init_139 : decode cX9_init 139 = .ok (.aload_n 0, 1) := by decide +kernel
theorem dX9_init_140 : decode cX9_init 140 = .ok (.getfield 34, 3) := by decide +kernel
theorem dX9_init_143 : decode cX9_init 143 = .ok (.arraylength, 1) := by decide +kernel
theorem dX9_init_144 : decode cX9_init 144 = .ok (.if_icmp .ge 22, 3) := by decide +kernel
theorem dX9_init_147 : decode cX9_init 147 = .ok (.aload_n 0, 1) := by decide +kernel
theorem dX9_init_148 : decode cX9_init 148 = .ok (.getfield 34, 3) := by decide +kernel
theorem dX9_init_151 : decode cX9_init 151 = .ok (.iload_n 2, 1) := by decide +kernel
theorem dX9_init_152 : decode cX9_init 152 = .ok (.new 32, 3) := by decide +kernel
theorem dX9_init_155 : decode cX9_init 155 = .ok (.dup, 1) := by decide +kernel
theorem dX9_init_156 : decode cX9_init 156 = .ok (.invokespecial 38, 3) := by decide +kernel
theorem dX9_init_159 : decode cX9_init 159 = .ok (.aastore, 1) := by decide +kernel
theorem dX9_init_160 : decode cX9_init 160 = .ok (.iinc 2 1, 3) := by decide +kernel
theorem dX9_init_163 : decode cX9_init 163 = .ok (.goto (-25), 3) := by decide +kernel
theorem dX9_init_166 : decode cX9_init 166 = .ok (.iconst 0, 1) := by decide +kernel
theorem dX9_init_167 : decode cX9_init 167 = .ok (.istore_n 2, 1) := by decide +kernel
theorem dX9_init_168 : decode cX9_init 168 = .ok (.iload_n 2, 1) := by decide +kernel
theorem dX9_init_169 : decode cX9_init 169 = .ok (.aload_n 0, 1) := by decide +kernel
theorem dX9_init_170 : decode cX9_init 170 = .ok (.getfield 64, 3) := by decide +kernel
theorem dX9_init_173 : decode cX9_init 173 = .ok (.arraylength, 1) := by decide +kernel
theorem dX9_init_174 : decode cX9_init 174 = .ok (.if_icmp .ge 22, 3) := by decide +kernel
theorem dX9_init_177 : decode cX9_init 177 = .ok (.aload_n 0, 1) := by decide +kernel
theorem dX9_init_178 : decode cX9_init 178 = .ok (.getfield 64, 3) := by decide +kernel
theorem dX9_init_181 : decode cX9_init 181 = .ok (.iload_n 2, 1) := by decide +kernel
theorem dX9_init_182 : decode cX9_init 182 = .ok (.new 54, 3) := by decide +kernel
theorem dX9_init_185 : decode cX9_init 185 = .ok (.dup, 1) := by decide +kernel
theorem dX9_init_186 : decode cX9_init 186 = .ok (.invokespecial 56, 3) := by decide +kernel
theorem dX9_init_189 : decode cX9_init 189 = .ok (.aastore, 1) := by decide +kernel
theorem dX9_init_190 : decode cX9_init 190 = .ok (.iinc 2 1, 3) := by decide +kernel
theorem dX9_init_193 : decode cX9_init 193 = .ok (.goto (-25), 3) := by decide +kernel
theorem dX9_init_196 : decode cX9_init 196 = .ok (.iconst 0, 1) := by decide +kernel
theorem dX9_init_197 : decode cX9_init 197 = .ok (.istore_n 2, 1) := by decide +kernel
theorem dX9_init_198 : decode cX9_init 198 = .ok (.iload_n 2, 1) := by decide +kernel
theorem dX9_init_199 : decode cX9_init 199 = .ok (.aload_n 0, 1) := by decide +kernel
theorem dX9_init_200 : decode cX9_init 200 = .ok (.getfield 70, 3) := by decide +kernel
theorem dX9_init_203 : decode cX9_init 203 = .ok (.arraylength, 1) := by decide +kernel
theorem dX9_init_204 : decode cX9_init 204 = .ok (.if_icmp .ge 22, 3) := by decide +kernel
theorem dX9_init_207 : decode cX9_init 207 = .ok (.aload_n 0, 1) := by decide +kernel
theorem dX9_init_208 : decode cX9_init 208 = .ok (.getfield 70, 3) := by decide +kernel
theorem dX9_init_211 : decode cX9_init 211 = .ok (.iload_n 2, 1) := by decide +kernel
theorem dX9_init_212 : decode cX9_init 212 = .ok (.new 68, 3) := by decide +kernel
theorem dX9_init_215 : decode cX9_init 215 = .ok (.dup, 1) := by decide +kernel
theorem dX9_init_216 : decode cX9_init 216 = .ok (.invokespecial 81, 3) := by decide +kernel
theorem dX9_init_219 : decode cX9_init 219 = .ok (.aastore, 1) := by decide +kernel
theorem dX9_init_220 : decode cX9_init 220 = .ok (.iinc 2 1, 3) := by decide +kernel
theorem dX9_init_223 : decode cX9_init 223 = .ok (.goto (-25), 3) := by decide +kernel
theorem dX9_init_226 : decode cX9_init 226 = .ok (.aload_n 0, 1) := by decide +kernel
theorem dX9_init_227 : decode cX9_init 227 = .ok (.new 68, 3) := by decide +kernel
theorem dX9_init_230 : decode cX9_init 230 = .ok (.dup, 1) := by decide +kernel
theorem dX9_init_231 : decode cX9_init 231 = .ok (.invokespecial 81, 3) := by decide +kernel
theorem dX9_init_234 : decode cX9_init 234 = .ok (.putfield 82, 3) := by decide +kernel
theorem dX9_init_237 : decode cX9_init 237 = .ok (.return_, 1) := by decide +kernel
set_option maxRecDepth 100000 in
set_option maxHeartbeats 4000000 in
theorem c_X9_init (S : Hp) (h : Nat) (hm : h ∈ hL S) (hk : hK S h = 9) (s0 : Nat) : Ct 4 yX9_init cX9_init 3 none 113 68424 [.ref h, .ref s0] S (fun r S' => r = none ∧ Fm (fun _ _ => False) (fun f9 b9 => b9 = h) (fun _ => False) S S' ∧ ∃ q0 q1 q2 q3 q4 q5 q6 q7 q8 q9 q10 : Nat, q0 ∉ hL S ∧ q0 ∈ hL S' ∧ Kd S' q0 0 ∧ hR S' 901 h = some q0 ∧ q1 ∉ hL S ∧ q1 ∈ hL S' ∧ Kd S' q1 14 ∧ Ln S' q1 20000 ∧ hR S' 0 q0 = some q1 ∧ (∀ j, aI S' q1 j = 0) ∧ q2 ∉ hL S ∧ q2 ∈ hL S' ∧ Kd S' q2 2 ∧ hR S' 902 h = some q2 ∧ q3 ∉ hL S ∧ q3 ∈ hL S' ∧ Kd S' q3 8 ∧ hR S' 200 q2 = some q3 ∧ q4 ∉ hL S ∧ q4 ∈ hL S' ∧ Kd S' q4 14 ∧ Ln S' q4 16 ∧ hR S' 800 q3 = some q4 ∧ (∀ j, aI S' q4 j = 0) ∧ q5 ∉ hL S ∧ q5 ∈ hL S' ∧ Kd S' q5 8 ∧ hR S' 903 h = some q5 ∧ q6 ∉ hL S ∧ q6 ∈ hL S' ∧ Kd S' q6 14 ∧ Ln S' q6 16 ∧ hR S' 800 q5 = some q6 ∧ (∀ j, aI S' q6 j = 0) ∧ q7 ∉ hL S ∧ q7 ∈ hL S' ∧ Kd S' q7 8 ∧ hR S' 906 h = some q7 ∧ q8 ∉ hL S ∧ q8 ∈ hL S' ∧ Kd S' q8 14 ∧ Ln S' q8 16 ∧ hR S' 800 q7 = some q8 ∧ (∀ j, aI S' q8 j = 0) ∧ q9 ∉ hL S ∧ q9 ∈ hL S' ∧ Kd S' q9 14 ∧ Ln S' q9 16 ∧ hR S' 908 h = some q9 ∧ (∀ j, aI S' q9 j = 0) ∧ q10 ∉ hL S ∧ q10 ∈ hL S' ∧ Kd S' q10 14 ∧ Ln S' q10 12 ∧ hR S' 917 h = some q10 ∧ (∀ j, aI S' q10 j = 0) ∧ hI S' 3 q0 = 0 ∧ hI S' 206 q2 = 0) := by
  refine ct_of (by decide) (Nat.le_of_ble_eq_true rfl) fun x hn9 C M hm9 => ?_
  have C : CB x RX9 cX9_init := C
  refine J.eq (lv' := [(0, .ref h), (1, .ref s0)]) rfl rfl rfl ?_
  refine j_aload_n C dX9_init_0 rfl 0 rfl ?_
  refine j_objInit C mlX9_3 nst_oi (M.fl (by decide)) dX9_init_1 ?_
  refine j_aload_n C dX9_init_4 rfl 0 rfl ?_
  refine j_new (N := 15) C (ci := 0) rfl rfl klX9_9 knX0 kiX0 (M.cells (by decide)) (M.slots (by decide)) dX9_init_5 (fun q_1 hq_2 => ?_)
  have hz_3 : q_1 ∉ hL S := hq_2
  refine j_dup C dX9_init_8 rfl ?_
  have hf_4 : Fm (fun _ _ => False) (fun f9 b9 => b9 = h) (fun _ => False) S (nO S q_1 0) := ((Fm.refl (WI := (fun _ _ => False)) (WR := (fun f9 b9 => b9 = h)) (WA := (fun _ => False))).nO _ hq_2)
  refine j_callI C [] [.ref q_1, .ref h] mlX9_11 mcX0_init (c_X0_init (nO S q_1 0) q_1 mem_new (kd_nO' (k := 0))) (M.rm (by decide) (by decide) (Nat.le_of_ble_eq_true rfl) (Nat.le_of_ble_eq_true rfl)) rfl rfl (Nat.le_of_ble_eq_true rfl) dX9_init_9 (fun r_12 S_13 hp_14 => ?_)
  obtain ⟨rfl, hf_15, q_5, e_6, e_7, e_8, e_9, e_10, e_11⟩ := hp_14
  refine J.eq (st' := [.ref q_1, .ref h]) rfl rfl rfl ?_
  have hm_16 : h ∈ hL S_13 := hf_15.mem (mem_old hm)
  have hk_17 : Kd S_13 h 9 := hf_15.kd (mem_old hm) (kd_nO (k := 0) hq_2 hm hk)
  have hm_18 : q_1 ∈ hL S_13 := hf_15.mem mem_new
  have hk_19 : Kd S_13 q_1 0 := hf_15.kd mem_new (kd_nO' (k := 0))
  have hv_20 : hI S_13 2 q_1 = 0 := hf_15.fi mem_new (fun h9 => h9) (rd_nOI' (k := 0))
  have hv_21 : hI S_13 3 q_1 = 0 := hf_15.fi mem_new (fun h9 => h9) (rd_nOI' (k := 0))
  have hv_22 : hI S_13 4 q_1 = 0 := hf_15.fi mem_new (fun h9 => h9) (rd_nOI' (k := 0))
  have hv_23 : hI S_13 5 q_1 = 0 := hf_15.fi mem_new (fun h9 => h9) (rd_nOI' (k := 0))
  have hf_24 : Fm (fun _ _ => False) (fun f9 b9 => b9 = h) (fun _ => False) S S_13 := hf_4.then hf_15 (fun a9 ha9 => ⟨(fun f9 h9 => h9.elim), (fun f9 h9 => (fun h8 => absurd (h8 ▸ ha9) hz_3) h9), (fun h9 => h9.elim)⟩)
  have hz_25 : q_5 ∉ hL S := fun h9 => e_6 (hf_4.mem h9)
  refine j_putrF (f := 901) C hm9 flX9_12o (by decide) rfl rfl dX9_init_12 hm_16 hk_17 rfl ?_
  refine j_aload_n C dX9_init_15 rfl 0 rfl ?_
  show J _ _ _ _ _ 16 _
  have hf_28 : Fm (fun _ _ => False) (fun f9 b9 => b9 = h) (fun _ => False) S (sR S_13 901 h (some q_1)) := (hf_24.sR _ (fun _ => rfl))
  refine j_new (N := 10) C (ci := 2) rfl rfl klX9_18 knX2 kiX2 (M.cells (by decide)) (M.slots (by decide)) dX9_init_16 (fun q_26 hq_27 => ?_)
  have hz_29 : q_26 ∉ hL S := fun h9 => hq_27 (hf_28.mem h9)
  refine j_dup C dX9_init_19 rfl ?_
  have hf_30 : Fm (fun _ _ => False) (fun f9 b9 => b9 = h) (fun _ => False) S (nO (sR S_13 901 h (some q_1)) q_26 2) := (hf_28.nO _ hq_27)
  refine j_callI C [] [.ref q_26, .ref h] mlX9_20 mcX2_init (c_X2_init (nO (sR S_13 901 h (some q_1)) q_26 2) q_26 mem_new (kd_nO' (k := 2))) (M.rm (by decide) (by decide) (Nat.le_of_ble_eq_true rfl) (Nat.le_of_ble_eq_true rfl)) rfl rfl (Nat.le_of_ble_eq_true rfl) dX9_init_20 (fun r_43 S_44 hp_45 => ?_)
  obtain ⟨rfl, hf_46, q_31, q_32, e_33, e_34, e_35, e_36, e_37, e_38, e_39, e_40, e_41, e_42⟩ := hp_45
  refine J.eq (st' := [.ref q_26, .ref h]) rfl rfl rfl ?_
  have hz_47 : ∀ j, aI S_44 q_5 j = 0 := fun j9 => (hf_46.ai (mem_old e_7) (fun h9 => h9) j9).trans (e_11 j9)
  have hm_48 : h ∈ hL S_44 := hf_46.mem (mem_old hm_16)
  have hk_49 : Kd S_44 h 9 := hf_46.kd (mem_old hm_16) (kd_nO (k := 2) hq_27 hm_16 hk_17)
  have hm_50 : q_1 ∈ hL S_44 := hf_46.mem (mem_old hm_18)
  have hk_51 : Kd S_44 q_1 0 := hf_46.kd (mem_old hm_18) (kd_nO (k := 2) hq_27 hm_18 hk_19)
  have hm_52 : q_26 ∈ hL S_44 := hf_46.mem mem_new
  have hk_53 : Kd S_44 q_26 2 := hf_46.kd mem_new (kd_nO' (k := 2))
  have hm_54 : q_5 ∈ hL S_44 := hf_46.mem (mem_old e_7)
  have hk_55 : Kd S_44 q_5 14 := hf_46.kd (mem_old e_7) (kd_nO (k := 2) hq_27 e_7 e_8)
  have hn_56 : Ln S_44 q_5 20000 := hf_46.ln (mem_old e_7) e_9
  have hv_57 : hI S_44 2 q_1 = 0 := hf_46.fi (mem_old hm_18) (fun h9 => h9) (rd_nOI (k := 2) hq_27 hm_18 hv_20)
  have hv_58 : hI S_44 206 q_26 = 0 := hf_46.fi mem_new (fun h9 => h9) (rd_nOI' (k := 2))
  have hv_59 : hI S_44 209 q_26 = 0 := hf_46.fi mem_new (fun h9 => h9) (rd_nOI' (k := 2))
  have hv_60 : hI S_44 3 q_1 = 0 := hf_46.fi (mem_old hm_18) (fun h9 => h9) (rd_nOI (k := 2) hq_27 hm_18 hv_21)
  have hv_61 : hI S_44 4 q_1 = 0 := hf_46.fi (mem_old hm_18) (fun h9 => h9) (rd_nOI (k := 2) hq_27 hm_18 hv_22)
  have hv_62 : hI S_44 5 q_1 = 0 := hf_46.fi (mem_old hm_18) (fun h9 => h9) (rd_nOI (k := 2) hq_27 hm_18 hv_23)
  have hv_63 : hR S_44 0 q_1 = (some q_5) := hf_46.fr (mem_old hm_18) (fun q9 => (fun e9 => absurd (((kd_nO (k := 2) hq_27 hm_18 hk_19)).symm.trans ((congrArg (hK _) e9).trans (kd_nO' (k := 2)))) (by decide)) q9) (rd_nOR (k := 2) hq_27 hm_18 (rd_sRf (S := S_13) (g := 901) (a := h) (v := (some q_1)) (by decide) e_10))
  have hv_64 : hR S_44 901 h = (some q_1) := hf_46.fr (mem_old hm_16) (fun q9 => (fun e9 => absurd (((kd_nO (k := 2) hq_27 hm_16 hk_17)).symm.trans ((congrArg (hK _) e9).trans (kd_nO' (k := 2)))) (by decide)) q9) (rd_nOR (k := 2) hq_27 hm_16 (rd_sR (S := S_13) (g := 901) (a := h) (v := (some q_1))))
  have hf_65 : Fm (fun _ _ => False) (fun f9 b9 => b9 = h) (fun _ => False) S S_44 := hf_30.then hf_46 (fun a9 ha9 => ⟨(fun f9 h9 => h9.elim), (fun f9 h9 => (fun h8 => absurd (h8 ▸ ha9) hz_29) h9), (fun h9 => h9.elim)⟩)
  have hz_66 : q_31 ∉ hL S := fun h9 => e_33 (hf_30.mem h9)
  have hz_67 : q_32 ∉ hL S := fun h9 => e_37 (hf_30.mem h9)
  refine j_putrF (f := 902) C hm9 flX9_21o (by decide) rfl rfl dX9_init_23 hm_48 hk_49 rfl ?_
  refine j_aload_n C dX9_init_26 rfl 0 rfl ?_
  have hf_70 : Fm (fun _ _ => False) (fun f9 b9 => b9 = h) (fun _ => False) S (sR S_44 902 h (some q_26)) := (hf_65.sR _ (fun _ => rfl))
  refine j_new (N := 1) C (ci := 8) rfl rfl klX9_25 knX8 kiX8 (M.cells (by decide)) (M.slots (by decide)) dX9_init_27 (fun q_68 hq_69 => ?_)
  have hz_71 : q_68 ∉ hL S := fun h9 => hq_69 (hf_70.mem h9)
  refine j_dup C dX9_init_30 rfl ?_
  have hf_72 : Fm (fun _ _ => False) (fun f9 b9 => b9 = h) (fun _ => False) S (nO (sR S_44 902 h (some q_26)) q_68 8) := (hf_70.nO _ hq_69)
  refine j_callI C [] [.ref q_68, .ref h] mlX9_27 mcX8_init (c_X8_init (nO (sR S_44 902 h (some q_26)) q_68 8) q_68 mem_new (kd_nO' (k := 8))) (M.rm (by decide) (by decide) (Nat.le_of_ble_eq_true rfl) (Nat.le_of_ble_eq_true rfl)) rfl rfl (Nat.le_of_ble_eq_true rfl) dX9_init_31 (fun r_80 S_81 hp_82 => ?_)
  obtain ⟨rfl, hf_83, q_73, e_74, e_75, e_76, e_77, e_78, e_79⟩ := hp_82
  refine J.eq (st' := [.ref q_68, .ref h]) rfl rfl rfl ?_
  have hz_84 : ∀ j, aI S_81 q_32 j = 0 := fun j9 => (hf_83.ai (mem_old e_38) (fun h9 => h9) j9).trans (e_42 j9)
  have hz_85 : ∀ j, aI S_81 q_5 j = 0 := fun j9 => (hf_83.ai (mem_old hm_54) (fun h9 => h9) j9).trans (hz_47 j9)
  have hm_86 : h ∈ hL S_81 := hf_83.mem (mem_old hm_48)
  have hk_87 : Kd S_81 h 9 := hf_83.kd (mem_old hm_48) (kd_nO (k := 8) hq_69 hm_48 hk_49)
  have hm_88 : q_1 ∈ hL S_81 := hf_83.mem (mem_old hm_50)
  have hk_89 : Kd S_81 q_1 0 := hf_83.kd (mem_old hm_50) (kd_nO (k := 8) hq_69 hm_50 hk_51)
  have hm_90 : q_26 ∈ hL S_81 := hf_83.mem (mem_old hm_52)
  have hk_91 : Kd S_81 q_26 2 := hf_83.kd (mem_old hm_52) (kd_nO (k := 8) hq_69 hm_52 hk_53)
  have hm_92 : q_31 ∈ hL S_81 := hf_83.mem (mem_old e_34)
  have hk_93 : Kd S_81 q_31 8 := hf_83.kd (mem_old e_34) (kd_nO (k := 8) hq_69 e_34 e_35)
  have hm_94 : q_32 ∈ hL S_81 := hf_83.mem (mem_old e_38)
  have hk_95 : Kd S_81 q_32 14 := hf_83.kd (mem_old e_38) (kd_nO (k := 8) hq_69 e_38 e_39)
  have hn_96 : Ln S_81 q_32 16 := hf_83.ln (mem_old e_38) e_40
  have hm_97 : q_5 ∈ hL S_81 := hf_83.mem (mem_old hm_54)
  have hk_98 : Kd S_81 q_5 14 := hf_83.kd (mem_old hm_54) (kd_nO (k := 8) hq_69 hm_54 hk_55)
  have hn_99 : Ln S_81 q_5 20000 := hf_83.ln (mem_old hm_54) hn_56
  have hm_100 : q_68 ∈ hL S_81 := hf_83.mem mem_new
  have hk_101 : Kd S_81 q_68 8 := hf_83.kd mem_new (kd_nO' (k := 8))
  have hv_102 : hI S_81 2 q_1 = 0 := hf_83.fi (mem_old hm_50) (fun h9 => h9) (rd_nOI (k := 8) hq_69 hm_50 hv_57)
  have hv_103 : hI S_81 206 q_26 = 0 := hf_83.fi (mem_old hm_52) (fun h9 => h9) (rd_nOI (k := 8) hq_69 hm_52 hv_58)
  have hv_104 : hI S_81 209 q_26 = 0 := hf_83.fi (mem_old hm_52) (fun h9 => h9) (rd_nOI (k := 8) hq_69 hm_52 hv_59)
  have hv_105 : hI S_81 3 q_1 = 0 := hf_83.fi (mem_old hm_50) (fun h9 => h9) (rd_nOI (k := 8) hq_69 hm_50 hv_60)
  have hv_106 : hI S_81 4 q_1 = 0 := hf_83.fi (mem_old hm_50) (fun h9 => h9) (rd_nOI (k := 8) hq_69 hm_50 hv_61)
  have hv_107 : hI S_81 5 q_1 = 0 := hf_83.fi (mem_old hm_50) (fun h9 => h9) (rd_nOI (k := 8) hq_69 hm_50 hv_62)
  have hv_108 : hR S_81 0 q_1 = (some q_5) := hf_83.fr (mem_old hm_50) (fun q9 => (fun e9 => absurd (((kd_nO (k := 8) hq_69 hm_50 hk_51)).symm.trans ((congrArg (hK _) e9).trans (kd_nO' (k := 8)))) (by decide)) q9) (rd_nOR (k := 8) hq_69 hm_50 (rd_sRf (S := S_44) (g := 902) (a := h) (v := (some q_26)) (by decide) hv_63))
  have hv_109 : hR S_81 200 q_26 = (some q_31) := hf_83.fr (mem_old hm_52) (fun q9 => (fun e9 => absurd (((kd_nO (k := 8) hq_69 hm_52 hk_53)).symm.trans ((congrArg (hK _) e9).trans (kd_nO' (k := 8)))) (by decide)) q9) (rd_nOR (k := 8) hq_69 hm_52 (rd_sRf (S := S_44) (g := 902) (a := h) (v := (some q_26)) (by decide) e_36))
  have hv_110 : hR S_81 800 q_31 = (some q_32) := hf_83.fr (mem_old e_34) (fun q9 => (ne_of_nin hq_69 e_34) q9) (rd_nOR (k := 8) hq_69 e_34 (rd_sRf (S := S_44) (g := 902) (a := h) (v := (some q_26)) (by decide) e_41))
  have hv_111 : hR S_81 901 h = (some q_1) := hf_83.fr (mem_old hm_48) (fun q9 => (fun e9 => absurd (((kd_nO (k := 8) hq_69 hm_48 hk_49)).symm.trans ((congrArg (hK _) e9).trans (kd_nO' (k := 8)))) (by decide)) q9) (rd_nOR (k := 8) hq_69 hm_48 (rd_sRf (S := S_44) (g := 902) (a := h) (v := (some q_26)) (by decide) hv_64))
  have hv_112 : hR S_81 902 h = (some q_26) := hf_83.fr (mem_old hm_48) (fun q9 => (fun e9 => absurd (((kd_nO (k := 8) hq_69 hm_48 hk_49)).symm.trans ((congrArg (hK _) e9).trans (kd_nO' (k := 8)))) (by decide)) q9) (rd_nOR (k := 8) hq_69 hm_48 (rd_sR (S := S_44) (g := 902) (a := h) (v := (some q_26))))
  have hf_113 : Fm (fun _ _ => False) (fun f9 b9 => b9 = h) (fun _ => False) S S_81 := hf_72.then hf_83 (fun a9 ha9 => ⟨(fun f9 h9 => h9.elim), (fun f9 h9 => (fun h8 => absurd (h8 ▸ ha9) hz_71) h9), (fun h9 => h9.elim)⟩)
  have hz_114 : q_73 ∉ hL S := fun h9 => e_74 (hf_72.mem h9)
  show J _ _ _ _ _ 34 _
  refine j_putrF (f := 903) C hm9 flX9_28o (by decide) rfl rfl dX9_init_34 hm_86 hk_87 rfl ?_
  refine j_aload_n C dX9_init_37 rfl 0 rfl ?_
  refine j_bipush (v := 16) C dX9_init_38 (by decide) ?_
  have hf_117 : Fm (fun _ _ => False) (fun f9 b9 => b9 = h) (fun _ => False) S (sR S_81 903 h (some q_68)) := (hf_113.sR _ (fun _ => rfl))
  refine j_newQ (N := 16) C 20 (by decide) rfl klX9_32 (gx_Tile C) (by decide) (by decide) (by decide) (M.cells (by decide)) (M.slots (by decide)) dX9_init_40 (fun q_115 hq_116 => ?_)
  have hz_118 : q_115 ∉ hL S := fun h9 => hq_116 (hf_117.mem h9)
  refine j_putrF (f := 904) C hm9 flX9_34o (by decide) rfl rfl dX9_init_43 (mem_old hm_86) (kd_nA (k := 20) (n := 16) hq_116 hm_86 hk_87) rfl ?_
  refine j_aload_n C dX9_init_46 rfl 0 rfl ?_
  have hf_121 : Fm (fun _ _ => False) (fun f9 b9 => b9 = h) (fun _ => False) S (sR (nA (sR S_81 903 h (some q_68)) q_115 20 16) 904 h (some q_115)) := ((hf_117.nA _ _ hq_116).sR _ (fun _ => rfl))
  obtain ⟨S_119, eS_120⟩ : ∃ S9 : Hp, S9 = (sR (nA (sR S_81 903 h (some q_68)) q_115 20 16) 904 h (some q_115)) := ⟨_, rfl⟩
  refine J.eq (S' := S_119) eS_120.symm rfl rfl ?_
  have hm_122 : h ∈ hL S_119 := by rw [eS_120]; exact (mem_old hm_86)
  have hk_123 : Kd S_119 h 9 := by rw [eS_120]; exact (kd_nA (k := 20) (n := 16) hq_116 hm_86 hk_87)
  have hm_124 : q_1 ∈ hL S_119 := by rw [eS_120]; exact (mem_old hm_88)
  have hk_125 : Kd S_119 q_1 0 := by rw [eS_120]; exact (kd_nA (k := 20) (n := 16) hq_116 hm_88 hk_89)
  have hm_126 : q_115 ∈ hL S_119 := by rw [eS_120]; exact mem_new
  have hk_127 : Kd S_119 q_115 20 := by rw [eS_120]; exact (kd_nA' (k := 20) (n := 16))
  have hn_128 : Ln S_119 q_115 16 := by rw [eS_120]; exact (ln_nA' (k := 20))
  have hz_129 : ∀ j, aI S_119 q_115 j = 0 := by rw [eS_120]; exact (fun j9 => rd_nAI' (k := 20) (n := 16))
  have hm_130 : q_26 ∈ hL S_119 := by rw [eS_120]; exact (mem_old hm_90)
  have hk_131 : Kd S_119 q_26 2 := by rw [eS_120]; exact (kd_nA (k := 20) (n := 16) hq_116 hm_90 hk_91)
  have hm_132 : q_31 ∈ hL S_119 := by rw [eS_120]; exact (mem_old hm_92)
  have hk_133 : Kd S_119 q_31 8 := by rw [eS_120]; exact (kd_nA (k := 20) (n := 16) hq_116 hm_92 hk_93)
  have hm_134 : q_32 ∈ hL S_119 := by rw [eS_120]; exact (mem_old hm_94)
  have hk_135 : Kd S_119 q_32 14 := by rw [eS_120]; exact (kd_nA (k := 20) (n := 16) hq_116 hm_94 hk_95)
  have hn_136 : Ln S_119 q_32 16 := by rw [eS_120]; exact (ln_nA (k := 20) hq_116 hm_94 hn_96)
  have hz_137 : ∀ j, aI S_119 q_32 j = 0 := by rw [eS_120]; exact (fun j9 => rd_nAI (k := 20) (n := 16) hq_116 hm_94 (hz_84 j9))
  have hm_138 : q_5 ∈ hL S_119 := by rw [eS_120]; exact (mem_old hm_97)
  have hk_139 : Kd S_119 q_5 14 := by rw [eS_120]; exact (kd_nA (k := 20) (n := 16) hq_116 hm_97 hk_98)
  have hn_140 : Ln S_119 q_5 20000 := by rw [eS_120]; exact (ln_nA (k := 20) hq_116 hm_97 hn_99)
  have hz_141 : ∀ j, aI S_119 q_5 j = 0 := by rw [eS_120]; exact (fun j9 => rd_nAI (k := 20) (n := 16) hq_116 hm_97 (hz_85 j9))
  have hm_142 : q_68 ∈ hL S_119 := by rw [eS_120]; exact (mem_old hm_100)
  have hk_143 : Kd S_119 q_68 8 := by rw [eS_120]; exact (kd_nA (k := 20) (n := 16) hq_116 hm_100 hk_101)
  have hm_144 : q_73 ∈ hL S_119 := by rw [eS_120]; exact (mem_old e_75)
  have hk_145 : Kd S_119 q_73 14 := by rw [eS_120]; exact (kd_nA (k := 20) (n := 16) hq_116 e_75 e_76)
  have hn_146 : Ln S_119 q_73 16 := by rw [eS_120]; exact (ln_nA (k := 20) hq_116 e_75 e_77)
  have hz_147 : ∀ j, aI S_119 q_73 j = 0 := by rw [eS_120]; exact (fun j9 => rd_nAI (k := 20) (n := 16) hq_116 e_75 (e_79 j9))
  have hv_148 : hI S_119 2 q_1 = 0 := by rw [eS_120]; exact hv_102
  have hv_149 : hI S_119 206 q_26 = 0 := by rw [eS_120]; exact hv_103
  have hv_150 : hI S_119 209 q_26 = 0 := by rw [eS_120]; exact hv_104
  have hv_151 : hI S_119 3 q_1 = 0 := by rw [eS_120]; exact hv_105
  have hv_152 : hI S_119 4 q_1 = 0 := by rw [eS_120]; exact hv_106
  have hv_153 : hI S_119 5 q_1 = 0 := by rw [eS_120]; exact hv_107
  have hv_154 : hR S_119 0 q_1 = (some q_5) := by rw [eS_120]; exact (rd_sRf (S := (nA (sR S_81 903 h (some q_68)) q_115 20 16)) (g := 904) (a := h) (v := (some q_115)) (by decide) (rd_sRf (S := S_81) (g := 903) (a := h) (v := (some q_68)) (by decide) hv_108))
  have hv_155 : hR S_119 200 q_26 = (some q_31) := by rw [eS_120]; exact (rd_sRf (S := (nA (sR S_81 903 h (some q_68)) q_115 20 16)) (g := 904) (a := h) (v := (some q_115)) (by decide) (rd_sRf (S := S_81) (g := 903) (a := h) (v := (some q_68)) (by decide) hv_109))
  have hv_156 : hR S_119 800 q_31 = (some q_32) := by rw [eS_120]; exact (rd_sRf (S := (nA (sR S_81 903 h (some q_68)) q_115 20 16)) (g := 904) (a := h) (v := (some q_115)) (by decide) (rd_sRf (S := S_81) (g := 903) (a := h) (v := (some q_68)) (by decide) hv_110))
  have hv_157 : hR S_119 800 q_68 = (some q_73) := by rw [eS_120]; exact (rd_sRf (S := (nA (sR S_81 903 h (some q_68)) q_115 20 16)) (g := 904) (a := h) (v := (some q_115)) (by decide) (rd_sRf (S := S_81) (g := 903) (a := h) (v := (some q_68)) (by decide) e_78))
  have hv_158 : hR S_119 901 h = (some q_1) := by rw [eS_120]; exact (rd_sRf (S := (nA (sR S_81 903 h (some q_68)) q_115 20 16)) (g := 904) (a := h) (v := (some q_115)) (by decide) (rd_sRf (S := S_81) (g := 903) (a := h) (v := (some q_68)) (by decide) hv_111))
  have hv_159 : hR S_119 902 h = (some q_26) := by rw [eS_120]; exact (rd_sRf (S := (nA (sR S_81 903 h (some q_68)) q_115 20 16)) (g := 904) (a := h) (v := (some q_115)) (by decide) (rd_sRf (S := S_81) (g := 903) (a := h) (v := (some q_68)) (by decide) hv_112))
  have hv_160 : hR S_119 903 h = (some q_68) := by rw [eS_120]; exact (rd_sRf (S := (nA (sR S_81 903 h (some q_68)) q_115 20 16)) (g := 904) (a := h) (v := (some q_115)) (by decide) (rd_sR (S := S_81) (g := 903) (a := h) (v := (some q_68))))
  have hv_161 : hR S_119 904 h = (some q_115) := by rw [eS_120]; exact (rd_sR (S := (nA (sR S_81 903 h (some q_68)) q_115 20 16)) (g := 904) (a := h) (v := (some q_115)))
  have hf_162 : Fm (fun _ _ => False) (fun f9 b9 => b9 = h) (fun _ => False) S S_119 := by rw [eS_120]; exact hf_121
  refine j_new (N := 4) C (ci := 10) rfl rfl klX9_32 knX10 kiX10 (M.cells (by decide)) (M.slots (by decide)) dX9_init_47 (fun q_163 hq_164 => ?_)
  have hz_165 : q_163 ∉ hL S := fun h9 => hq_164 (hf_162.mem h9)
  refine j_dup C dX9_init_50 rfl ?_
  show J _ _ _ _ _ 51 _
  have hf_166 : Fm (fun _ _ => False) (fun f9 b9 => b9 = h) (fun _ => False) S (nO S_119 q_163 10) := (hf_162.nO _ hq_164)
  refine j_callI C [] [.ref q_163, .ref h] mlX9_38 mcX10_init (c_X10_init (nO S_119 q_163 10) q_163 mem_new (kd_nO' (k := 10))) (M.rm (by decide) (by decide) (Nat.le_of_ble_eq_true rfl) (Nat.le_of_ble_eq_true rfl)) rfl rfl (Nat.le_of_ble_eq_true rfl) dX9_init_51 (fun r_175 S_176 hp_177 => ?_)
  obtain ⟨rfl, hf_178, e_168, e_169, q_167, e_170, e_171, e_172, e_173, e_174⟩ := hp_177
  refine J.eq (st' := [.ref q_163, .ref h]) rfl rfl rfl ?_
  have hz_179 : ∀ j, aI S_176 q_115 j = 0 := fun j9 => (hf_178.ai (mem_old hm_126) (fun h9 => h9) j9).trans (hz_129 j9)
  have hz_180 : ∀ j, aI S_176 q_32 j = 0 := fun j9 => (hf_178.ai (mem_old hm_134) (fun h9 => h9) j9).trans (hz_137 j9)
  have hz_181 : ∀ j, aI S_176 q_5 j = 0 := fun j9 => (hf_178.ai (mem_old hm_138) (fun h9 => h9) j9).trans (hz_141 j9)
  have hz_182 : ∀ j, aI S_176 q_73 j = 0 := fun j9 => (hf_178.ai (mem_old hm_144) (fun h9 => h9) j9).trans (hz_147 j9)
  have hm_183 : h ∈ hL S_176 := hf_178.mem (mem_old hm_122)
  have hk_184 : Kd S_176 h 9 := hf_178.kd (mem_old hm_122) (kd_nO (k := 10) hq_164 hm_122 hk_123)
  have hm_185 : q_1 ∈ hL S_176 := hf_178.mem (mem_old hm_124)
  have hk_186 : Kd S_176 q_1 0 := hf_178.kd (mem_old hm_124) (kd_nO (k := 10) hq_164 hm_124 hk_125)
  have hm_187 : q_115 ∈ hL S_176 := hf_178.mem (mem_old hm_126)
  have hk_188 : Kd S_176 q_115 20 := hf_178.kd (mem_old hm_126) (kd_nO (k := 10) hq_164 hm_126 hk_127)
  have hn_189 : Ln S_176 q_115 16 := hf_178.ln (mem_old hm_126) hn_128
  have hm_190 : q_163 ∈ hL S_176 := hf_178.mem mem_new
  have hk_191 : Kd S_176 q_163 10 := hf_178.kd mem_new (kd_nO' (k := 10))
  have hm_192 : q_26 ∈ hL S_176 := hf_178.mem (mem_old hm_130)
  have hk_193 : Kd S_176 q_26 2 := hf_178.kd (mem_old hm_130) (kd_nO (k := 10) hq_164 hm_130 hk_131)
  have hm_194 : q_31 ∈ hL S_176 := hf_178.mem (mem_old hm_132)
  have hk_195 : Kd S_176 q_31 8 := hf_178.kd (mem_old hm_132) (kd_nO (k := 10) hq_164 hm_132 hk_133)
  have hm_196 : q_32 ∈ hL S_176 := hf_178.mem (mem_old hm_134)
  have hk_197 : Kd S_176 q_32 14 := hf_178.kd (mem_old hm_134) (kd_nO (k := 10) hq_164 hm_134 hk_135)
  have hn_198 : Ln S_176 q_32 16 := hf_178.ln (mem_old hm_134) hn_136
  have hm_199 : q_5 ∈ hL S_176 := hf_178.mem (mem_old hm_138)
  have hk_200 : Kd S_176 q_5 14 := hf_178.kd (mem_old hm_138) (kd_nO (k := 10) hq_164 hm_138 hk_139)
  have hn_201 : Ln S_176 q_5 20000 := hf_178.ln (mem_old hm_138) hn_140
  have hm_202 : q_68 ∈ hL S_176 := hf_178.mem (mem_old hm_142)
  have hk_203 : Kd S_176 q_68 8 := hf_178.kd (mem_old hm_142) (kd_nO (k := 10) hq_164 hm_142 hk_143)
  have hm_204 : q_73 ∈ hL S_176 := hf_178.mem (mem_old hm_144)
  have hk_205 : Kd S_176 q_73 14 := hf_178.kd (mem_old hm_144) (kd_nO (k := 10) hq_164 hm_144 hk_145)
  have hn_206 : Ln S_176 q_73 16 := hf_178.ln (mem_old hm_144) hn_146
  have hv_207 : hI S_176 2 q_1 = 0 := hf_178.fi (mem_old hm_124) (fun h9 => h9.elim (fun q9 => absurd q9.1 (by decide)) (fun q9 => absurd q9.1 (by decide))) (rd_nOI (k := 10) hq_164 hm_124 hv_148)
  have hv_208 : hI S_176 206 q_26 = 0 := hf_178.fi (mem_old hm_130) (fun h9 => h9.elim (fun q9 => absurd q9.1 (by decide)) (fun q9 => absurd q9.1 (by decide))) (rd_nOI (k := 10) hq_164 hm_130 hv_149)
  have hv_209 : hI S_176 209 q_26 = 0 := hf_178.fi (mem_old hm_130) (fun h9 => h9.elim (fun q9 => absurd q9.1 (by decide)) (fun q9 => absurd q9.1 (by decide))) (rd_nOI (k := 10) hq_164 hm_130 hv_150)
  have hv_210 : hI S_176 3 q_1 = 0 := hf_178.fi (mem_old hm_124) (fun h9 => h9.elim (fun q9 => absurd q9.1 (by decide)) (fun q9 => absurd q9.1 (by decide))) (rd_nOI (k := 10) hq_164 hm_124 hv_151)
  have hv_211 : hI S_176 4 q_1 = 0 := hf_178.fi (mem_old hm_124) (fun h9 => h9.elim (fun q9 => absurd q9.1 (by decide)) (fun q9 => absurd q9.1 (by decide))) (rd_nOI (k := 10) hq_164 hm_124 hv_152)
  have hv_212 : hI S_176 5 q_1 = 0 := hf_178.fi (mem_old hm_124) (fun h9 => h9.elim (fun q9 => absurd q9.1 (by decide)) (fun q9 => absurd q9.1 (by decide))) (rd_nOI (k := 10) hq_164 hm_124 hv_153)
  have hv_213 : hR S_176 0 q_1 = (some q_5) := hf_178.fr (mem_old hm_124) (fun q9 => (fun e9 => absurd (((kd_nO (k := 10) hq_164 hm_124 hk_125)).symm.trans ((congrArg (hK _) e9).trans (kd_nO' (k := 10)))) (by decide)) q9) (rd_nOR (k := 10) hq_164 hm_124 hv_154)
  have hv_214 : hR S_176 200 q_26 = (some q_31) := hf_178.fr (mem_old hm_130) (fun q9 => (fun e9 => absurd (((kd_nO (k := 10) hq_164 hm_130 hk_131)).symm.trans ((congrArg (hK _) e9).trans (kd_nO' (k := 10)))) (by decide)) q9) (rd_nOR (k := 10) hq_164 hm_130 hv_155)
  have hv_215 : hR S_176 800 q_31 = (some q_32) := hf_178.fr (mem_old hm_132) (fun q9 => (fun e9 => absurd (((kd_nO (k := 10) hq_164 hm_132 hk_133)).symm.trans ((congrArg (hK _) e9).trans (kd_nO' (k := 10)))) (by decide)) q9) (rd_nOR (k := 10) hq_164 hm_132 hv_156)
  have hv_216 : hR S_176 800 q_68 = (some q_73) := hf_178.fr (mem_old hm_142) (fun q9 => (fun e9 => absurd (((kd_nO (k := 10) hq_164 hm_142 hk_143)).symm.trans ((congrArg (hK _) e9).trans (kd_nO' (k := 10)))) (by decide)) q9) (rd_nOR (k := 10) hq_164 hm_142 hv_157)
  have hv_217 : hR S_176 901 h = (some q_1) := hf_178.fr (mem_old hm_122) (fun q9 => (fun e9 => absurd (((kd_nO (k := 10) hq_164 hm_122 hk_123)).symm.trans ((congrArg (hK _) e9).trans (kd_nO' (k := 10)))) (by decide)) q9) (rd_nOR (k := 10) hq_164 hm_122 hv_158)
  have hv_218 : hR S_176 902 h = (some q_26) := hf_178.fr (mem_old hm_122) (fun q9 => (fun e9 => absurd (((kd_nO (k := 10) hq_164 hm_122 hk_123)).symm.trans ((congrArg (hK _) e9).trans (kd_nO' (k := 10)))) (by decide)) q9) (rd_nOR (k := 10) hq_164 hm_122 hv_159)
  have hv_219 : hR S_176 903 h = (some q_68) := hf_178.fr (mem_old hm_122) (fun q9 => (fun e9 => absurd (((kd_nO (k := 10) hq_164 hm_122 hk_123)).symm.trans ((congrArg (hK _) e9).trans (kd_nO' (k := 10)))) (by decide)) q9) (rd_nOR (k := 10) hq_164 hm_122 hv_160)
  have hv_220 : hR S_176 904 h = (some q_115) := hf_178.fr (mem_old hm_122) (fun q9 => (fun e9 => absurd (((kd_nO (k := 10) hq_164 hm_122 hk_123)).symm.trans ((congrArg (hK _) e9).trans (kd_nO' (k := 10)))) (by decide)) q9) (rd_nOR (k := 10) hq_164 hm_122 hv_161)
  have hf_221 : Fm (fun _ _ => False) (fun f9 b9 => b9 = h) (fun _ => False) S S_176 := hf_166.then hf_178 (fun a9 ha9 => ⟨(fun f9 h9 => (fun h9 => h9.elim (fun h8 => absurd (h8.2 ▸ ha9) hz_165) (fun h8 => absurd (h8.2 ▸ ha9) hz_165)) h9), (fun f9 h9 => (fun h8 => absurd (h8 ▸ ha9) hz_165) h9), (fun h9 => h9.elim)⟩)
  have hz_222 : q_167 ∉ hL S := fun h9 => e_170 (hf_166.mem h9)
  refine j_putrF (f := 905) C hm9 flX9_39o (by decide) rfl rfl dX9_init_54 hm_183 hk_184 rfl ?_
  refine j_aload_n C dX9_init_57 rfl 0 rfl ?_
  have hf_225 : Fm (fun _ _ => False) (fun f9 b9 => b9 = h) (fun _ => False) S (sR S_176 905 h (some q_163)) := (hf_221.sR _ (fun _ => rfl))
  refine j_new (N := 1) C (ci := 8) rfl rfl klX9_25 knX8 kiX8 (M.cells (by decide)) (M.slots (by decide)) dX9_init_58 (fun q_223 hq_224 => ?_)
  have hz_226 : q_223 ∉ hL S := fun h9 => hq_224 (hf_225.mem h9)
  refine j_dup C dX9_init_61 rfl ?_
  have hf_227 : Fm (fun _ _ => False) (fun f9 b9 => b9 = h) (fun _ => False) S (nO (sR S_176 905 h (some q_163)) q_223 8) := (hf_225.nO _ hq_224)
  refine j_callI C [] [.ref q_223, .ref h] mlX9_27 mcX8_init (c_X8_init (nO (sR S_176 905 h (some q_163)) q_223 8) q_223 mem_new (kd_nO' (k := 8))) (M.rm (by decide) (by decide) (Nat.le_of_ble_eq_true rfl) (Nat.le_of_ble_eq_true rfl)) rfl rfl (Nat.le_of_ble_eq_true rfl) dX9_init_62 (fun r_235 S_236 hp_237 => ?_)
  obtain ⟨rfl, hf_238, q_228, e_229, e_230, e_231, e_232, e_233, e_234⟩ := hp_237
  refine J.eq (st' := [.ref q_223, .ref h]) rfl rfl rfl ?_
  have hz_239 : ∀ j, aI S_236 q_115 j = 0 := fun j9 => (hf_238.ai (mem_old hm_187) (fun h9 => h9) j9).trans (hz_179 j9)
  have hz_240 : ∀ j, aI S_236 q_32 j = 0 := fun j9 => (hf_238.ai (mem_old hm_196) (fun h9 => h9) j9).trans (hz_180 j9)
  have hz_241 : ∀ j, aI S_236 q_5 j = 0 := fun j9 => (hf_238.ai (mem_old hm_199) (fun h9 => h9) j9).trans (hz_181 j9)
  have hz_242 : ∀ j, aI S_236 q_73 j = 0 := fun j9 => (hf_238.ai (mem_old hm_204) (fun h9 => h9) j9).trans (hz_182 j9)
  have hm_243 : h ∈ hL S_236 := hf_238.mem (mem_old hm_183)
  have hk_244 : Kd S_236 h 9 := hf_238.kd (mem_old hm_183) (kd_nO (k := 8) hq_224 hm_183 hk_184)
  have hm_245 : q_1 ∈ hL S_236 := hf_238.mem (mem_old hm_185)
  have hk_246 : Kd S_236 q_1 0 := hf_238.kd (mem_old hm_185) (kd_nO (k := 8) hq_224 hm_185 hk_186)
  have hm_247 : q_115 ∈ hL S_236 := hf_238.mem (mem_old hm_187)
  have hk_248 : Kd S_236 q_115 20 := hf_238.kd (mem_old hm_187) (kd_nO (k := 8) hq_224 hm_187 hk_188)
  have hn_249 : Ln S_236 q_115 16 := hf_238.ln (mem_old hm_187) hn_189
  have hm_250 : q_163 ∈ hL S_236 := hf_238.mem (mem_old hm_190)
  have hk_251 : Kd S_236 q_163 10 := hf_238.kd (mem_old hm_190) (kd_nO (k := 8) hq_224 hm_190 hk_191)
  have hm_252 : q_167 ∈ hL S_236 := hf_238.mem (mem_old e_171)
  have hk_253 : Kd S_236 q_167 15 := hf_238.kd (mem_old e_171) (kd_nO (k := 8) hq_224 e_171 e_172)
  have hn_254 : Ln S_236 q_167 16 := hf_238.ln (mem_old e_171) e_173
  have hm_255 : q_223 ∈ hL S_236 := hf_238.mem mem_new
  have hk_256 : Kd S_236 q_223 8 := hf_238.kd mem_new (kd_nO' (k := 8))
  have hm_257 : q_26 ∈ hL S_236 := hf_238.mem (mem_old hm_192)
  have hk_258 : Kd S_236 q_26 2 := hf_238.kd (mem_old hm_192) (kd_nO (k := 8) hq_224 hm_192 hk_193)
  have hm_259 : q_31 ∈ hL S_236 := hf_238.mem (mem_old hm_194)
  have hk_260 : Kd S_236 q_31 8 := hf_238.kd (mem_old hm_194) (kd_nO (k := 8) hq_224 hm_194 hk_195)
  have hm_261 : q_32 ∈ hL S_236 := hf_238.mem (mem_old hm_196)
  have hk_262 : Kd S_236 q_32 14 := hf_238.kd (mem_old hm_196) (kd_nO (k := 8) hq_224 hm_196 hk_197)
  have hn_263 : Ln S_236 q_32 16 := hf_238.ln (mem_old hm_196) hn_198
  have hm_264 : q_5 ∈ hL S_236 := hf_238.mem (mem_old hm_199)
  have hk_265 : Kd S_236 q_5 14 := hf_238.kd (mem_old hm_199) (kd_nO (k := 8) hq_224 hm_199 hk_200)
  have hn_266 : Ln S_236 q_5 20000 := hf_238.ln (mem_old hm_199) hn_201
  have hm_267 : q_68 ∈ hL S_236 := hf_238.mem (mem_old hm_202)
  have hk_268 : Kd S_236 q_68 8 := hf_238.kd (mem_old hm_202) (kd_nO (k := 8) hq_224 hm_202 hk_203)
  have hm_269 : q_73 ∈ hL S_236 := hf_238.mem (mem_old hm_204)
  have hk_270 : Kd S_236 q_73 14 := hf_238.kd (mem_old hm_204) (kd_nO (k := 8) hq_224 hm_204 hk_205)
  have hn_271 : Ln S_236 q_73 16 := hf_238.ln (mem_old hm_204) hn_206
  have hv_272 : hI S_236 1000 q_163 = 1 := hf_238.fi (mem_old hm_190) (fun h9 => h9) (rd_nOI (k := 8) hq_224 hm_190 e_168)
  have hv_273 : hI S_236 1001 q_163 = 1 := hf_238.fi (mem_old hm_190) (fun h9 => h9) (rd_nOI (k := 8) hq_224 hm_190 e_169)
  have hv_274 : hI S_236 2 q_1 = 0 := hf_238.fi (mem_old hm_185) (fun h9 => h9) (rd_nOI (k := 8) hq_224 hm_185 hv_207)
  have hv_275 : hI S_236 206 q_26 = 0 := hf_238.fi (mem_old hm_192) (fun h9 => h9) (rd_nOI (k := 8) hq_224 hm_192 hv_208)
  have hv_276 : hI S_236 209 q_26 = 0 := hf_238.fi (mem_old hm_192) (fun h9 => h9) (rd_nOI (k := 8) hq_224 hm_192 hv_209)
  have hv_277 : hI S_236 3 q_1 = 0 := hf_238.fi (mem_old hm_185) (fun h9 => h9) (rd_nOI (k := 8) hq_224 hm_185 hv_210)
  have hv_278 : hI S_236 4 q_1 = 0 := hf_238.fi (mem_old hm_185) (fun h9 => h9) (rd_nOI (k := 8) hq_224 hm_185 hv_211)
  have hv_279 : hI S_236 5 q_1 = 0 := hf_238.fi (mem_old hm_185) (fun h9 => h9) (rd_nOI (k := 8) hq_224 hm_185 hv_212)
  have hv_280 : hR S_236 0 q_1 = (some q_5) := hf_238.fr (mem_old hm_185) (fun q9 => (fun e9 => absurd (((kd_nO (k := 8) hq_224 hm_185 hk_186)).symm.trans ((congrArg (hK _) e9).trans (kd_nO' (k := 8)))) (by decide)) q9) (rd_nOR (k := 8) hq_224 hm_185 (rd_sRf (S := S_176) (g := 905) (a := h) (v := (some q_163)) (by decide) hv_213))
  have hv_281 : hR S_236 1003 q_163 = (some q_167) := hf_238.fr (mem_old hm_190) (fun q9 => (fun e9 => absurd (((kd_nO (k := 8) hq_224 hm_190 hk_191)).symm.trans ((congrArg (hK _) e9).trans (kd_nO' (k := 8)))) (by decide)) q9) (rd_nOR (k := 8) hq_224 hm_190 (rd_sRf (S := S_176) (g := 905) (a := h) (v := (some q_163)) (by decide) e_174))
  have hv_282 : hR S_236 200 q_26 = (some q_31) := hf_238.fr (mem_old hm_192) (fun q9 => (fun e9 => absurd (((kd_nO (k := 8) hq_224 hm_192 hk_193)).symm.trans ((congrArg (hK _) e9).trans (kd_nO' (k := 8)))) (by decide)) q9) (rd_nOR (k := 8) hq_224 hm_192 (rd_sRf (S := S_176) (g := 905) (a := h) (v := (some q_163)) (by decide) hv_214))
  have hv_283 : hR S_236 800 q_31 = (some q_32) := hf_238.fr (mem_old hm_194) (fun q9 => (ne_of_nin hq_224 hm_194) q9) (rd_nOR (k := 8) hq_224 hm_194 (rd_sRf (S := S_176) (g := 905) (a := h) (v := (some q_163)) (by decide) hv_215))
  have hv_284 : hR S_236 800 q_68 = (some q_73) := hf_238.fr (mem_old hm_202) (fun q9 => (ne_of_nin hq_224 hm_202) q9) (rd_nOR (k := 8) hq_224 hm_202 (rd_sRf (S := S_176) (g := 905) (a := h) (v := (some q_163)) (by decide) hv_216))
  have hv_285 : hR S_236 901 h = (some q_1) := hf_238.fr (mem_old hm_183) (fun q9 => (fun e9 => absurd (((kd_nO (k := 8) hq_224 hm_183 hk_184)).symm.trans ((congrArg (hK _) e9).trans (kd_nO' (k := 8)))) (by decide)) q9) (rd_nOR (k := 8) hq_224 hm_183 (rd_sRf (S := S_176) (g := 905) (a := h) (v := (some q_163)) (by decide) hv_217))
  have hv_286 : hR S_236 902 h = (some q_26) := hf_238.fr (mem_old hm_183) (fun q9 => (fun e9 => absurd (((kd_nO (k := 8) hq_224 hm_183 hk_184)).symm.trans ((congrArg (hK _) e9).trans (kd_nO' (k := 8)))) (by decide)) q9) (rd_nOR (k := 8) hq_224 hm_183 (rd_sRf (S := S_176) (g := 905) (a := h) (v := (some q_163)) (by decide) hv_218))
  have hv_287 : hR S_236 903 h = (some q_68) := hf_238.fr (mem_old hm_183) (fun q9 => (fun e9 => absurd (((kd_nO (k := 8) hq_224 hm_183 hk_184)).symm.trans ((congrArg (hK _) e9).trans (kd_nO' (k := 8)))) (by decide)) q9) (rd_nOR (k := 8) hq_224 hm_183 (rd_sRf (S := S_176) (g := 905) (a := h) (v := (some q_163)) (by decide) hv_219))
  have hv_288 : hR S_236 904 h = (some q_115) := hf_238.fr (mem_old hm_183) (fun q9 => (fun e9 => absurd (((kd_nO (k := 8) hq_224 hm_183 hk_184)).symm.trans ((congrArg (hK _) e9).trans (kd_nO' (k := 8)))) (by decide)) q9) (rd_nOR (k := 8) hq_224 hm_183 (rd_sRf (S := S_176) (g := 905) (a := h) (v := (some q_163)) (by decide) hv_220))
  have hv_289 : hR S_236 905 h = (some q_163) := hf_238.fr (mem_old hm_183) (fun q9 => (fun e9 => absurd (((kd_nO (k := 8) hq_224 hm_183 hk_184)).symm.trans ((congrArg (hK _) e9).trans (kd_nO' (k := 8)))) (by decide)) q9) (rd_nOR (k := 8) hq_224 hm_183 (rd_sR (S := S_176) (g := 905) (a := h) (v := (some q_163))))
  have hf_290 : Fm (fun _ _ => False) (fun f9 b9 => b9 = h) (fun _ => False) S S_236 := hf_227.then hf_238 (fun a9 ha9 => ⟨(fun f9 h9 => h9.elim), (fun f9 h9 => (fun h8 => absurd (h8 ▸ ha9) hz_226) h9), (fun h9 => h9.elim)⟩)
  have hz_291 : q_228 ∉ hL S := fun h9 => e_229 (hf_227.mem h9)
  refine j_putrF (f := 906) C hm9 flX9_43o (by decide) rfl rfl dX9_init_65 hm_243 hk_244 rfl ?_
  refine j_aload_n C dX9_init_68 rfl 0 rfl ?_
  show J _ _ _ _ _ 69 _
  refine j_sipush (v := 24000) C dX9_init_69 (by decide) ?_
  have hf_294 : Fm (fun _ _ => False) (fun f9 b9 => b9 = h) (fun _ => False) S (sR S_236 906 h (some q_223)) := (hf_290.sR _ (fun _ => rfl))
  refine j_newB (N := 24000) C ka_byte (by decide) (by decide) (Nat.le_of_ble_eq_true rfl) (M.cells (by decide)) (M.slots (Nat.le_of_ble_eq_true rfl)) dX9_init_72 (fun q_292 hq_293 => ?_)
  have hz_295 : q_292 ∉ hL S := fun h9 => hq_293 (hf_294.mem h9)
  refine j_putrF (f := 907) C hm9 flX9_46o (by decide) rfl rfl dX9_init_74 (mem_old hm_243) (kd_nA (k := 13) (n := 24000) hq_293 hm_243 hk_244) rfl ?_
  refine j_aload_n C dX9_init_77 rfl 0 rfl ?_
  refine j_bipush (v := 16) C dX9_init_78 (by decide) ?_
  have hf_298 : Fm (fun _ _ => False) (fun f9 b9 => b9 = h) (fun _ => False) S (sR (nA (sR S_236 906 h (some q_223)) q_292 13 24000) 907 h (some q_292)) := ((hf_294.nA _ _ hq_293).sR _ (fun _ => rfl))
  obtain ⟨S_296, eS_297⟩ : ∃ S9 : Hp, S9 = (sR (nA (sR S_236 906 h (some q_223)) q_292 13 24000) 907 h (some q_292)) := ⟨_, rfl⟩
  refine J.eq (S' := S_296) eS_297.symm rfl rfl ?_
  have hm_299 : h ∈ hL S_296 := by rw [eS_297]; exact (mem_old hm_243)
  have hk_300 : Kd S_296 h 9 := by rw [eS_297]; exact (kd_nA (k := 13) (n := 24000) hq_293 hm_243 hk_244)
  have hm_301 : q_1 ∈ hL S_296 := by rw [eS_297]; exact (mem_old hm_245)
  have hk_302 : Kd S_296 q_1 0 := by rw [eS_297]; exact (kd_nA (k := 13) (n := 24000) hq_293 hm_245 hk_246)
  have hm_303 : q_115 ∈ hL S_296 := by rw [eS_297]; exact (mem_old hm_247)
  have hk_304 : Kd S_296 q_115 20 := by rw [eS_297]; exact (kd_nA (k := 13) (n := 24000) hq_293 hm_247 hk_248)
  have hn_305 : Ln S_296 q_115 16 := by rw [eS_297]; exact (ln_nA (k := 13) hq_293 hm_247 hn_249)
  have hz_306 : ∀ j, aI S_296 q_115 j = 0 := by rw [eS_297]; exact (fun j9 => rd_nAI (k := 13) (n := 24000) hq_293 hm_247 (hz_239 j9))
  have hm_307 : q_163 ∈ hL S_296 := by rw [eS_297]; exact (mem_old hm_250)
  have hk_308 : Kd S_296 q_163 10 := by rw [eS_297]; exact (kd_nA (k := 13) (n := 24000) hq_293 hm_250 hk_251)
  have hm_309 : q_167 ∈ hL S_296 := by rw [eS_297]; exact (mem_old hm_252)
  have hk_310 : Kd S_296 q_167 15 := by rw [eS_297]; exact (kd_nA (k := 13) (n := 24000) hq_293 hm_252 hk_253)
  have hn_311 : Ln S_296 q_167 16 := by rw [eS_297]; exact (ln_nA (k := 13) hq_293 hm_252 hn_254)
  have hm_312 : q_223 ∈ hL S_296 := by rw [eS_297]; exact (mem_old hm_255)
  have hk_313 : Kd S_296 q_223 8 := by rw [eS_297]; exact (kd_nA (k := 13) (n := 24000) hq_293 hm_255 hk_256)
  have hm_314 : q_228 ∈ hL S_296 := by rw [eS_297]; exact (mem_old e_230)
  have hk_315 : Kd S_296 q_228 14 := by rw [eS_297]; exact (kd_nA (k := 13) (n := 24000) hq_293 e_230 e_231)
  have hn_316 : Ln S_296 q_228 16 := by rw [eS_297]; exact (ln_nA (k := 13) hq_293 e_230 e_232)
  have hz_317 : ∀ j, aI S_296 q_228 j = 0 := by rw [eS_297]; exact (fun j9 => rd_nAI (k := 13) (n := 24000) hq_293 e_230 (e_234 j9))
  have hm_318 : q_26 ∈ hL S_296 := by rw [eS_297]; exact (mem_old hm_257)
  have hk_319 : Kd S_296 q_26 2 := by rw [eS_297]; exact (kd_nA (k := 13) (n := 24000) hq_293 hm_257 hk_258)
  have hm_320 : q_292 ∈ hL S_296 := by rw [eS_297]; exact mem_new
  have hk_321 : Kd S_296 q_292 13 := by rw [eS_297]; exact (kd_nA' (k := 13) (n := 24000))
  have hn_322 : Ln S_296 q_292 24000 := by rw [eS_297]; exact (ln_nA' (k := 13))
  have hz_323 : ∀ j, aI S_296 q_292 j = 0 := by rw [eS_297]; exact (fun j9 => rd_nAI' (k := 13) (n := 24000))
  have hm_324 : q_31 ∈ hL S_296 := by rw [eS_297]; exact (mem_old hm_259)
  have hk_325 : Kd S_296 q_31 8 := by rw [eS_297]; exact (kd_nA (k := 13) (n := 24000) hq_293 hm_259 hk_260)
  have hm_326 : q_32 ∈ hL S_296 := by rw [eS_297]; exact (mem_old hm_261)
  have hk_327 : Kd S_296 q_32 14 := by rw [eS_297]; exact (kd_nA (k := 13) (n := 24000) hq_293 hm_261 hk_262)
  have hn_328 : Ln S_296 q_32 16 := by rw [eS_297]; exact (ln_nA (k := 13) hq_293 hm_261 hn_263)
  have hz_329 : ∀ j, aI S_296 q_32 j = 0 := by rw [eS_297]; exact (fun j9 => rd_nAI (k := 13) (n := 24000) hq_293 hm_261 (hz_240 j9))
  have hm_330 : q_5 ∈ hL S_296 := by rw [eS_297]; exact (mem_old hm_264)
  have hk_331 : Kd S_296 q_5 14 := by rw [eS_297]; exact (kd_nA (k := 13) (n := 24000) hq_293 hm_264 hk_265)
  have hn_332 : Ln S_296 q_5 20000 := by rw [eS_297]; exact (ln_nA (k := 13) hq_293 hm_264 hn_266)
  have hz_333 : ∀ j, aI S_296 q_5 j = 0 := by rw [eS_297]; exact (fun j9 => rd_nAI (k := 13) (n := 24000) hq_293 hm_264 (hz_241 j9))
  have hm_334 : q_68 ∈ hL S_296 := by rw [eS_297]; exact (mem_old hm_267)
  have hk_335 : Kd S_296 q_68 8 := by rw [eS_297]; exact (kd_nA (k := 13) (n := 24000) hq_293 hm_267 hk_268)
  have hm_336 : q_73 ∈ hL S_296 := by rw [eS_297]; exact (mem_old hm_269)
  have hk_337 : Kd S_296 q_73 14 := by rw [eS_297]; exact (kd_nA (k := 13) (n := 24000) hq_293 hm_269 hk_270)
  have hn_338 : Ln S_296 q_73 16 := by rw [eS_297]; exact (ln_nA (k := 13) hq_293 hm_269 hn_271)
  have hz_339 : ∀ j, aI S_296 q_73 j = 0 := by rw [eS_297]; exact (fun j9 => rd_nAI (k := 13) (n := 24000) hq_293 hm_269 (hz_242 j9))
  have hv_340 : hI S_296 1000 q_163 = 1 := by rw [eS_297]; exact hv_272
  have hv_341 : hI S_296 1001 q_163 = 1 := by rw [eS_297]; exact hv_273
  have hv_342 : hI S_296 2 q_1 = 0 := by rw [eS_297]; exact hv_274
  have hv_343 : hI S_296 206 q_26 = 0 := by rw [eS_297]; exact hv_275
  have hv_344 : hI S_296 209 q_26 = 0 := by rw [eS_297]; exact hv_276
  have hv_345 : hI S_296 3 q_1 = 0 := by rw [eS_297]; exact hv_277
  have hv_346 : hI S_296 4 q_1 = 0 := by rw [eS_297]; exact hv_278
  have hv_347 : hI S_296 5 q_1 = 0 := by rw [eS_297]; exact hv_279
  have hv_348 : hR S_296 0 q_1 = (some q_5) := by rw [eS_297]; exact (rd_sRf (S := (nA (sR S_236 906 h (some q_223)) q_292 13 24000)) (g := 907) (a := h) (v := (some q_292)) (by decide) (rd_sRf (S := S_236) (g := 906) (a := h) (v := (some q_223)) (by decide) hv_280))
  have hv_349 : hR S_296 1003 q_163 = (some q_167) := by rw [eS_297]; exact (rd_sRf (S := (nA (sR S_236 906 h (some q_223)) q_292 13 24000)) (g := 907) (a := h) (v := (some q_292)) (by decide) (rd_sRf (S := S_236) (g := 906) (a := h) (v := (some q_223)) (by decide) hv_281))
  have hv_350 : hR S_296 200 q_26 = (some q_31) := by rw [eS_297]; exact (rd_sRf (S := (nA (sR S_236 906 h (some q_223)) q_292 13 24000)) (g := 907) (a := h) (v := (some q_292)) (by decide) (rd_sRf (S := S_236) (g := 906) (a := h) (v := (some q_223)) (by decide) hv_282))
  have hv_351 : hR S_296 800 q_223 = (some q_228) := by rw [eS_297]; exact (rd_sRf (S := (nA (sR S_236 906 h (some q_223)) q_292 13 24000)) (g := 907) (a := h) (v := (some q_292)) (by decide) (rd_sRf (S := S_236) (g := 906) (a := h) (v := (some q_223)) (by decide) e_233))
  have hv_352 : hR S_296 800 q_31 = (some q_32) := by rw [eS_297]; exact (rd_sRf (S := (nA (sR S_236 906 h (some q_223)) q_292 13 24000)) (g := 907) (a := h) (v := (some q_292)) (by decide) (rd_sRf (S := S_236) (g := 906) (a := h) (v := (some q_223)) (by decide) hv_283))
  have hv_353 : hR S_296 800 q_68 = (some q_73) := by rw [eS_297]; exact (rd_sRf (S := (nA (sR S_236 906 h (some q_223)) q_292 13 24000)) (g := 907) (a := h) (v := (some q_292)) (by decide) (rd_sRf (S := S_236) (g := 906) (a := h) (v := (some q_223)) (by decide) hv_284))
  have hv_354 : hR S_296 901 h = (some q_1) := by rw [eS_297]; exact (rd_sRf (S := (nA (sR S_236 906 h (some q_223)) q_292 13 24000)) (g := 907) (a := h) (v := (some q_292)) (by decide) (rd_sRf (S := S_236) (g := 906) (a := h) (v := (some q_223)) (by decide) hv_285))
  have hv_355 : hR S_296 902 h = (some q_26) := by rw [eS_297]; exact (rd_sRf (S := (nA (sR S_236 906 h (some q_223)) q_292 13 24000)) (g := 907) (a := h) (v := (some q_292)) (by decide) (rd_sRf (S := S_236) (g := 906) (a := h) (v := (some q_223)) (by decide) hv_286))
  have hv_356 : hR S_296 903 h = (some q_68) := by rw [eS_297]; exact (rd_sRf (S := (nA (sR S_236 906 h (some q_223)) q_292 13 24000)) (g := 907) (a := h) (v := (some q_292)) (by decide) (rd_sRf (S := S_236) (g := 906) (a := h) (v := (some q_223)) (by decide) hv_287))
  have hv_357 : hR S_296 904 h = (some q_115) := by rw [eS_297]; exact (rd_sRf (S := (nA (sR S_236 906 h (some q_223)) q_292 13 24000)) (g := 907) (a := h) (v := (some q_292)) (by decide) (rd_sRf (S := S_236) (g := 906) (a := h) (v := (some q_223)) (by decide) hv_288))
  have hv_358 : hR S_296 905 h = (some q_163) := by rw [eS_297]; exact (rd_sRf (S := (nA (sR S_236 906 h (some q_223)) q_292 13 24000)) (g := 907) (a := h) (v := (some q_292)) (by decide) (rd_sRf (S := S_236) (g := 906) (a := h) (v := (some q_223)) (by decide) hv_289))
  have hv_359 : hR S_296 906 h = (some q_223) := by rw [eS_297]; exact (rd_sRf (S := (nA (sR S_236 906 h (some q_223)) q_292 13 24000)) (g := 907) (a := h) (v := (some q_292)) (by decide) (rd_sR (S := S_236) (g := 906) (a := h) (v := (some q_223))))
  have hv_360 : hR S_296 907 h = (some q_292) := by rw [eS_297]; exact (rd_sR (S := (nA (sR S_236 906 h (some q_223)) q_292 13 24000)) (g := 907) (a := h) (v := (some q_292)))
  have hf_361 : Fm (fun _ _ => False) (fun f9 b9 => b9 = h) (fun _ => False) S S_296 := by rw [eS_297]; exact hf_298
  refine j_newI (N := 16) C ka_int (by decide) (by decide) (Nat.le_of_ble_eq_true rfl) (M.cells (by decide)) (M.slots (Nat.le_of_ble_eq_true rfl)) dX9_init_80 (fun q_362 hq_363 => ?_)
  have hz_364 : q_362 ∉ hL S := fun h9 => hq_363 (hf_361.mem h9)
  refine j_putrF (f := 908) C hm9 flX9_50o (by decide) rfl rfl dX9_init_82 (mem_old hm_299) (kd_nA (k := 14) (n := 16) hq_363 hm_299 hk_300) rfl ?_
  refine j_aload_n C dX9_init_85 rfl 0 rfl ?_
  show J _ _ _ _ _ 86 _
  have hf_367 : Fm (fun _ _ => False) (fun f9 b9 => b9 = h) (fun _ => False) S (sR (nA S_296 q_362 14 16) 908 h (some q_362)) := ((hf_361.nA _ _ hq_363).sR _ (fun _ => rfl))
  obtain ⟨S_365, eS_366⟩ : ∃ S9 : Hp, S9 = (sR (nA S_296 q_362 14 16) 908 h (some q_362)) := ⟨_, rfl⟩
  refine J.eq (S' := S_365) eS_366.symm rfl rfl ?_
  have hm_368 : h ∈ hL S_365 := by rw [eS_366]; exact (mem_old hm_299)
  have hk_369 : Kd S_365 h 9 := by rw [eS_366]; exact (kd_nA (k := 14) (n := 16) hq_363 hm_299 hk_300)
  have hm_370 : q_1 ∈ hL S_365 := by rw [eS_366]; exact (mem_old hm_301)
  have hk_371 : Kd S_365 q_1 0 := by rw [eS_366]; exact (kd_nA (k := 14) (n := 16) hq_363 hm_301 hk_302)
  have hm_372 : q_115 ∈ hL S_365 := by rw [eS_366]; exact (mem_old hm_303)
  have hk_373 : Kd S_365 q_115 20 := by rw [eS_366]; exact (kd_nA (k := 14) (n := 16) hq_363 hm_303 hk_304)
  have hn_374 : Ln S_365 q_115 16 := by rw [eS_366]; exact (ln_nA (k := 14) hq_363 hm_303 hn_305)
  have hz_375 : ∀ j, aI S_365 q_115 j = 0 := by rw [eS_366]; exact (fun j9 => rd_nAI (k := 14) (n := 16) hq_363 hm_303 (hz_306 j9))
  have hm_376 : q_163 ∈ hL S_365 := by rw [eS_366]; exact (mem_old hm_307)
  have hk_377 : Kd S_365 q_163 10 := by rw [eS_366]; exact (kd_nA (k := 14) (n := 16) hq_363 hm_307 hk_308)
  have hm_378 : q_167 ∈ hL S_365 := by rw [eS_366]; exact (mem_old hm_309)
  have hk_379 : Kd S_365 q_167 15 := by rw [eS_366]; exact (kd_nA (k := 14) (n := 16) hq_363 hm_309 hk_310)
  have hn_380 : Ln S_365 q_167 16 := by rw [eS_366]; exact (ln_nA (k := 14) hq_363 hm_309 hn_311)
  have hm_381 : q_223 ∈ hL S_365 := by rw [eS_366]; exact (mem_old hm_312)
  have hk_382 : Kd S_365 q_223 8 := by rw [eS_366]; exact (kd_nA (k := 14) (n := 16) hq_363 hm_312 hk_313)
  have hm_383 : q_228 ∈ hL S_365 := by rw [eS_366]; exact (mem_old hm_314)
  have hk_384 : Kd S_365 q_228 14 := by rw [eS_366]; exact (kd_nA (k := 14) (n := 16) hq_363 hm_314 hk_315)
  have hn_385 : Ln S_365 q_228 16 := by rw [eS_366]; exact (ln_nA (k := 14) hq_363 hm_314 hn_316)
  have hz_386 : ∀ j, aI S_365 q_228 j = 0 := by rw [eS_366]; exact (fun j9 => rd_nAI (k := 14) (n := 16) hq_363 hm_314 (hz_317 j9))
  have hm_387 : q_26 ∈ hL S_365 := by rw [eS_366]; exact (mem_old hm_318)
  have hk_388 : Kd S_365 q_26 2 := by rw [eS_366]; exact (kd_nA (k := 14) (n := 16) hq_363 hm_318 hk_319)
  have hm_389 : q_292 ∈ hL S_365 := by rw [eS_366]; exact (mem_old hm_320)
  have hk_390 : Kd S_365 q_292 13 := by rw [eS_366]; exact (kd_nA (k := 14) (n := 16) hq_363 hm_320 hk_321)
  have hn_391 : Ln S_365 q_292 24000 := by rw [eS_366]; exact (ln_nA (k := 14) hq_363 hm_320 hn_322)
  have hz_392 : ∀ j, aI S_365 q_292 j = 0 := by rw [eS_366]; exact (fun j9 => rd_nAI (k := 14) (n := 16) hq_363 hm_320 (hz_323 j9))
  have hm_393 : q_31 ∈ hL S_365 := by rw [eS_366]; exact (mem_old hm_324)
  have hk_394 : Kd S_365 q_31 8 := by rw [eS_366]; exact (kd_nA (k := 14) (n := 16) hq_363 hm_324 hk_325)
  have hm_395 : q_32 ∈ hL S_365 := by rw [eS_366]; exact (mem_old hm_326)
  have hk_396 : Kd S_365 q_32 14 := by rw [eS_366]; exact (kd_nA (k := 14) (n := 16) hq_363 hm_326 hk_327)
  have hn_397 : Ln S_365 q_32 16 := by rw [eS_366]; exact (ln_nA (k := 14) hq_363 hm_326 hn_328)
  have hz_398 : ∀ j, aI S_365 q_32 j = 0 := by rw [eS_366]; exact (fun j9 => rd_nAI (k := 14) (n := 16) hq_363 hm_326 (hz_329 j9))
  have hm_399 : q_362 ∈ hL S_365 := by rw [eS_366]; exact mem_new
  have hk_400 : Kd S_365 q_362 14 := by rw [eS_366]; exact (kd_nA' (k := 14) (n := 16))
  have hn_401 : Ln S_365 q_362 16 := by rw [eS_366]; exact (ln_nA' (k := 14))
  have hz_402 : ∀ j, aI S_365 q_362 j = 0 := by rw [eS_366]; exact (fun j9 => rd_nAI' (k := 14) (n := 16))
  have hm_403 : q_5 ∈ hL S_365 := by rw [eS_366]; exact (mem_old hm_330)
  have hk_404 : Kd S_365 q_5 14 := by rw [eS_366]; exact (kd_nA (k := 14) (n := 16) hq_363 hm_330 hk_331)
  have hn_405 : Ln S_365 q_5 20000 := by rw [eS_366]; exact (ln_nA (k := 14) hq_363 hm_330 hn_332)
  have hz_406 : ∀ j, aI S_365 q_5 j = 0 := by rw [eS_366]; exact (fun j9 => rd_nAI (k := 14) (n := 16) hq_363 hm_330 (hz_333 j9))
  have hm_407 : q_68 ∈ hL S_365 := by rw [eS_366]; exact (mem_old hm_334)
  have hk_408 : Kd S_365 q_68 8 := by rw [eS_366]; exact (kd_nA (k := 14) (n := 16) hq_363 hm_334 hk_335)
  have hm_409 : q_73 ∈ hL S_365 := by rw [eS_366]; exact (mem_old hm_336)
  have hk_410 : Kd S_365 q_73 14 := by rw [eS_366]; exact (kd_nA (k := 14) (n := 16) hq_363 hm_336 hk_337)
  have hn_411 : Ln S_365 q_73 16 := by rw [eS_366]; exact (ln_nA (k := 14) hq_363 hm_336 hn_338)
  have hz_412 : ∀ j, aI S_365 q_73 j = 0 := by rw [eS_366]; exact (fun j9 => rd_nAI (k := 14) (n := 16) hq_363 hm_336 (hz_339 j9))
  have hv_413 : hI S_365 1000 q_163 = 1 := by rw [eS_366]; exact hv_340
  have hv_414 : hI S_365 1001 q_163 = 1 := by rw [eS_366]; exact hv_341
  have hv_415 : hI S_365 2 q_1 = 0 := by rw [eS_366]; exact hv_342
  have hv_416 : hI S_365 206 q_26 = 0 := by rw [eS_366]; exact hv_343
  have hv_417 : hI S_365 209 q_26 = 0 := by rw [eS_366]; exact hv_344
  have hv_418 : hI S_365 3 q_1 = 0 := by rw [eS_366]; exact hv_345
  have hv_419 : hI S_365 4 q_1 = 0 := by rw [eS_366]; exact hv_346
  have hv_420 : hI S_365 5 q_1 = 0 := by rw [eS_366]; exact hv_347
  have hv_421 : hR S_365 0 q_1 = (some q_5) := by rw [eS_366]; exact (rd_sRf (S := (nA S_296 q_362 14 16)) (g := 908) (a := h) (v := (some q_362)) (by decide) hv_348)
  have hv_422 : hR S_365 1003 q_163 = (some q_167) := by rw [eS_366]; exact (rd_sRf (S := (nA S_296 q_362 14 16)) (g := 908) (a := h) (v := (some q_362)) (by decide) hv_349)
  have hv_423 : hR S_365 200 q_26 = (some q_31) := by rw [eS_366]; exact (rd_sRf (S := (nA S_296 q_362 14 16)) (g := 908) (a := h) (v := (some q_362)) (by decide) hv_350)
  have hv_424 : hR S_365 800 q_223 = (some q_228) := by rw [eS_366]; exact (rd_sRf (S := (nA S_296 q_362 14 16)) (g := 908) (a := h) (v := (some q_362)) (by decide) hv_351)
  have hv_425 : hR S_365 800 q_31 = (some q_32) := by rw [eS_366]; exact (rd_sRf (S := (nA S_296 q_362 14 16)) (g := 908) (a := h) (v := (some q_362)) (by decide) hv_352)
  have hv_426 : hR S_365 800 q_68 = (some q_73) := by rw [eS_366]; exact (rd_sRf (S := (nA S_296 q_362 14 16)) (g := 908) (a := h) (v := (some q_362)) (by decide) hv_353)
  have hv_427 : hR S_365 901 h = (some q_1) := by rw [eS_366]; exact (rd_sRf (S := (nA S_296 q_362 14 16)) (g := 908) (a := h) (v := (some q_362)) (by decide) hv_354)
  have hv_428 : hR S_365 902 h = (some q_26) := by rw [eS_366]; exact (rd_sRf (S := (nA S_296 q_362 14 16)) (g := 908) (a := h) (v := (some q_362)) (by decide) hv_355)
  have hv_429 : hR S_365 903 h = (some q_68) := by rw [eS_366]; exact (rd_sRf (S := (nA S_296 q_362 14 16)) (g := 908) (a := h) (v := (some q_362)) (by decide) hv_356)
  have hv_430 : hR S_365 904 h = (some q_115) := by rw [eS_366]; exact (rd_sRf (S := (nA S_296 q_362 14 16)) (g := 908) (a := h) (v := (some q_362)) (by decide) hv_357)
  have hv_431 : hR S_365 905 h = (some q_163) := by rw [eS_366]; exact (rd_sRf (S := (nA S_296 q_362 14 16)) (g := 908) (a := h) (v := (some q_362)) (by decide) hv_358)
  have hv_432 : hR S_365 906 h = (some q_223) := by rw [eS_366]; exact (rd_sRf (S := (nA S_296 q_362 14 16)) (g := 908) (a := h) (v := (some q_362)) (by decide) hv_359)
  have hv_433 : hR S_365 907 h = (some q_292) := by rw [eS_366]; exact (rd_sRf (S := (nA S_296 q_362 14 16)) (g := 908) (a := h) (v := (some q_362)) (by decide) hv_360)
  have hv_434 : hR S_365 908 h = (some q_362) := by rw [eS_366]; exact (rd_sR (S := (nA S_296 q_362 14 16)) (g := 908) (a := h) (v := (some q_362)))
  have hf_435 : Fm (fun _ _ => False) (fun f9 b9 => b9 = h) (fun _ => False) S S_365 := by rw [eS_366]; exact hf_367
  refine j_new (N := 21) C (ci := 1) rfl rfl klX9_54 knX1 kiX1 (M.cells (by decide)) (M.slots (by decide)) dX9_init_86 (fun q_436 hq_437 => ?_)
  have hz_438 : q_436 ∉ hL S := fun h9 => hq_437 (hf_435.mem h9)
  refine j_dup C dX9_init_89 rfl ?_
  have hf_439 : Fm (fun _ _ => False) (fun f9 b9 => b9 = h) (fun _ => False) S (nO S_365 q_436 1) := (hf_435.nO _ hq_437)
  refine j_callI C [] [.ref q_436, .ref h] mlX9_56 mcX1_init (c_X1_init (nO S_365 q_436 1) q_436 mem_new (kd_nO' (k := 1))) (M.rm (by decide) (by decide) (Nat.le_of_ble_eq_true rfl) (Nat.le_of_ble_eq_true rfl)) rfl rfl (Nat.le_of_ble_eq_true rfl) dX9_init_90 (fun r_440 S_441 hp_442 => ?_)
  obtain ⟨rfl, hf_443⟩ := hp_442
  refine J.eq (st' := [.ref q_436, .ref h]) rfl rfl rfl ?_
  have hz_444 : ∀ j, aI S_441 q_115 j = 0 := fun j9 => (hf_443.ai (mem_old hm_372) (fun h9 => h9) j9).trans (hz_375 j9)
  have hz_445 : ∀ j, aI S_441 q_228 j = 0 := fun j9 => (hf_443.ai (mem_old hm_383) (fun h9 => h9) j9).trans (hz_386 j9)
  have hz_446 : ∀ j, aI S_441 q_292 j = 0 := fun j9 => (hf_443.ai (mem_old hm_389) (fun h9 => h9) j9).trans (hz_392 j9)
  have hz_447 : ∀ j, aI S_441 q_32 j = 0 := fun j9 => (hf_443.ai (mem_old hm_395) (fun h9 => h9) j9).trans (hz_398 j9)
  have hz_448 : ∀ j, aI S_441 q_362 j = 0 := fun j9 => (hf_443.ai (mem_old hm_399) (fun h9 => h9) j9).trans (hz_402 j9)
  have hz_449 : ∀ j, aI S_441 q_5 j = 0 := fun j9 => (hf_443.ai (mem_old hm_403) (fun h9 => h9) j9).trans (hz_406 j9)
  have hz_450 : ∀ j, aI S_441 q_73 j = 0 := fun j9 => (hf_443.ai (mem_old hm_409) (fun h9 => h9) j9).trans (hz_412 j9)
  have hm_451 : h ∈ hL S_441 := hf_443.mem (mem_old hm_368)
  have hk_452 : Kd S_441 h 9 := hf_443.kd (mem_old hm_368) (kd_nO (k := 1) hq_437 hm_368 hk_369)
  have hm_453 : q_1 ∈ hL S_441 := hf_443.mem (mem_old hm_370)
  have hk_454 : Kd S_441 q_1 0 := hf_443.kd (mem_old hm_370) (kd_nO (k := 1) hq_437 hm_370 hk_371)
  have hm_455 : q_115 ∈ hL S_441 := hf_443.mem (mem_old hm_372)
  have hk_456 : Kd S_441 q_115 20 := hf_443.kd (mem_old hm_372) (kd_nO (k := 1) hq_437 hm_372 hk_373)
  have hn_457 : Ln S_441 q_115 16 := hf_443.ln (mem_old hm_372) hn_374
  have hm_458 : q_163 ∈ hL S_441 := hf_443.mem (mem_old hm_376)
  have hk_459 : Kd S_441 q_163 10 := hf_443.kd (mem_old hm_376) (kd_nO (k := 1) hq_437 hm_376 hk_377)
  have hm_460 : q_167 ∈ hL S_441 := hf_443.mem (mem_old hm_378)
  have hk_461 : Kd S_441 q_167 15 := hf_443.kd (mem_old hm_378) (kd_nO (k := 1) hq_437 hm_378 hk_379)
  have hn_462 : Ln S_441 q_167 16 := hf_443.ln (mem_old hm_378) hn_380
  have hm_463 : q_223 ∈ hL S_441 := hf_443.mem (mem_old hm_381)
  have hk_464 : Kd S_441 q_223 8 := hf_443.kd (mem_old hm_381) (kd_nO (k := 1) hq_437 hm_381 hk_382)
  have hm_465 : q_228 ∈ hL S_441 := hf_443.mem (mem_old hm_383)
  have hk_466 : Kd S_441 q_228 14 := hf_443.kd (mem_old hm_383) (kd_nO (k := 1) hq_437 hm_383 hk_384)
  have hn_467 : Ln S_441 q_228 16 := hf_443.ln (mem_old hm_383) hn_385
  have hm_468 : q_26 ∈ hL S_441 := hf_443.mem (mem_old hm_387)
  have hk_469 : Kd S_441 q_26 2 := hf_443.kd (mem_old hm_387) (kd_nO (k := 1) hq_437 hm_387 hk_388)
  have hm_470 : q_292 ∈ hL S_441 := hf_443.mem (mem_old hm_389)
  have hk_471 : Kd S_441 q_292 13 := hf_443.kd (mem_old hm_389) (kd_nO (k := 1) hq_437 hm_389 hk_390)
  have hn_472 : Ln S_441 q_292 24000 := hf_443.ln (mem_old hm_389) hn_391
  have hm_473 : q_31 ∈ hL S_441 := hf_443.mem (mem_old hm_393)
  have hk_474 : Kd S_441 q_31 8 := hf_443.kd (mem_old hm_393) (kd_nO (k := 1) hq_437 hm_393 hk_394)
  have hm_475 : q_32 ∈ hL S_441 := hf_443.mem (mem_old hm_395)
  have hk_476 : Kd S_441 q_32 14 := hf_443.kd (mem_old hm_395) (kd_nO (k := 1) hq_437 hm_395 hk_396)
  have hn_477 : Ln S_441 q_32 16 := hf_443.ln (mem_old hm_395) hn_397
  have hm_478 : q_362 ∈ hL S_441 := hf_443.mem (mem_old hm_399)
  have hk_479 : Kd S_441 q_362 14 := hf_443.kd (mem_old hm_399) (kd_nO (k := 1) hq_437 hm_399 hk_400)
  have hn_480 : Ln S_441 q_362 16 := hf_443.ln (mem_old hm_399) hn_401
  have hm_481 : q_436 ∈ hL S_441 := hf_443.mem mem_new
  have hk_482 : Kd S_441 q_436 1 := hf_443.kd mem_new (kd_nO' (k := 1))
  have hm_483 : q_5 ∈ hL S_441 := hf_443.mem (mem_old hm_403)
  have hk_484 : Kd S_441 q_5 14 := hf_443.kd (mem_old hm_403) (kd_nO (k := 1) hq_437 hm_403 hk_404)
  have hn_485 : Ln S_441 q_5 20000 := hf_443.ln (mem_old hm_403) hn_405
  have hm_486 : q_68 ∈ hL S_441 := hf_443.mem (mem_old hm_407)
  have hk_487 : Kd S_441 q_68 8 := hf_443.kd (mem_old hm_407) (kd_nO (k := 1) hq_437 hm_407 hk_408)
  have hm_488 : q_73 ∈ hL S_441 := hf_443.mem (mem_old hm_409)
  have hk_489 : Kd S_441 q_73 14 := hf_443.kd (mem_old hm_409) (kd_nO (k := 1) hq_437 hm_409 hk_410)
  have hn_490 : Ln S_441 q_73 16 := hf_443.ln (mem_old hm_409) hn_411
  have hv_491 : hI S_441 1000 q_163 = 1 := hf_443.fi (mem_old hm_376) (fun h9 => h9) (rd_nOI (k := 1) hq_437 hm_376 hv_413)
  have hv_492 : hI S_441 1001 q_163 = 1 := hf_443.fi (mem_old hm_376) (fun h9 => h9) (rd_nOI (k := 1) hq_437 hm_376 hv_414)
  have hv_493 : hI S_441 2 q_1 = 0 := hf_443.fi (mem_old hm_370) (fun h9 => h9) (rd_nOI (k := 1) hq_437 hm_370 hv_415)
  have hv_494 : hI S_441 206 q_26 = 0 := hf_443.fi (mem_old hm_387) (fun h9 => h9) (rd_nOI (k := 1) hq_437 hm_387 hv_416)
  have hv_495 : hI S_441 209 q_26 = 0 := hf_443.fi (mem_old hm_387) (fun h9 => h9) (rd_nOI (k := 1) hq_437 hm_387 hv_417)
  have hv_496 : hI S_441 3 q_1 = 0 := hf_443.fi (mem_old hm_370) (fun h9 => h9) (rd_nOI (k := 1) hq_437 hm_370 hv_418)
  have hv_497 : hI S_441 4 q_1 = 0 := hf_443.fi (mem_old hm_370) (fun h9 => h9) (rd_nOI (k := 1) hq_437 hm_370 hv_419)
  have hv_498 : hI S_441 5 q_1 = 0 := hf_443.fi (mem_old hm_370) (fun h9 => h9) (rd_nOI (k := 1) hq_437 hm_370 hv_420)
  have hv_499 : hR S_441 0 q_1 = (some q_5) := hf_443.fr (mem_old hm_370) (fun q9 => (fun e9 => absurd (((kd_nO (k := 1) hq_437 hm_370 hk_371)).symm.trans ((congrArg (hK _) e9).trans (kd_nO' (k := 1)))) (by decide)) q9) (rd_nOR (k := 1) hq_437 hm_370 hv_421)
  have hv_500 : hR S_441 1003 q_163 = (some q_167) := hf_443.fr (mem_old hm_376) (fun q9 => (fun e9 => absurd (((kd_nO (k := 1) hq_437 hm_376 hk_377)).symm.trans ((congrArg (hK _) e9).trans (kd_nO' (k := 1)))) (by decide)) q9) (rd_nOR (k := 1) hq_437 hm_376 hv_422)
  have hv_501 : hR S_441 200 q_26 = (some q_31) := hf_443.fr (mem_old hm_387) (fun q9 => (fun e9 => absurd (((kd_nO (k := 1) hq_437 hm_387 hk_388)).symm.trans ((congrArg (hK _) e9).trans (kd_nO' (k := 1)))) (by decide)) q9) (rd_nOR (k := 1) hq_437 hm_387 hv_423)
  have hv_502 : hR S_441 800 q_223 = (some q_228) := hf_443.fr (mem_old hm_381) (fun q9 => (fun e9 => absurd (((kd_nO (k := 1) hq_437 hm_381 hk_382)).symm.trans ((congrArg (hK _) e9).trans (kd_nO' (k := 1)))) (by decide)) q9) (rd_nOR (k := 1) hq_437 hm_381 hv_424)
  have hv_503 : hR S_441 800 q_31 = (some q_32) := hf_443.fr (mem_old hm_393) (fun q9 => (fun e9 => absurd (((kd_nO (k := 1) hq_437 hm_393 hk_394)).symm.trans ((congrArg (hK _) e9).trans (kd_nO' (k := 1)))) (by decide)) q9) (rd_nOR (k := 1) hq_437 hm_393 hv_425)
  have hv_504 : hR S_441 800 q_68 = (some q_73) := hf_443.fr (mem_old hm_407) (fun q9 => (fun e9 => absurd (((kd_nO (k := 1) hq_437 hm_407 hk_408)).symm.trans ((congrArg (hK _) e9).trans (kd_nO' (k := 1)))) (by decide)) q9) (rd_nOR (k := 1) hq_437 hm_407 hv_426)
  have hv_505 : hR S_441 901 h = (some q_1) := hf_443.fr (mem_old hm_368) (fun q9 => (fun e9 => absurd (((kd_nO (k := 1) hq_437 hm_368 hk_369)).symm.trans ((congrArg (hK _) e9).trans (kd_nO' (k := 1)))) (by decide)) q9) (rd_nOR (k := 1) hq_437 hm_368 hv_427)
  have hv_506 : hR S_441 902 h = (some q_26) := hf_443.fr (mem_old hm_368) (fun q9 => (fun e9 => absurd (((kd_nO (k := 1) hq_437 hm_368 hk_369)).symm.trans ((congrArg (hK _) e9).trans (kd_nO' (k := 1)))) (by decide)) q9) (rd_nOR (k := 1) hq_437 hm_368 hv_428)
  have hv_507 : hR S_441 903 h = (some q_68) := hf_443.fr (mem_old hm_368) (fun q9 => (fun e9 => absurd (((kd_nO (k := 1) hq_437 hm_368 hk_369)).symm.trans ((congrArg (hK _) e9).trans (kd_nO' (k := 1)))) (by decide)) q9) (rd_nOR (k := 1) hq_437 hm_368 hv_429)
  have hv_508 : hR S_441 904 h = (some q_115) := hf_443.fr (mem_old hm_368) (fun q9 => (fun e9 => absurd (((kd_nO (k := 1) hq_437 hm_368 hk_369)).symm.trans ((congrArg (hK _) e9).trans (kd_nO' (k := 1)))) (by decide)) q9) (rd_nOR (k := 1) hq_437 hm_368 hv_430)
  have hv_509 : hR S_441 905 h = (some q_163) := hf_443.fr (mem_old hm_368) (fun q9 => (fun e9 => absurd (((kd_nO (k := 1) hq_437 hm_368 hk_369)).symm.trans ((congrArg (hK _) e9).trans (kd_nO' (k := 1)))) (by decide)) q9) (rd_nOR (k := 1) hq_437 hm_368 hv_431)
  have hv_510 : hR S_441 906 h = (some q_223) := hf_443.fr (mem_old hm_368) (fun q9 => (fun e9 => absurd (((kd_nO (k := 1) hq_437 hm_368 hk_369)).symm.trans ((congrArg (hK _) e9).trans (kd_nO' (k := 1)))) (by decide)) q9) (rd_nOR (k := 1) hq_437 hm_368 hv_432)
  have hv_511 : hR S_441 907 h = (some q_292) := hf_443.fr (mem_old hm_368) (fun q9 => (fun e9 => absurd (((kd_nO (k := 1) hq_437 hm_368 hk_369)).symm.trans ((congrArg (hK _) e9).trans (kd_nO' (k := 1)))) (by decide)) q9) (rd_nOR (k := 1) hq_437 hm_368 hv_433)
  have hv_512 : hR S_441 908 h = (some q_362) := hf_443.fr (mem_old hm_368) (fun q9 => (fun e9 => absurd (((kd_nO (k := 1) hq_437 hm_368 hk_369)).symm.trans ((congrArg (hK _) e9).trans (kd_nO' (k := 1)))) (by decide)) q9) (rd_nOR (k := 1) hq_437 hm_368 hv_434)
  have hf_513 : Fm (fun _ _ => False) (fun f9 b9 => b9 = h) (fun _ => False) S S_441 := hf_439.then hf_443 (fun a9 ha9 => ⟨(fun f9 h9 => h9.elim), (fun f9 h9 => (fun h8 => absurd (h8 ▸ ha9) hz_438) h9), (fun h9 => h9.elim)⟩)
  refine j_putrF (f := 909) C hm9 flX9_57o (by decide) rfl rfl dX9_init_93 hm_451 hk_452 rfl ?_
  refine j_aload_n C dX9_init_96 rfl 0 rfl ?_
  have hf_516 : Fm (fun _ _ => False) (fun f9 b9 => b9 = h) (fun _ => False) S (sR S_441 909 h (some q_436)) := (hf_513.sR _ (fun _ => rfl))
  refine j_new (N := 21) C (ci := 1) rfl rfl klX9_54 knX1 kiX1 (M.cells (by decide)) (M.slots (by decide)) dX9_init_97 (fun q_514 hq_515 => ?_)
  have hz_517 : q_514 ∉ hL S := fun h9 => hq_515 (hf_516.mem h9)
  refine j_dup C dX9_init_100 rfl ?_
  have hf_518 : Fm (fun _ _ => False) (fun f9 b9 => b9 = h) (fun _ => False) S (nO (sR S_441 909 h (some q_436)) q_514 1) := (hf_516.nO _ hq_515)
  refine j_callI C [] [.ref q_514, .ref h] mlX9_56 mcX1_init (c_X1_init (nO (sR S_441 909 h (some q_436)) q_514 1) q_514 mem_new (kd_nO' (k := 1))) (M.rm (by decide) (by decide) (Nat.le_of_ble_eq_true rfl) (Nat.le_of_ble_eq_true rfl)) rfl rfl (Nat.le_of_ble_eq_true rfl) dX9_init_101 (fun r_519 S_520 hp_521 => ?_)
  obtain ⟨rfl, hf_522⟩ := hp_521
  refine J.eq (st' := [.ref q_514, .ref h]) rfl rfl rfl ?_
  have hz_523 : ∀ j, aI S_520 q_115 j = 0 := fun j9 => (hf_522.ai (mem_old hm_455) (fun h9 => h9) j9).trans (hz_444 j9)
  have hz_524 : ∀ j, aI S_520 q_228 j = 0 := fun j9 => (hf_522.ai (mem_old hm_465) (fun h9 => h9) j9).trans (hz_445 j9)
  have hz_525 : ∀ j, aI S_520 q_292 j = 0 := fun j9 => (hf_522.ai (mem_old hm_470) (fun h9 => h9) j9).trans (hz_446 j9)
  have hz_526 : ∀ j, aI S_520 q_32 j = 0 := fun j9 => (hf_522.ai (mem_old hm_475) (fun h9 => h9) j9).trans (hz_447 j9)
  have hz_527 : ∀ j, aI S_520 q_362 j = 0 := fun j9 => (hf_522.ai (mem_old hm_478) (fun h9 => h9) j9).trans (hz_448 j9)
  have hz_528 : ∀ j, aI S_520 q_5 j = 0 := fun j9 => (hf_522.ai (mem_old hm_483) (fun h9 => h9) j9).trans (hz_449 j9)
  have hz_529 : ∀ j, aI S_520 q_73 j = 0 := fun j9 => (hf_522.ai (mem_old hm_488) (fun h9 => h9) j9).trans (hz_450 j9)
  have hm_530 : h ∈ hL S_520 := hf_522.mem (mem_old hm_451)
  have hk_531 : Kd S_520 h 9 := hf_522.kd (mem_old hm_451) (kd_nO (k := 1) hq_515 hm_451 hk_452)
  have hm_532 : q_1 ∈ hL S_520 := hf_522.mem (mem_old hm_453)
  have hk_533 : Kd S_520 q_1 0 := hf_522.kd (mem_old hm_453) (kd_nO (k := 1) hq_515 hm_453 hk_454)
  have hm_534 : q_115 ∈ hL S_520 := hf_522.mem (mem_old hm_455)
  have hk_535 : Kd S_520 q_115 20 := hf_522.kd (mem_old hm_455) (kd_nO (k := 1) hq_515 hm_455 hk_456)
  have hn_536 : Ln S_520 q_115 16 := hf_522.ln (mem_old hm_455) hn_457
  have hm_537 : q_163 ∈ hL S_520 := hf_522.mem (mem_old hm_458)
  have hk_538 : Kd S_520 q_163 10 := hf_522.kd (mem_old hm_458) (kd_nO (k := 1) hq_515 hm_458 hk_459)
  have hm_539 : q_167 ∈ hL S_520 := hf_522.mem (mem_old hm_460)
  have hk_540 : Kd S_520 q_167 15 := hf_522.kd (mem_old hm_460) (kd_nO (k := 1) hq_515 hm_460 hk_461)
  have hn_541 : Ln S_520 q_167 16 := hf_522.ln (mem_old hm_460) hn_462
  have hm_542 : q_223 ∈ hL S_520 := hf_522.mem (mem_old hm_463)
  have hk_543 : Kd S_520 q_223 8 := hf_522.kd (mem_old hm_463) (kd_nO (k := 1) hq_515 hm_463 hk_464)
  have hm_544 : q_228 ∈ hL S_520 := hf_522.mem (mem_old hm_465)
  have hk_545 : Kd S_520 q_228 14 := hf_522.kd (mem_old hm_465) (kd_nO (k := 1) hq_515 hm_465 hk_466)
  have hn_546 : Ln S_520 q_228 16 := hf_522.ln (mem_old hm_465) hn_467
  have hm_547 : q_26 ∈ hL S_520 := hf_522.mem (mem_old hm_468)
  have hk_548 : Kd S_520 q_26 2 := hf_522.kd (mem_old hm_468) (kd_nO (k := 1) hq_515 hm_468 hk_469)
  have hm_549 : q_292 ∈ hL S_520 := hf_522.mem (mem_old hm_470)
  have hk_550 : Kd S_520 q_292 13 := hf_522.kd (mem_old hm_470) (kd_nO (k := 1) hq_515 hm_470 hk_471)
  have hn_551 : Ln S_520 q_292 24000 := hf_522.ln (mem_old hm_470) hn_472
  have hm_552 : q_31 ∈ hL S_520 := hf_522.mem (mem_old hm_473)
  have hk_553 : Kd S_520 q_31 8 := hf_522.kd (mem_old hm_473) (kd_nO (k := 1) hq_515 hm_473 hk_474)
  have hm_554 : q_32 ∈ hL S_520 := hf_522.mem (mem_old hm_475)
  have hk_555 : Kd S_520 q_32 14 := hf_522.kd (mem_old hm_475) (kd_nO (k := 1) hq_515 hm_475 hk_476)
  have hn_556 : Ln S_520 q_32 16 := hf_522.ln (mem_old hm_475) hn_477
  have hm_557 : q_362 ∈ hL S_520 := hf_522.mem (mem_old hm_478)
  have hk_558 : Kd S_520 q_362 14 := hf_522.kd (mem_old hm_478) (kd_nO (k := 1) hq_515 hm_478 hk_479)
  have hn_559 : Ln S_520 q_362 16 := hf_522.ln (mem_old hm_478) hn_480
  have hm_560 : q_436 ∈ hL S_520 := hf_522.mem (mem_old hm_481)
  have hk_561 : Kd S_520 q_436 1 := hf_522.kd (mem_old hm_481) (kd_nO (k := 1) hq_515 hm_481 hk_482)
  have hm_562 : q_5 ∈ hL S_520 := hf_522.mem (mem_old hm_483)
  have hk_563 : Kd S_520 q_5 14 := hf_522.kd (mem_old hm_483) (kd_nO (k := 1) hq_515 hm_483 hk_484)
  have hn_564 : Ln S_520 q_5 20000 := hf_522.ln (mem_old hm_483) hn_485
  have hm_565 : q_514 ∈ hL S_520 := hf_522.mem mem_new
  have hk_566 : Kd S_520 q_514 1 := hf_522.kd mem_new (kd_nO' (k := 1))
  have hm_567 : q_68 ∈ hL S_520 := hf_522.mem (mem_old hm_486)
  have hk_568 : Kd S_520 q_68 8 := hf_522.kd (mem_old hm_486) (kd_nO (k := 1) hq_515 hm_486 hk_487)
  have hm_569 : q_73 ∈ hL S_520 := hf_522.mem (mem_old hm_488)
  have hk_570 : Kd S_520 q_73 14 := hf_522.kd (mem_old hm_488) (kd_nO (k := 1) hq_515 hm_488 hk_489)
  have hn_571 : Ln S_520 q_73 16 := hf_522.ln (mem_old hm_488) hn_490
  have hv_572 : hI S_520 1000 q_163 = 1 := hf_522.fi (mem_old hm_458) (fun h9 => h9) (rd_nOI (k := 1) hq_515 hm_458 hv_491)
  have hv_573 : hI S_520 1001 q_163 = 1 := hf_522.fi (mem_old hm_458) (fun h9 => h9) (rd_nOI (k := 1) hq_515 hm_458 hv_492)
  have hv_574 : hI S_520 2 q_1 = 0 := hf_522.fi (mem_old hm_453) (fun h9 => h9) (rd_nOI (k := 1) hq_515 hm_453 hv_493)
  have hv_575 : hI S_520 206 q_26 = 0 := hf_522.fi (mem_old hm_468) (fun h9 => h9) (rd_nOI (k := 1) hq_515 hm_468 hv_494)
  have hv_576 : hI S_520 209 q_26 = 0 := hf_522.fi (mem_old hm_468) (fun h9 => h9) (rd_nOI (k := 1) hq_515 hm_468 hv_495)
  have hv_577 : hI S_520 3 q_1 = 0 := hf_522.fi (mem_old hm_453) (fun h9 => h9) (rd_nOI (k := 1) hq_515 hm_453 hv_496)
  have hv_578 : hI S_520 4 q_1 = 0 := hf_522.fi (mem_old hm_453) (fun h9 => h9) (rd_nOI (k := 1) hq_515 hm_453 hv_497)
  have hv_579 : hI S_520 5 q_1 = 0 := hf_522.fi (mem_old hm_453) (fun h9 => h9) (rd_nOI (k := 1) hq_515 hm_453 hv_498)
  have hv_580 : hR S_520 0 q_1 = (some q_5) := hf_522.fr (mem_old hm_453) (fun q9 => (fun e9 => absurd (((kd_nO (k := 1) hq_515 hm_453 hk_454)).symm.trans ((congrArg (hK _) e9).trans (kd_nO' (k := 1)))) (by decide)) q9) (rd_nOR (k := 1) hq_515 hm_453 (rd_sRf (S := S_441) (g := 909) (a := h) (v := (some q_436)) (by decide) hv_499))
  have hv_581 : hR S_520 1003 q_163 = (some q_167) := hf_522.fr (mem_old hm_458) (fun q9 => (fun e9 => absurd (((kd_nO (k := 1) hq_515 hm_458 hk_459)).symm.trans ((congrArg (hK _) e9).trans (kd_nO' (k := 1)))) (by decide)) q9) (rd_nOR (k := 1) hq_515 hm_458 (rd_sRf (S := S_441) (g := 909) (a := h) (v := (some q_436)) (by decide) hv_500))
  have hv_582 : hR S_520 200 q_26 = (some q_31) := hf_522.fr (mem_old hm_468) (fun q9 => (fun e9 => absurd (((kd_nO (k := 1) hq_515 hm_468 hk_469)).symm.trans ((congrArg (hK _) e9).trans (kd_nO' (k := 1)))) (by decide)) q9) (rd_nOR (k := 1) hq_515 hm_468 (rd_sRf (S := S_441) (g := 909) (a := h) (v := (some q_436)) (by decide) hv_501))
  have hv_583 : hR S_520 800 q_223 = (some q_228) := hf_522.fr (mem_old hm_463) (fun q9 => (fun e9 => absurd (((kd_nO (k := 1) hq_515 hm_463 hk_464)).symm.trans ((congrArg (hK _) e9).trans (kd_nO' (k := 1)))) (by decide)) q9) (rd_nOR (k := 1) hq_515 hm_463 (rd_sRf (S := S_441) (g := 909) (a := h) (v := (some q_436)) (by decide) hv_502))
  have hv_584 : hR S_520 800 q_31 = (some q_32) := hf_522.fr (mem_old hm_473) (fun q9 => (fun e9 => absurd (((kd_nO (k := 1) hq_515 hm_473 hk_474)).symm.trans ((congrArg (hK _) e9).trans (kd_nO' (k := 1)))) (by decide)) q9) (rd_nOR (k := 1) hq_515 hm_473 (rd_sRf (S := S_441) (g := 909) (a := h) (v := (some q_436)) (by decide) hv_503))
  have hv_585 : hR S_520 800 q_68 = (some q_73) := hf_522.fr (mem_old hm_486) (fun q9 => (fun e9 => absurd (((kd_nO (k := 1) hq_515 hm_486 hk_487)).symm.trans ((congrArg (hK _) e9).trans (kd_nO' (k := 1)))) (by decide)) q9) (rd_nOR (k := 1) hq_515 hm_486 (rd_sRf (S := S_441) (g := 909) (a := h) (v := (some q_436)) (by decide) hv_504))
  have hv_586 : hR S_520 901 h = (some q_1) := hf_522.fr (mem_old hm_451) (fun q9 => (fun e9 => absurd (((kd_nO (k := 1) hq_515 hm_451 hk_452)).symm.trans ((congrArg (hK _) e9).trans (kd_nO' (k := 1)))) (by decide)) q9) (rd_nOR (k := 1) hq_515 hm_451 (rd_sRf (S := S_441) (g := 909) (a := h) (v := (some q_436)) (by decide) hv_505))
  have hv_587 : hR S_520 902 h = (some q_26) := hf_522.fr (mem_old hm_451) (fun q9 => (fun e9 => absurd (((kd_nO (k := 1) hq_515 hm_451 hk_452)).symm.trans ((congrArg (hK _) e9).trans (kd_nO' (k := 1)))) (by decide)) q9) (rd_nOR (k := 1) hq_515 hm_451 (rd_sRf (S := S_441) (g := 909) (a := h) (v := (some q_436)) (by decide) hv_506))
  have hv_588 : hR S_520 903 h = (some q_68) := hf_522.fr (mem_old hm_451) (fun q9 => (fun e9 => absurd (((kd_nO (k := 1) hq_515 hm_451 hk_452)).symm.trans ((congrArg (hK _) e9).trans (kd_nO' (k := 1)))) (by decide)) q9) (rd_nOR (k := 1) hq_515 hm_451 (rd_sRf (S := S_441) (g := 909) (a := h) (v := (some q_436)) (by decide) hv_507))
  have hv_589 : hR S_520 904 h = (some q_115) := hf_522.fr (mem_old hm_451) (fun q9 => (fun e9 => absurd (((kd_nO (k := 1) hq_515 hm_451 hk_452)).symm.trans ((congrArg (hK _) e9).trans (kd_nO' (k := 1)))) (by decide)) q9) (rd_nOR (k := 1) hq_515 hm_451 (rd_sRf (S := S_441) (g := 909) (a := h) (v := (some q_436)) (by decide) hv_508))
  have hv_590 : hR S_520 905 h = (some q_163) := hf_522.fr (mem_old hm_451) (fun q9 => (fun e9 => absurd (((kd_nO (k := 1) hq_515 hm_451 hk_452)).symm.trans ((congrArg (hK _) e9).trans (kd_nO' (k := 1)))) (by decide)) q9) (rd_nOR (k := 1) hq_515 hm_451 (rd_sRf (S := S_441) (g := 909) (a := h) (v := (some q_436)) (by decide) hv_509))
  have hv_591 : hR S_520 906 h = (some q_223) := hf_522.fr (mem_old hm_451) (fun q9 => (fun e9 => absurd (((kd_nO (k := 1) hq_515 hm_451 hk_452)).symm.trans ((congrArg (hK _) e9).trans (kd_nO' (k := 1)))) (by decide)) q9) (rd_nOR (k := 1) hq_515 hm_451 (rd_sRf (S := S_441) (g := 909) (a := h) (v := (some q_436)) (by decide) hv_510))
  have hv_592 : hR S_520 907 h = (some q_292) := hf_522.fr (mem_old hm_451) (fun q9 => (fun e9 => absurd (((kd_nO (k := 1) hq_515 hm_451 hk_452)).symm.trans ((congrArg (hK _) e9).trans (kd_nO' (k := 1)))) (by decide)) q9) (rd_nOR (k := 1) hq_515 hm_451 (rd_sRf (S := S_441) (g := 909) (a := h) (v := (some q_436)) (by decide) hv_511))
  have hv_593 : hR S_520 908 h = (some q_362) := hf_522.fr (mem_old hm_451) (fun q9 => (fun e9 => absurd (((kd_nO (k := 1) hq_515 hm_451 hk_452)).symm.trans ((congrArg (hK _) e9).trans (kd_nO' (k := 1)))) (by decide)) q9) (rd_nOR (k := 1) hq_515 hm_451 (rd_sRf (S := S_441) (g := 909) (a := h) (v := (some q_436)) (by decide) hv_512))
  have hv_594 : hR S_520 909 h = (some q_436) := hf_522.fr (mem_old hm_451) (fun q9 => (fun e9 => absurd (((kd_nO (k := 1) hq_515 hm_451 hk_452)).symm.trans ((congrArg (hK _) e9).trans (kd_nO' (k := 1)))) (by decide)) q9) (rd_nOR (k := 1) hq_515 hm_451 (rd_sR (S := S_441) (g := 909) (a := h) (v := (some q_436))))
  have hf_595 : Fm (fun _ _ => False) (fun f9 b9 => b9 = h) (fun _ => False) S S_520 := hf_518.then hf_522 (fun a9 ha9 => ⟨(fun f9 h9 => h9.elim), (fun f9 h9 => (fun h8 => absurd (h8 ▸ ha9) hz_517) h9), (fun h9 => h9.elim)⟩)
  show J _ _ _ _ _ 104 _
  refine j_putrF (f := 910) C hm9 flX9_61o (by decide) rfl rfl dX9_init_104 hm_530 hk_531 rfl ?_
  refine j_aload_n C dX9_init_107 rfl 0 rfl ?_
  refine j_iconst (v := 3) C dX9_init_108 (by decide) ?_
  have hf_598 : Fm (fun _ _ => False) (fun f9 b9 => b9 = h) (fun _ => False) S (sR S_520 910 h (some q_514)) := (hf_595.sR _ (fun _ => rfl))
  refine j_newQ (N := 3) C 18 (by decide) rfl klX9_54 (gx_Environment C) (by decide) (by decide) (by decide) (M.cells (by decide)) (M.slots (by decide)) dX9_init_109 (fun q_596 hq_597 => ?_)
  have hz_599 : q_596 ∉ hL S := fun h9 => hq_597 (hf_598.mem h9)
  refine j_putrF (f := 911) C hm9 flX9_64o (by decide) rfl rfl dX9_init_112 (mem_old hm_530) (kd_nA (k := 18) (n := 3) hq_597 hm_530 hk_531) rfl ?_
  refine j_aload_n C dX9_init_115 rfl 0 rfl ?_
  refine j_iconst (v := 4) C dX9_init_116 (by decide) ?_
  have hf_602 : Fm (fun _ _ => False) (fun f9 b9 => b9 = h) (fun _ => False) S (sR (nA (sR S_520 910 h (some q_514)) q_596 18 3) 911 h (some q_596)) := ((hf_598.nA _ _ hq_597).sR _ (fun _ => rfl))
  obtain ⟨S_600, eS_601⟩ : ∃ S9 : Hp, S9 = (sR (nA (sR S_520 910 h (some q_514)) q_596 18 3) 911 h (some q_596)) := ⟨_, rfl⟩
  refine J.eq (S' := S_600) eS_601.symm rfl rfl ?_
  have hm_603 : h ∈ hL S_600 := by rw [eS_601]; exact (mem_old hm_530)
  have hk_604 : Kd S_600 h 9 := by rw [eS_601]; exact (kd_nA (k := 18) (n := 3) hq_597 hm_530 hk_531)
  have hm_605 : q_1 ∈ hL S_600 := by rw [eS_601]; exact (mem_old hm_532)
  have hk_606 : Kd S_600 q_1 0 := by rw [eS_601]; exact (kd_nA (k := 18) (n := 3) hq_597 hm_532 hk_533)
  have hm_607 : q_115 ∈ hL S_600 := by rw [eS_601]; exact (mem_old hm_534)
  have hk_608 : Kd S_600 q_115 20 := by rw [eS_601]; exact (kd_nA (k := 18) (n := 3) hq_597 hm_534 hk_535)
  have hn_609 : Ln S_600 q_115 16 := by rw [eS_601]; exact (ln_nA (k := 18) hq_597 hm_534 hn_536)
  have hz_610 : ∀ j, aI S_600 q_115 j = 0 := by rw [eS_601]; exact (fun j9 => rd_nAI (k := 18) (n := 3) hq_597 hm_534 (hz_523 j9))
  have hm_611 : q_163 ∈ hL S_600 := by rw [eS_601]; exact (mem_old hm_537)
  have hk_612 : Kd S_600 q_163 10 := by rw [eS_601]; exact (kd_nA (k := 18) (n := 3) hq_597 hm_537 hk_538)
  have hm_613 : q_167 ∈ hL S_600 := by rw [eS_601]; exact (mem_old hm_539)
  have hk_614 : Kd S_600 q_167 15 := by rw [eS_601]; exact (kd_nA (k := 18) (n := 3) hq_597 hm_539 hk_540)
  have hn_615 : Ln S_600 q_167 16 := by rw [eS_601]; exact (ln_nA (k := 18) hq_597 hm_539 hn_541)
  have hm_616 : q_223 ∈ hL S_600 := by rw [eS_601]; exact (mem_old hm_542)
  have hk_617 : Kd S_600 q_223 8 := by rw [eS_601]; exact (kd_nA (k := 18) (n := 3) hq_597 hm_542 hk_543)
  have hm_618 : q_228 ∈ hL S_600 := by rw [eS_601]; exact (mem_old hm_544)
  have hk_619 : Kd S_600 q_228 14 := by rw [eS_601]; exact (kd_nA (k := 18) (n := 3) hq_597 hm_544 hk_545)
  have hn_620 : Ln S_600 q_228 16 := by rw [eS_601]; exact (ln_nA (k := 18) hq_597 hm_544 hn_546)
  have hz_621 : ∀ j, aI S_600 q_228 j = 0 := by rw [eS_601]; exact (fun j9 => rd_nAI (k := 18) (n := 3) hq_597 hm_544 (hz_524 j9))
  have hm_622 : q_26 ∈ hL S_600 := by rw [eS_601]; exact (mem_old hm_547)
  have hk_623 : Kd S_600 q_26 2 := by rw [eS_601]; exact (kd_nA (k := 18) (n := 3) hq_597 hm_547 hk_548)
  have hm_624 : q_292 ∈ hL S_600 := by rw [eS_601]; exact (mem_old hm_549)
  have hk_625 : Kd S_600 q_292 13 := by rw [eS_601]; exact (kd_nA (k := 18) (n := 3) hq_597 hm_549 hk_550)
  have hn_626 : Ln S_600 q_292 24000 := by rw [eS_601]; exact (ln_nA (k := 18) hq_597 hm_549 hn_551)
  have hz_627 : ∀ j, aI S_600 q_292 j = 0 := by rw [eS_601]; exact (fun j9 => rd_nAI (k := 18) (n := 3) hq_597 hm_549 (hz_525 j9))
  have hm_628 : q_31 ∈ hL S_600 := by rw [eS_601]; exact (mem_old hm_552)
  have hk_629 : Kd S_600 q_31 8 := by rw [eS_601]; exact (kd_nA (k := 18) (n := 3) hq_597 hm_552 hk_553)
  have hm_630 : q_32 ∈ hL S_600 := by rw [eS_601]; exact (mem_old hm_554)
  have hk_631 : Kd S_600 q_32 14 := by rw [eS_601]; exact (kd_nA (k := 18) (n := 3) hq_597 hm_554 hk_555)
  have hn_632 : Ln S_600 q_32 16 := by rw [eS_601]; exact (ln_nA (k := 18) hq_597 hm_554 hn_556)
  have hz_633 : ∀ j, aI S_600 q_32 j = 0 := by rw [eS_601]; exact (fun j9 => rd_nAI (k := 18) (n := 3) hq_597 hm_554 (hz_526 j9))
  have hm_634 : q_362 ∈ hL S_600 := by rw [eS_601]; exact (mem_old hm_557)
  have hk_635 : Kd S_600 q_362 14 := by rw [eS_601]; exact (kd_nA (k := 18) (n := 3) hq_597 hm_557 hk_558)
  have hn_636 : Ln S_600 q_362 16 := by rw [eS_601]; exact (ln_nA (k := 18) hq_597 hm_557 hn_559)
  have hz_637 : ∀ j, aI S_600 q_362 j = 0 := by rw [eS_601]; exact (fun j9 => rd_nAI (k := 18) (n := 3) hq_597 hm_557 (hz_527 j9))
  have hm_638 : q_436 ∈ hL S_600 := by rw [eS_601]; exact (mem_old hm_560)
  have hk_639 : Kd S_600 q_436 1 := by rw [eS_601]; exact (kd_nA (k := 18) (n := 3) hq_597 hm_560 hk_561)
  have hm_640 : q_5 ∈ hL S_600 := by rw [eS_601]; exact (mem_old hm_562)
  have hk_641 : Kd S_600 q_5 14 := by rw [eS_601]; exact (kd_nA (k := 18) (n := 3) hq_597 hm_562 hk_563)
  have hn_642 : Ln S_600 q_5 20000 := by rw [eS_601]; exact (ln_nA (k := 18) hq_597 hm_562 hn_564)
  have hz_643 : ∀ j, aI S_600 q_5 j = 0 := by rw [eS_601]; exact (fun j9 => rd_nAI (k := 18) (n := 3) hq_597 hm_562 (hz_528 j9))
  have hm_644 : q_514 ∈ hL S_600 := by rw [eS_601]; exact (mem_old hm_565)
  have hk_645 : Kd S_600 q_514 1 := by rw [eS_601]; exact (kd_nA (k := 18) (n := 3) hq_597 hm_565 hk_566)
  have hm_646 : q_596 ∈ hL S_600 := by rw [eS_601]; exact mem_new
  have hk_647 : Kd S_600 q_596 18 := by rw [eS_601]; exact (kd_nA' (k := 18) (n := 3))
  have hn_648 : Ln S_600 q_596 3 := by rw [eS_601]; exact (ln_nA' (k := 18))
  have hz_649 : ∀ j, aI S_600 q_596 j = 0 := by rw [eS_601]; exact (fun j9 => rd_nAI' (k := 18) (n := 3))
  have hm_650 : q_68 ∈ hL S_600 := by rw [eS_601]; exact (mem_old hm_567)
  have hk_651 : Kd S_600 q_68 8 := by rw [eS_601]; exact (kd_nA (k := 18) (n := 3) hq_597 hm_567 hk_568)
  have hm_652 : q_73 ∈ hL S_600 := by rw [eS_601]; exact (mem_old hm_569)
  have hk_653 : Kd S_600 q_73 14 := by rw [eS_601]; exact (kd_nA (k := 18) (n := 3) hq_597 hm_569 hk_570)
  have hn_654 : Ln S_600 q_73 16 := by rw [eS_601]; exact (ln_nA (k := 18) hq_597 hm_569 hn_571)
  have hz_655 : ∀ j, aI S_600 q_73 j = 0 := by rw [eS_601]; exact (fun j9 => rd_nAI (k := 18) (n := 3) hq_597 hm_569 (hz_529 j9))
  have hv_656 : hI S_600 1000 q_163 = 1 := by rw [eS_601]; exact hv_572
  have hv_657 : hI S_600 1001 q_163 = 1 := by rw [eS_601]; exact hv_573
  have hv_658 : hI S_600 2 q_1 = 0 := by rw [eS_601]; exact hv_574
  have hv_659 : hI S_600 206 q_26 = 0 := by rw [eS_601]; exact hv_575
  have hv_660 : hI S_600 209 q_26 = 0 := by rw [eS_601]; exact hv_576
  have hv_661 : hI S_600 3 q_1 = 0 := by rw [eS_601]; exact hv_577
  have hv_662 : hI S_600 4 q_1 = 0 := by rw [eS_601]; exact hv_578
  have hv_663 : hI S_600 5 q_1 = 0 := by rw [eS_601]; exact hv_579
  have hv_664 : hR S_600 0 q_1 = (some q_5) := by rw [eS_601]; exact (rd_sRf (S := (nA (sR S_520 910 h (some q_514)) q_596 18 3)) (g := 911) (a := h) (v := (some q_596)) (by decide) (rd_sRf (S := S_520) (g := 910) (a := h) (v := (some q_514)) (by decide) hv_580))
  have hv_665 : hR S_600 1003 q_163 = (some q_167) := by rw [eS_601]; exact (rd_sRf (S := (nA (sR S_520 910 h (some q_514)) q_596 18 3)) (g := 911) (a := h) (v := (some q_596)) (by decide) (rd_sRf (S := S_520) (g := 910) (a := h) (v := (some q_514)) (by decide) hv_581))
  have hv_666 : hR S_600 200 q_26 = (some q_31) := by rw [eS_601]; exact (rd_sRf (S := (nA (sR S_520 910 h (some q_514)) q_596 18 3)) (g := 911) (a := h) (v := (some q_596)) (by decide) (rd_sRf (S := S_520) (g := 910) (a := h) (v := (some q_514)) (by decide) hv_582))
  have hv_667 : hR S_600 800 q_223 = (some q_228) := by rw [eS_601]; exact (rd_sRf (S := (nA (sR S_520 910 h (some q_514)) q_596 18 3)) (g := 911) (a := h) (v := (some q_596)) (by decide) (rd_sRf (S := S_520) (g := 910) (a := h) (v := (some q_514)) (by decide) hv_583))
  have hv_668 : hR S_600 800 q_31 = (some q_32) := by rw [eS_601]; exact (rd_sRf (S := (nA (sR S_520 910 h (some q_514)) q_596 18 3)) (g := 911) (a := h) (v := (some q_596)) (by decide) (rd_sRf (S := S_520) (g := 910) (a := h) (v := (some q_514)) (by decide) hv_584))
  have hv_669 : hR S_600 800 q_68 = (some q_73) := by rw [eS_601]; exact (rd_sRf (S := (nA (sR S_520 910 h (some q_514)) q_596 18 3)) (g := 911) (a := h) (v := (some q_596)) (by decide) (rd_sRf (S := S_520) (g := 910) (a := h) (v := (some q_514)) (by decide) hv_585))
  have hv_670 : hR S_600 901 h = (some q_1) := by rw [eS_601]; exact (rd_sRf (S := (nA (sR S_520 910 h (some q_514)) q_596 18 3)) (g := 911) (a := h) (v := (some q_596)) (by decide) (rd_sRf (S := S_520) (g := 910) (a := h) (v := (some q_514)) (by decide) hv_586))
  have hv_671 : hR S_600 902 h = (some q_26) := by rw [eS_601]; exact (rd_sRf (S := (nA (sR S_520 910 h (some q_514)) q_596 18 3)) (g := 911) (a := h) (v := (some q_596)) (by decide) (rd_sRf (S := S_520) (g := 910) (a := h) (v := (some q_514)) (by decide) hv_587))
  have hv_672 : hR S_600 903 h = (some q_68) := by rw [eS_601]; exact (rd_sRf (S := (nA (sR S_520 910 h (some q_514)) q_596 18 3)) (g := 911) (a := h) (v := (some q_596)) (by decide) (rd_sRf (S := S_520) (g := 910) (a := h) (v := (some q_514)) (by decide) hv_588))
  have hv_673 : hR S_600 904 h = (some q_115) := by rw [eS_601]; exact (rd_sRf (S := (nA (sR S_520 910 h (some q_514)) q_596 18 3)) (g := 911) (a := h) (v := (some q_596)) (by decide) (rd_sRf (S := S_520) (g := 910) (a := h) (v := (some q_514)) (by decide) hv_589))
  have hv_674 : hR S_600 905 h = (some q_163) := by rw [eS_601]; exact (rd_sRf (S := (nA (sR S_520 910 h (some q_514)) q_596 18 3)) (g := 911) (a := h) (v := (some q_596)) (by decide) (rd_sRf (S := S_520) (g := 910) (a := h) (v := (some q_514)) (by decide) hv_590))
  have hv_675 : hR S_600 906 h = (some q_223) := by rw [eS_601]; exact (rd_sRf (S := (nA (sR S_520 910 h (some q_514)) q_596 18 3)) (g := 911) (a := h) (v := (some q_596)) (by decide) (rd_sRf (S := S_520) (g := 910) (a := h) (v := (some q_514)) (by decide) hv_591))
  have hv_676 : hR S_600 907 h = (some q_292) := by rw [eS_601]; exact (rd_sRf (S := (nA (sR S_520 910 h (some q_514)) q_596 18 3)) (g := 911) (a := h) (v := (some q_596)) (by decide) (rd_sRf (S := S_520) (g := 910) (a := h) (v := (some q_514)) (by decide) hv_592))
  have hv_677 : hR S_600 908 h = (some q_362) := by rw [eS_601]; exact (rd_sRf (S := (nA (sR S_520 910 h (some q_514)) q_596 18 3)) (g := 911) (a := h) (v := (some q_596)) (by decide) (rd_sRf (S := S_520) (g := 910) (a := h) (v := (some q_514)) (by decide) hv_593))
  have hv_678 : hR S_600 909 h = (some q_436) := by rw [eS_601]; exact (rd_sRf (S := (nA (sR S_520 910 h (some q_514)) q_596 18 3)) (g := 911) (a := h) (v := (some q_596)) (by decide) (rd_sRf (S := S_520) (g := 910) (a := h) (v := (some q_514)) (by decide) hv_594))
  have hv_679 : hR S_600 910 h = (some q_514) := by rw [eS_601]; exact (rd_sRf (S := (nA (sR S_520 910 h (some q_514)) q_596 18 3)) (g := 911) (a := h) (v := (some q_596)) (by decide) (rd_sR (S := S_520) (g := 910) (a := h) (v := (some q_514))))
  have hv_680 : hR S_600 911 h = (some q_596) := by rw [eS_601]; exact (rd_sR (S := (nA (sR S_520 910 h (some q_514)) q_596 18 3)) (g := 911) (a := h) (v := (some q_596)))
  have hf_681 : Fm (fun _ _ => False) (fun f9 b9 => b9 = h) (fun _ => False) S S_600 := by rw [eS_601]; exact hf_602
  refine j_newQ (N := 4) C 19 (by decide) rfl klX9_68 (gx_Reading C) (by decide) (by decide) (by decide) (M.cells (by decide)) (M.slots (by decide)) dX9_init_117 (fun q_682 hq_683 => ?_)
  have hz_684 : q_682 ∉ hL S := fun h9 => hq_683 (hf_681.mem h9)
  show J _ _ _ _ _ 120 _
  refine j_putrF (f := 912) C hm9 flX9_70o (by decide) rfl rfl dX9_init_120 (mem_old hm_603) (kd_nA (k := 19) (n := 4) hq_683 hm_603 hk_604) rfl ?_
  refine j_aload_n C dX9_init_123 rfl 0 rfl ?_
  refine j_bipush (v := 12) C dX9_init_124 (by decide) ?_
  have hf_687 : Fm (fun _ _ => False) (fun f9 b9 => b9 = h) (fun _ => False) S (sR (nA S_600 q_682 19 4) 912 h (some q_682)) := ((hf_681.nA _ _ hq_683).sR _ (fun _ => rfl))
  obtain ⟨S_685, eS_686⟩ : ∃ S9 : Hp, S9 = (sR (nA S_600 q_682 19 4) 912 h (some q_682)) := ⟨_, rfl⟩
  refine J.eq (S' := S_685) eS_686.symm rfl rfl ?_
  have hm_688 : h ∈ hL S_685 := by rw [eS_686]; exact (mem_old hm_603)
  have hk_689 : Kd S_685 h 9 := by rw [eS_686]; exact (kd_nA (k := 19) (n := 4) hq_683 hm_603 hk_604)
  have hm_690 : q_1 ∈ hL S_685 := by rw [eS_686]; exact (mem_old hm_605)
  have hk_691 : Kd S_685 q_1 0 := by rw [eS_686]; exact (kd_nA (k := 19) (n := 4) hq_683 hm_605 hk_606)
  have hm_692 : q_115 ∈ hL S_685 := by rw [eS_686]; exact (mem_old hm_607)
  have hk_693 : Kd S_685 q_115 20 := by rw [eS_686]; exact (kd_nA (k := 19) (n := 4) hq_683 hm_607 hk_608)
  have hn_694 : Ln S_685 q_115 16 := by rw [eS_686]; exact (ln_nA (k := 19) hq_683 hm_607 hn_609)
  have hz_695 : ∀ j, aI S_685 q_115 j = 0 := by rw [eS_686]; exact (fun j9 => rd_nAI (k := 19) (n := 4) hq_683 hm_607 (hz_610 j9))
  have hm_696 : q_163 ∈ hL S_685 := by rw [eS_686]; exact (mem_old hm_611)
  have hk_697 : Kd S_685 q_163 10 := by rw [eS_686]; exact (kd_nA (k := 19) (n := 4) hq_683 hm_611 hk_612)
  have hm_698 : q_167 ∈ hL S_685 := by rw [eS_686]; exact (mem_old hm_613)
  have hk_699 : Kd S_685 q_167 15 := by rw [eS_686]; exact (kd_nA (k := 19) (n := 4) hq_683 hm_613 hk_614)
  have hn_700 : Ln S_685 q_167 16 := by rw [eS_686]; exact (ln_nA (k := 19) hq_683 hm_613 hn_615)
  have hm_701 : q_223 ∈ hL S_685 := by rw [eS_686]; exact (mem_old hm_616)
  have hk_702 : Kd S_685 q_223 8 := by rw [eS_686]; exact (kd_nA (k := 19) (n := 4) hq_683 hm_616 hk_617)
  have hm_703 : q_228 ∈ hL S_685 := by rw [eS_686]; exact (mem_old hm_618)
  have hk_704 : Kd S_685 q_228 14 := by rw [eS_686]; exact (kd_nA (k := 19) (n := 4) hq_683 hm_618 hk_619)
  have hn_705 : Ln S_685 q_228 16 := by rw [eS_686]; exact (ln_nA (k := 19) hq_683 hm_618 hn_620)
  have hz_706 : ∀ j, aI S_685 q_228 j = 0 := by rw [eS_686]; exact (fun j9 => rd_nAI (k := 19) (n := 4) hq_683 hm_618 (hz_621 j9))
  have hm_707 : q_26 ∈ hL S_685 := by rw [eS_686]; exact (mem_old hm_622)
  have hk_708 : Kd S_685 q_26 2 := by rw [eS_686]; exact (kd_nA (k := 19) (n := 4) hq_683 hm_622 hk_623)
  have hm_709 : q_292 ∈ hL S_685 := by rw [eS_686]; exact (mem_old hm_624)
  have hk_710 : Kd S_685 q_292 13 := by rw [eS_686]; exact (kd_nA (k := 19) (n := 4) hq_683 hm_624 hk_625)
  have hn_711 : Ln S_685 q_292 24000 := by rw [eS_686]; exact (ln_nA (k := 19) hq_683 hm_624 hn_626)
  have hz_712 : ∀ j, aI S_685 q_292 j = 0 := by rw [eS_686]; exact (fun j9 => rd_nAI (k := 19) (n := 4) hq_683 hm_624 (hz_627 j9))
  have hm_713 : q_31 ∈ hL S_685 := by rw [eS_686]; exact (mem_old hm_628)
  have hk_714 : Kd S_685 q_31 8 := by rw [eS_686]; exact (kd_nA (k := 19) (n := 4) hq_683 hm_628 hk_629)
  have hm_715 : q_32 ∈ hL S_685 := by rw [eS_686]; exact (mem_old hm_630)
  have hk_716 : Kd S_685 q_32 14 := by rw [eS_686]; exact (kd_nA (k := 19) (n := 4) hq_683 hm_630 hk_631)
  have hn_717 : Ln S_685 q_32 16 := by rw [eS_686]; exact (ln_nA (k := 19) hq_683 hm_630 hn_632)
  have hz_718 : ∀ j, aI S_685 q_32 j = 0 := by rw [eS_686]; exact (fun j9 => rd_nAI (k := 19) (n := 4) hq_683 hm_630 (hz_633 j9))
  have hm_719 : q_362 ∈ hL S_685 := by rw [eS_686]; exact (mem_old hm_634)
  have hk_720 : Kd S_685 q_362 14 := by rw [eS_686]; exact (kd_nA (k := 19) (n := 4) hq_683 hm_634 hk_635)
  have hn_721 : Ln S_685 q_362 16 := by rw [eS_686]; exact (ln_nA (k := 19) hq_683 hm_634 hn_636)
  have hz_722 : ∀ j, aI S_685 q_362 j = 0 := by rw [eS_686]; exact (fun j9 => rd_nAI (k := 19) (n := 4) hq_683 hm_634 (hz_637 j9))
  have hm_723 : q_436 ∈ hL S_685 := by rw [eS_686]; exact (mem_old hm_638)
  have hk_724 : Kd S_685 q_436 1 := by rw [eS_686]; exact (kd_nA (k := 19) (n := 4) hq_683 hm_638 hk_639)
  have hm_725 : q_5 ∈ hL S_685 := by rw [eS_686]; exact (mem_old hm_640)
  have hk_726 : Kd S_685 q_5 14 := by rw [eS_686]; exact (kd_nA (k := 19) (n := 4) hq_683 hm_640 hk_641)
  have hn_727 : Ln S_685 q_5 20000 := by rw [eS_686]; exact (ln_nA (k := 19) hq_683 hm_640 hn_642)
  have hz_728 : ∀ j, aI S_685 q_5 j = 0 := by rw [eS_686]; exact (fun j9 => rd_nAI (k := 19) (n := 4) hq_683 hm_640 (hz_643 j9))
  have hm_729 : q_514 ∈ hL S_685 := by rw [eS_686]; exact (mem_old hm_644)
  have hk_730 : Kd S_685 q_514 1 := by rw [eS_686]; exact (kd_nA (k := 19) (n := 4) hq_683 hm_644 hk_645)
  have hm_731 : q_596 ∈ hL S_685 := by rw [eS_686]; exact (mem_old hm_646)
  have hk_732 : Kd S_685 q_596 18 := by rw [eS_686]; exact (kd_nA (k := 19) (n := 4) hq_683 hm_646 hk_647)
  have hn_733 : Ln S_685 q_596 3 := by rw [eS_686]; exact (ln_nA (k := 19) hq_683 hm_646 hn_648)
  have hz_734 : ∀ j, aI S_685 q_596 j = 0 := by rw [eS_686]; exact (fun j9 => rd_nAI (k := 19) (n := 4) hq_683 hm_646 (hz_649 j9))
  have hm_735 : q_68 ∈ hL S_685 := by rw [eS_686]; exact (mem_old hm_650)
  have hk_736 : Kd S_685 q_68 8 := by rw [eS_686]; exact (kd_nA (k := 19) (n := 4) hq_683 hm_650 hk_651)
  have hm_737 : q_682 ∈ hL S_685 := by rw [eS_686]; exact mem_new
  have hk_738 : Kd S_685 q_682 19 := by rw [eS_686]; exact (kd_nA' (k := 19) (n := 4))
  have hn_739 : Ln S_685 q_682 4 := by rw [eS_686]; exact (ln_nA' (k := 19))
  have hz_740 : ∀ j, aI S_685 q_682 j = 0 := by rw [eS_686]; exact (fun j9 => rd_nAI' (k := 19) (n := 4))
  have hm_741 : q_73 ∈ hL S_685 := by rw [eS_686]; exact (mem_old hm_652)
  have hk_742 : Kd S_685 q_73 14 := by rw [eS_686]; exact (kd_nA (k := 19) (n := 4) hq_683 hm_652 hk_653)
  have hn_743 : Ln S_685 q_73 16 := by rw [eS_686]; exact (ln_nA (k := 19) hq_683 hm_652 hn_654)
  have hz_744 : ∀ j, aI S_685 q_73 j = 0 := by rw [eS_686]; exact (fun j9 => rd_nAI (k := 19) (n := 4) hq_683 hm_652 (hz_655 j9))
  have hv_745 : hI S_685 1000 q_163 = 1 := by rw [eS_686]; exact hv_656
  have hv_746 : hI S_685 1001 q_163 = 1 := by rw [eS_686]; exact hv_657
  have hv_747 : hI S_685 2 q_1 = 0 := by rw [eS_686]; exact hv_658
  have hv_748 : hI S_685 206 q_26 = 0 := by rw [eS_686]; exact hv_659
  have hv_749 : hI S_685 209 q_26 = 0 := by rw [eS_686]; exact hv_660
  have hv_750 : hI S_685 3 q_1 = 0 := by rw [eS_686]; exact hv_661
  have hv_751 : hI S_685 4 q_1 = 0 := by rw [eS_686]; exact hv_662
  have hv_752 : hI S_685 5 q_1 = 0 := by rw [eS_686]; exact hv_663
  have hv_753 : hR S_685 0 q_1 = (some q_5) := by rw [eS_686]; exact (rd_sRf (S := (nA S_600 q_682 19 4)) (g := 912) (a := h) (v := (some q_682)) (by decide) hv_664)
  have hv_754 : hR S_685 1003 q_163 = (some q_167) := by rw [eS_686]; exact (rd_sRf (S := (nA S_600 q_682 19 4)) (g := 912) (a := h) (v := (some q_682)) (by decide) hv_665)
  have hv_755 : hR S_685 200 q_26 = (some q_31) := by rw [eS_686]; exact (rd_sRf (S := (nA S_600 q_682 19 4)) (g := 912) (a := h) (v := (some q_682)) (by decide) hv_666)
  have hv_756 : hR S_685 800 q_223 = (some q_228) := by rw [eS_686]; exact (rd_sRf (S := (nA S_600 q_682 19 4)) (g := 912) (a := h) (v := (some q_682)) (by decide) hv_667)
  have hv_757 : hR S_685 800 q_31 = (some q_32) := by rw [eS_686]; exact (rd_sRf (S := (nA S_600 q_682 19 4)) (g := 912) (a := h) (v := (some q_682)) (by decide) hv_668)
  have hv_758 : hR S_685 800 q_68 = (some q_73) := by rw [eS_686]; exact (rd_sRf (S := (nA S_600 q_682 19 4)) (g := 912) (a := h) (v := (some q_682)) (by decide) hv_669)
  have hv_759 : hR S_685 901 h = (some q_1) := by rw [eS_686]; exact (rd_sRf (S := (nA S_600 q_682 19 4)) (g := 912) (a := h) (v := (some q_682)) (by decide) hv_670)
  have hv_760 : hR S_685 902 h = (some q_26) := by rw [eS_686]; exact (rd_sRf (S := (nA S_600 q_682 19 4)) (g := 912) (a := h) (v := (some q_682)) (by decide) hv_671)
  have hv_761 : hR S_685 903 h = (some q_68) := by rw [eS_686]; exact (rd_sRf (S := (nA S_600 q_682 19 4)) (g := 912) (a := h) (v := (some q_682)) (by decide) hv_672)
  have hv_762 : hR S_685 904 h = (some q_115) := by rw [eS_686]; exact (rd_sRf (S := (nA S_600 q_682 19 4)) (g := 912) (a := h) (v := (some q_682)) (by decide) hv_673)
  have hv_763 : hR S_685 905 h = (some q_163) := by rw [eS_686]; exact (rd_sRf (S := (nA S_600 q_682 19 4)) (g := 912) (a := h) (v := (some q_682)) (by decide) hv_674)
  have hv_764 : hR S_685 906 h = (some q_223) := by rw [eS_686]; exact (rd_sRf (S := (nA S_600 q_682 19 4)) (g := 912) (a := h) (v := (some q_682)) (by decide) hv_675)
  have hv_765 : hR S_685 907 h = (some q_292) := by rw [eS_686]; exact (rd_sRf (S := (nA S_600 q_682 19 4)) (g := 912) (a := h) (v := (some q_682)) (by decide) hv_676)
  have hv_766 : hR S_685 908 h = (some q_362) := by rw [eS_686]; exact (rd_sRf (S := (nA S_600 q_682 19 4)) (g := 912) (a := h) (v := (some q_682)) (by decide) hv_677)
  have hv_767 : hR S_685 909 h = (some q_436) := by rw [eS_686]; exact (rd_sRf (S := (nA S_600 q_682 19 4)) (g := 912) (a := h) (v := (some q_682)) (by decide) hv_678)
  have hv_768 : hR S_685 910 h = (some q_514) := by rw [eS_686]; exact (rd_sRf (S := (nA S_600 q_682 19 4)) (g := 912) (a := h) (v := (some q_682)) (by decide) hv_679)
  have hv_769 : hR S_685 911 h = (some q_596) := by rw [eS_686]; exact (rd_sRf (S := (nA S_600 q_682 19 4)) (g := 912) (a := h) (v := (some q_682)) (by decide) hv_680)
  have hv_770 : hR S_685 912 h = (some q_682) := by rw [eS_686]; exact (rd_sR (S := (nA S_600 q_682 19 4)) (g := 912) (a := h) (v := (some q_682)))
  have hf_771 : Fm (fun _ _ => False) (fun f9 b9 => b9 = h) (fun _ => False) S S_685 := by rw [eS_686]; exact hf_687
  refine j_newI (N := 12) C ka_int (by decide) (by decide) (Nat.le_of_ble_eq_true rfl) (M.cells (by decide)) (M.slots (Nat.le_of_ble_eq_true rfl)) dX9_init_126 (fun q_772 hq_773 => ?_)
  have hz_774 : q_772 ∉ hL S := fun h9 => hq_773 (hf_771.mem h9)
  refine j_putrF (f := 917) C hm9 flX9_74o (by decide) rfl rfl dX9_init_128 (mem_old hm_688) (kd_nA (k := 14) (n := 12) hq_773 hm_688 hk_689) rfl ?_
  refine j_aload_n C dX9_init_131 rfl 0 rfl ?_
  refine j_aload_n C dX9_init_132 rfl 1 rfl ?_
  refine j_putrF (f := 900) C hm9 flX9_77o (by decide) rfl rfl dX9_init_133 (mem_old hm_688) (kd_nA (k := 14) (n := 12) hq_773 hm_688 hk_689) rfl ?_
  show J _ _ _ _ _ 136 _
  refine j_iconst (v := 0) C dX9_init_136 (by decide) ?_
  refine j_istore_n (lv' := [(2, .int 0), (0, .ref h), (1, .ref s0)]) C dX9_init_137 rfl (by rw [hn9]; decide) rfl ?_
  have hf_777 : Fm (fun _ _ => False) (fun f9 b9 => b9 = h) (fun _ => False) S (sR (sR (nA S_685 q_772 14 12) 917 h (some q_772)) 900 h (some s0)) := (((hf_771.nA _ _ hq_773).sR _ (fun _ => rfl)).sR _ (fun _ => rfl))
  obtain ⟨S_775, eS_776⟩ : ∃ S9 : Hp, S9 = (sR (sR (nA S_685 q_772 14 12) 917 h (some q_772)) 900 h (some s0)) := ⟨_, rfl⟩
  refine J.eq (S' := S_775) eS_776.symm rfl rfl ?_
  have hm_778 : h ∈ hL S_775 := by rw [eS_776]; exact (mem_old hm_688)
  have hk_779 : Kd S_775 h 9 := by rw [eS_776]; exact (kd_nA (k := 14) (n := 12) hq_773 hm_688 hk_689)
  have hm_780 : q_1 ∈ hL S_775 := by rw [eS_776]; exact (mem_old hm_690)
  have hk_781 : Kd S_775 q_1 0 := by rw [eS_776]; exact (kd_nA (k := 14) (n := 12) hq_773 hm_690 hk_691)
  have hm_782 : q_115 ∈ hL S_775 := by rw [eS_776]; exact (mem_old hm_692)
  have hk_783 : Kd S_775 q_115 20 := by rw [eS_776]; exact (kd_nA (k := 14) (n := 12) hq_773 hm_692 hk_693)
  have hn_784 : Ln S_775 q_115 16 := by rw [eS_776]; exact (ln_nA (k := 14) hq_773 hm_692 hn_694)
  have hz_785 : ∀ j, aI S_775 q_115 j = 0 := by rw [eS_776]; exact (fun j9 => rd_nAI (k := 14) (n := 12) hq_773 hm_692 (hz_695 j9))
  have hm_786 : q_163 ∈ hL S_775 := by rw [eS_776]; exact (mem_old hm_696)
  have hk_787 : Kd S_775 q_163 10 := by rw [eS_776]; exact (kd_nA (k := 14) (n := 12) hq_773 hm_696 hk_697)
  have hm_788 : q_167 ∈ hL S_775 := by rw [eS_776]; exact (mem_old hm_698)
  have hk_789 : Kd S_775 q_167 15 := by rw [eS_776]; exact (kd_nA (k := 14) (n := 12) hq_773 hm_698 hk_699)
  have hn_790 : Ln S_775 q_167 16 := by rw [eS_776]; exact (ln_nA (k := 14) hq_773 hm_698 hn_700)
  have hm_791 : q_223 ∈ hL S_775 := by rw [eS_776]; exact (mem_old hm_701)
  have hk_792 : Kd S_775 q_223 8 := by rw [eS_776]; exact (kd_nA (k := 14) (n := 12) hq_773 hm_701 hk_702)
  have hm_793 : q_228 ∈ hL S_775 := by rw [eS_776]; exact (mem_old hm_703)
  have hk_794 : Kd S_775 q_228 14 := by rw [eS_776]; exact (kd_nA (k := 14) (n := 12) hq_773 hm_703 hk_704)
  have hn_795 : Ln S_775 q_228 16 := by rw [eS_776]; exact (ln_nA (k := 14) hq_773 hm_703 hn_705)
  have hz_796 : ∀ j, aI S_775 q_228 j = 0 := by rw [eS_776]; exact (fun j9 => rd_nAI (k := 14) (n := 12) hq_773 hm_703 (hz_706 j9))
  have hm_797 : q_26 ∈ hL S_775 := by rw [eS_776]; exact (mem_old hm_707)
  have hk_798 : Kd S_775 q_26 2 := by rw [eS_776]; exact (kd_nA (k := 14) (n := 12) hq_773 hm_707 hk_708)
  have hm_799 : q_292 ∈ hL S_775 := by rw [eS_776]; exact (mem_old hm_709)
  have hk_800 : Kd S_775 q_292 13 := by rw [eS_776]; exact (kd_nA (k := 14) (n := 12) hq_773 hm_709 hk_710)
  have hn_801 : Ln S_775 q_292 24000 := by rw [eS_776]; exact (ln_nA (k := 14) hq_773 hm_709 hn_711)
  have hz_802 : ∀ j, aI S_775 q_292 j = 0 := by rw [eS_776]; exact (fun j9 => rd_nAI (k := 14) (n := 12) hq_773 hm_709 (hz_712 j9))
  have hm_803 : q_31 ∈ hL S_775 := by rw [eS_776]; exact (mem_old hm_713)
  have hk_804 : Kd S_775 q_31 8 := by rw [eS_776]; exact (kd_nA (k := 14) (n := 12) hq_773 hm_713 hk_714)
  have hm_805 : q_32 ∈ hL S_775 := by rw [eS_776]; exact (mem_old hm_715)
  have hk_806 : Kd S_775 q_32 14 := by rw [eS_776]; exact (kd_nA (k := 14) (n := 12) hq_773 hm_715 hk_716)
  have hn_807 : Ln S_775 q_32 16 := by rw [eS_776]; exact (ln_nA (k := 14) hq_773 hm_715 hn_717)
  have hz_808 : ∀ j, aI S_775 q_32 j = 0 := by rw [eS_776]; exact (fun j9 => rd_nAI (k := 14) (n := 12) hq_773 hm_715 (hz_718 j9))
  have hm_809 : q_362 ∈ hL S_775 := by rw [eS_776]; exact (mem_old hm_719)
  have hk_810 : Kd S_775 q_362 14 := by rw [eS_776]; exact (kd_nA (k := 14) (n := 12) hq_773 hm_719 hk_720)
  have hn_811 : Ln S_775 q_362 16 := by rw [eS_776]; exact (ln_nA (k := 14) hq_773 hm_719 hn_721)
  have hz_812 : ∀ j, aI S_775 q_362 j = 0 := by rw [eS_776]; exact (fun j9 => rd_nAI (k := 14) (n := 12) hq_773 hm_719 (hz_722 j9))
  have hm_813 : q_436 ∈ hL S_775 := by rw [eS_776]; exact (mem_old hm_723)
  have hk_814 : Kd S_775 q_436 1 := by rw [eS_776]; exact (kd_nA (k := 14) (n := 12) hq_773 hm_723 hk_724)
  have hm_815 : q_5 ∈ hL S_775 := by rw [eS_776]; exact (mem_old hm_725)
  have hk_816 : Kd S_775 q_5 14 := by rw [eS_776]; exact (kd_nA (k := 14) (n := 12) hq_773 hm_725 hk_726)
  have hn_817 : Ln S_775 q_5 20000 := by rw [eS_776]; exact (ln_nA (k := 14) hq_773 hm_725 hn_727)
  have hz_818 : ∀ j, aI S_775 q_5 j = 0 := by rw [eS_776]; exact (fun j9 => rd_nAI (k := 14) (n := 12) hq_773 hm_725 (hz_728 j9))
  have hm_819 : q_514 ∈ hL S_775 := by rw [eS_776]; exact (mem_old hm_729)
  have hk_820 : Kd S_775 q_514 1 := by rw [eS_776]; exact (kd_nA (k := 14) (n := 12) hq_773 hm_729 hk_730)
  have hm_821 : q_596 ∈ hL S_775 := by rw [eS_776]; exact (mem_old hm_731)
  have hk_822 : Kd S_775 q_596 18 := by rw [eS_776]; exact (kd_nA (k := 14) (n := 12) hq_773 hm_731 hk_732)
  have hn_823 : Ln S_775 q_596 3 := by rw [eS_776]; exact (ln_nA (k := 14) hq_773 hm_731 hn_733)
  have hz_824 : ∀ j, aI S_775 q_596 j = 0 := by rw [eS_776]; exact (fun j9 => rd_nAI (k := 14) (n := 12) hq_773 hm_731 (hz_734 j9))
  have hm_825 : q_68 ∈ hL S_775 := by rw [eS_776]; exact (mem_old hm_735)
  have hk_826 : Kd S_775 q_68 8 := by rw [eS_776]; exact (kd_nA (k := 14) (n := 12) hq_773 hm_735 hk_736)
  have hm_827 : q_682 ∈ hL S_775 := by rw [eS_776]; exact (mem_old hm_737)
  have hk_828 : Kd S_775 q_682 19 := by rw [eS_776]; exact (kd_nA (k := 14) (n := 12) hq_773 hm_737 hk_738)
  have hn_829 : Ln S_775 q_682 4 := by rw [eS_776]; exact (ln_nA (k := 14) hq_773 hm_737 hn_739)
  have hz_830 : ∀ j, aI S_775 q_682 j = 0 := by rw [eS_776]; exact (fun j9 => rd_nAI (k := 14) (n := 12) hq_773 hm_737 (hz_740 j9))
  have hm_831 : q_73 ∈ hL S_775 := by rw [eS_776]; exact (mem_old hm_741)
  have hk_832 : Kd S_775 q_73 14 := by rw [eS_776]; exact (kd_nA (k := 14) (n := 12) hq_773 hm_741 hk_742)
  have hn_833 : Ln S_775 q_73 16 := by rw [eS_776]; exact (ln_nA (k := 14) hq_773 hm_741 hn_743)
  have hz_834 : ∀ j, aI S_775 q_73 j = 0 := by rw [eS_776]; exact (fun j9 => rd_nAI (k := 14) (n := 12) hq_773 hm_741 (hz_744 j9))
  have hm_835 : q_772 ∈ hL S_775 := by rw [eS_776]; exact mem_new
  have hk_836 : Kd S_775 q_772 14 := by rw [eS_776]; exact (kd_nA' (k := 14) (n := 12))
  have hn_837 : Ln S_775 q_772 12 := by rw [eS_776]; exact (ln_nA' (k := 14))
  have hz_838 : ∀ j, aI S_775 q_772 j = 0 := by rw [eS_776]; exact (fun j9 => rd_nAI' (k := 14) (n := 12))
  have hv_839 : hI S_775 1000 q_163 = 1 := by rw [eS_776]; exact hv_745
  have hv_840 : hI S_775 1001 q_163 = 1 := by rw [eS_776]; exact hv_746
  have hv_841 : hI S_775 2 q_1 = 0 := by rw [eS_776]; exact hv_747
  have hv_842 : hI S_775 206 q_26 = 0 := by rw [eS_776]; exact hv_748
  have hv_843 : hI S_775 209 q_26 = 0 := by rw [eS_776]; exact hv_749
  have hv_844 : hI S_775 3 q_1 = 0 := by rw [eS_776]; exact hv_750
  have hv_845 : hI S_775 4 q_1 = 0 := by rw [eS_776]; exact hv_751
  have hv_846 : hI S_775 5 q_1 = 0 := by rw [eS_776]; exact hv_752
  have hv_847 : hR S_775 0 q_1 = (some q_5) := by rw [eS_776]; exact (rd_sRf (S := (sR (nA S_685 q_772 14 12) 917 h (some q_772))) (g := 900) (a := h) (v := (some s0)) (by decide) (rd_sRf (S := (nA S_685 q_772 14 12)) (g := 917) (a := h) (v := (some q_772)) (by decide) hv_753))
  have hv_848 : hR S_775 1003 q_163 = (some q_167) := by rw [eS_776]; exact (rd_sRf (S := (sR (nA S_685 q_772 14 12) 917 h (some q_772))) (g := 900) (a := h) (v := (some s0)) (by decide) (rd_sRf (S := (nA S_685 q_772 14 12)) (g := 917) (a := h) (v := (some q_772)) (by decide) hv_754))
  have hv_849 : hR S_775 200 q_26 = (some q_31) := by rw [eS_776]; exact (rd_sRf (S := (sR (nA S_685 q_772 14 12) 917 h (some q_772))) (g := 900) (a := h) (v := (some s0)) (by decide) (rd_sRf (S := (nA S_685 q_772 14 12)) (g := 917) (a := h) (v := (some q_772)) (by decide) hv_755))
  have hv_850 : hR S_775 800 q_223 = (some q_228) := by rw [eS_776]; exact (rd_sRf (S := (sR (nA S_685 q_772 14 12) 917 h (some q_772))) (g := 900) (a := h) (v := (some s0)) (by decide) (rd_sRf (S := (nA S_685 q_772 14 12)) (g := 917) (a := h) (v := (some q_772)) (by decide) hv_756))
  have hv_851 : hR S_775 800 q_31 = (some q_32) := by rw [eS_776]; exact (rd_sRf (S := (sR (nA S_685 q_772 14 12) 917 h (some q_772))) (g := 900) (a := h) (v := (some s0)) (by decide) (rd_sRf (S := (nA S_685 q_772 14 12)) (g := 917) (a := h) (v := (some q_772)) (by decide) hv_757))
  have hv_852 : hR S_775 800 q_68 = (some q_73) := by rw [eS_776]; exact (rd_sRf (S := (sR (nA S_685 q_772 14 12) 917 h (some q_772))) (g := 900) (a := h) (v := (some s0)) (by decide) (rd_sRf (S := (nA S_685 q_772 14 12)) (g := 917) (a := h) (v := (some q_772)) (by decide) hv_758))
  have hv_853 : hR S_775 900 h = (some s0) := by rw [eS_776]; exact (rd_sR (S := (sR (nA S_685 q_772 14 12) 917 h (some q_772))) (g := 900) (a := h) (v := (some s0)))
  have hv_854 : hR S_775 901 h = (some q_1) := by rw [eS_776]; exact (rd_sRf (S := (sR (nA S_685 q_772 14 12) 917 h (some q_772))) (g := 900) (a := h) (v := (some s0)) (by decide) (rd_sRf (S := (nA S_685 q_772 14 12)) (g := 917) (a := h) (v := (some q_772)) (by decide) hv_759))
  have hv_855 : hR S_775 902 h = (some q_26) := by rw [eS_776]; exact (rd_sRf (S := (sR (nA S_685 q_772 14 12) 917 h (some q_772))) (g := 900) (a := h) (v := (some s0)) (by decide) (rd_sRf (S := (nA S_685 q_772 14 12)) (g := 917) (a := h) (v := (some q_772)) (by decide) hv_760))
  have hv_856 : hR S_775 903 h = (some q_68) := by rw [eS_776]; exact (rd_sRf (S := (sR (nA S_685 q_772 14 12) 917 h (some q_772))) (g := 900) (a := h) (v := (some s0)) (by decide) (rd_sRf (S := (nA S_685 q_772 14 12)) (g := 917) (a := h) (v := (some q_772)) (by decide) hv_761))
  have hv_857 : hR S_775 904 h = (some q_115) := by rw [eS_776]; exact (rd_sRf (S := (sR (nA S_685 q_772 14 12) 917 h (some q_772))) (g := 900) (a := h) (v := (some s0)) (by decide) (rd_sRf (S := (nA S_685 q_772 14 12)) (g := 917) (a := h) (v := (some q_772)) (by decide) hv_762))
  have hv_858 : hR S_775 905 h = (some q_163) := by rw [eS_776]; exact (rd_sRf (S := (sR (nA S_685 q_772 14 12) 917 h (some q_772))) (g := 900) (a := h) (v := (some s0)) (by decide) (rd_sRf (S := (nA S_685 q_772 14 12)) (g := 917) (a := h) (v := (some q_772)) (by decide) hv_763))
  have hv_859 : hR S_775 906 h = (some q_223) := by rw [eS_776]; exact (rd_sRf (S := (sR (nA S_685 q_772 14 12) 917 h (some q_772))) (g := 900) (a := h) (v := (some s0)) (by decide) (rd_sRf (S := (nA S_685 q_772 14 12)) (g := 917) (a := h) (v := (some q_772)) (by decide) hv_764))
  have hv_860 : hR S_775 907 h = (some q_292) := by rw [eS_776]; exact (rd_sRf (S := (sR (nA S_685 q_772 14 12) 917 h (some q_772))) (g := 900) (a := h) (v := (some s0)) (by decide) (rd_sRf (S := (nA S_685 q_772 14 12)) (g := 917) (a := h) (v := (some q_772)) (by decide) hv_765))
  have hv_861 : hR S_775 908 h = (some q_362) := by rw [eS_776]; exact (rd_sRf (S := (sR (nA S_685 q_772 14 12) 917 h (some q_772))) (g := 900) (a := h) (v := (some s0)) (by decide) (rd_sRf (S := (nA S_685 q_772 14 12)) (g := 917) (a := h) (v := (some q_772)) (by decide) hv_766))
  have hv_862 : hR S_775 909 h = (some q_436) := by rw [eS_776]; exact (rd_sRf (S := (sR (nA S_685 q_772 14 12) 917 h (some q_772))) (g := 900) (a := h) (v := (some s0)) (by decide) (rd_sRf (S := (nA S_685 q_772 14 12)) (g := 917) (a := h) (v := (some q_772)) (by decide) hv_767))
  have hv_863 : hR S_775 910 h = (some q_514) := by rw [eS_776]; exact (rd_sRf (S := (sR (nA S_685 q_772 14 12) 917 h (some q_772))) (g := 900) (a := h) (v := (some s0)) (by decide) (rd_sRf (S := (nA S_685 q_772 14 12)) (g := 917) (a := h) (v := (some q_772)) (by decide) hv_768))
  have hv_864 : hR S_775 911 h = (some q_596) := by rw [eS_776]; exact (rd_sRf (S := (sR (nA S_685 q_772 14 12) 917 h (some q_772))) (g := 900) (a := h) (v := (some s0)) (by decide) (rd_sRf (S := (nA S_685 q_772 14 12)) (g := 917) (a := h) (v := (some q_772)) (by decide) hv_769))
  have hv_865 : hR S_775 912 h = (some q_682) := by rw [eS_776]; exact (rd_sRf (S := (sR (nA S_685 q_772 14 12) 917 h (some q_772))) (g := 900) (a := h) (v := (some s0)) (by decide) (rd_sRf (S := (nA S_685 q_772 14 12)) (g := 917) (a := h) (v := (some q_772)) (by decide) hv_770))
  have hv_866 : hR S_775 917 h = (some q_772) := by rw [eS_776]; exact (rd_sRf (S := (sR (nA S_685 q_772 14 12) 917 h (some q_772))) (g := 900) (a := h) (v := (some s0)) (by decide) (rd_sR (S := (nA S_685 q_772 14 12)) (g := 917) (a := h) (v := (some q_772))))
  have hf_867 : Fm (fun _ _ => False) (fun f9 b9 => b9 = h) (fun _ => False) S S_775 := by rw [eS_776]; exact hf_777
  have loop_872 : ∀ (m9 i1 : Nat) (S_869 : Hp), i1 + m9 = 16 → Fm (fun _ _ => False) (fun _ _ => False) (fun b9 => b9 = q_115) S_775 S_869 → J x (0 + 1 + 4 + 1 + 8 + 1 + 1 + 1 + 1 + 1 + 1 + 1 + 1 + 1 + 1 + 8 + 1 + 8 + 1 + 1 + 1 + 2 * i1) (0 + 15 + 20045 + 10 + 23174 + 1 + 16 + 16 + 4 + 16 + 1 + 16 + 24000 + 16 + 21 + 117 + 21 + 117 + 3 + 4 + 12 + 20 * i1) S_869 [(2, .int (nI i1)), (0, .ref h), (1, .ref s0)] 138 [] := by
    intro m9
    induction m9 with
    | zero =>
      intro i1 S_869  hi_873 hl_870 
      have hz_874 : ∀ j, aI S_869 q_228 j = 0 := fun j9 => (hl_870.ai hm_793 (fun q9 => (fun e9 => absurd ((hk_794).symm.trans ((congrArg (hK _) e9).trans hk_783)) (by decide)) q9) j9).trans (hz_796 j9)
      have hz_875 : ∀ j, aI S_869 q_292 j = 0 := fun j9 => (hl_870.ai hm_799 (fun q9 => (fun e9 => absurd ((hk_800).symm.trans ((congrArg (hK _) e9).trans hk_783)) (by decide)) q9) j9).trans (hz_802 j9)
      have hz_876 : ∀ j, aI S_869 q_32 j = 0 := fun j9 => (hl_870.ai hm_805 (fun q9 => (fun e9 => absurd ((hk_806).symm.trans ((congrArg (hK _) e9).trans hk_783)) (by decide)) q9) j9).trans (hz_808 j9)
      have hz_877 : ∀ j, aI S_869 q_362 j = 0 := fun j9 => (hl_870.ai hm_809 (fun q9 => (fun e9 => absurd ((hk_810).symm.trans ((congrArg (hK _) e9).trans hk_783)) (by decide)) q9) j9).trans (hz_812 j9)
      have hz_878 : ∀ j, aI S_869 q_5 j = 0 := fun j9 => (hl_870.ai hm_815 (fun q9 => (fun e9 => absurd ((hk_816).symm.trans ((congrArg (hK _) e9).trans hk_783)) (by decide)) q9) j9).trans (hz_818 j9)
      have hz_879 : ∀ j, aI S_869 q_596 j = 0 := fun j9 => (hl_870.ai hm_821 (fun q9 => (fun e9 => absurd ((hk_822).symm.trans ((congrArg (hK _) e9).trans hk_783)) (by decide)) q9) j9).trans (hz_824 j9)
      have hz_880 : ∀ j, aI S_869 q_682 j = 0 := fun j9 => (hl_870.ai hm_827 (fun q9 => (fun e9 => absurd ((hk_828).symm.trans ((congrArg (hK _) e9).trans hk_783)) (by decide)) q9) j9).trans (hz_830 j9)
      have hz_881 : ∀ j, aI S_869 q_73 j = 0 := fun j9 => (hl_870.ai hm_831 (fun q9 => (fun e9 => absurd ((hk_832).symm.trans ((congrArg (hK _) e9).trans hk_783)) (by decide)) q9) j9).trans (hz_834 j9)
      have hz_882 : ∀ j, aI S_869 q_772 j = 0 := fun j9 => (hl_870.ai hm_835 (fun q9 => (fun e9 => absurd ((hk_836).symm.trans ((congrArg (hK _) e9).trans hk_783)) (by decide)) q9) j9).trans (hz_838 j9)
      have hm_883 : h ∈ hL S_869 := hl_870.mem hm_778
      have hk_884 : Kd S_869 h 9 := hl_870.kd hm_778 hk_779
      have hm_885 : q_1 ∈ hL S_869 := hl_870.mem hm_780
      have hk_886 : Kd S_869 q_1 0 := hl_870.kd hm_780 hk_781
      have hm_887 : q_115 ∈ hL S_869 := hl_870.mem hm_782
      have hk_888 : Kd S_869 q_115 20 := hl_870.kd hm_782 hk_783
      have hn_889 : Ln S_869 q_115 16 := hl_870.ln hm_782 hn_784
      have hm_890 : q_163 ∈ hL S_869 := hl_870.mem hm_786
      have hk_891 : Kd S_869 q_163 10 := hl_870.kd hm_786 hk_787
      have hm_892 : q_167 ∈ hL S_869 := hl_870.mem hm_788
      have hk_893 : Kd S_869 q_167 15 := hl_870.kd hm_788 hk_789
      have hn_894 : Ln S_869 q_167 16 := hl_870.ln hm_788 hn_790
      have hm_895 : q_223 ∈ hL S_869 := hl_870.mem hm_791
      have hk_896 : Kd S_869 q_223 8 := hl_870.kd hm_791 hk_792
      have hm_897 : q_228 ∈ hL S_869 := hl_870.mem hm_793
      have hk_898 : Kd S_869 q_228 14 := hl_870.kd hm_793 hk_794
      have hn_899 : Ln S_869 q_228 16 := hl_870.ln hm_793 hn_795
      have hm_900 : q_26 ∈ hL S_869 := hl_870.mem hm_797
      have hk_901 : Kd S_869 q_26 2 := hl_870.kd hm_797 hk_798
      have hm_902 : q_292 ∈ hL S_869 := hl_870.mem hm_799
      have hk_903 : Kd S_869 q_292 13 := hl_870.kd hm_799 hk_800
      have hn_904 : Ln S_869 q_292 24000 := hl_870.ln hm_799 hn_801
      have hm_905 : q_31 ∈ hL S_869 := hl_870.mem hm_803
      have hk_906 : Kd S_869 q_31 8 := hl_870.kd hm_803 hk_804
      have hm_907 : q_32 ∈ hL S_869 := hl_870.mem hm_805
      have hk_908 : Kd S_869 q_32 14 := hl_870.kd hm_805 hk_806
      have hn_909 : Ln S_869 q_32 16 := hl_870.ln hm_805 hn_807
      have hm_910 : q_362 ∈ hL S_869 := hl_870.mem hm_809
      have hk_911 : Kd S_869 q_362 14 := hl_870.kd hm_809 hk_810
      have hn_912 : Ln S_869 q_362 16 := hl_870.ln hm_809 hn_811
      have hm_913 : q_436 ∈ hL S_869 := hl_870.mem hm_813
      have hk_914 : Kd S_869 q_436 1 := hl_870.kd hm_813 hk_814
      have hm_915 : q_5 ∈ hL S_869 := hl_870.mem hm_815
      have hk_916 : Kd S_869 q_5 14 := hl_870.kd hm_815 hk_816
      have hn_917 : Ln S_869 q_5 20000 := hl_870.ln hm_815 hn_817
      have hm_918 : q_514 ∈ hL S_869 := hl_870.mem hm_819
      have hk_919 : Kd S_869 q_514 1 := hl_870.kd hm_819 hk_820
      have hm_920 : q_596 ∈ hL S_869 := hl_870.mem hm_821
      have hk_921 : Kd S_869 q_596 18 := hl_870.kd hm_821 hk_822
      have hn_922 : Ln S_869 q_596 3 := hl_870.ln hm_821 hn_823
      have hm_923 : q_68 ∈ hL S_869 := hl_870.mem hm_825
      have hk_924 : Kd S_869 q_68 8 := hl_870.kd hm_825 hk_826
      have hm_925 : q_682 ∈ hL S_869 := hl_870.mem hm_827
      have hk_926 : Kd S_869 q_682 19 := hl_870.kd hm_827 hk_828
      have hn_927 : Ln S_869 q_682 4 := hl_870.ln hm_827 hn_829
      have hm_928 : q_73 ∈ hL S_869 := hl_870.mem hm_831
      have hk_929 : Kd S_869 q_73 14 := hl_870.kd hm_831 hk_832
      have hn_930 : Ln S_869 q_73 16 := hl_870.ln hm_831 hn_833
      have hm_931 : q_772 ∈ hL S_869 := hl_870.mem hm_835
      have hk_932 : Kd S_869 q_772 14 := hl_870.kd hm_835 hk_836
      have hn_933 : Ln S_869 q_772 12 := hl_870.ln hm_835 hn_837
      have hv_934 : hI S_869 1000 q_163 = 1 := hl_870.fi hm_786 (fun h9 => h9) hv_839
      have hv_935 : hI S_869 1001 q_163 = 1 := hl_870.fi hm_786 (fun h9 => h9) hv_840
      have hv_936 : hI S_869 2 q_1 = 0 := hl_870.fi hm_780 (fun h9 => h9) hv_841
      have hv_937 : hI S_869 206 q_26 = 0 := hl_870.fi hm_797 (fun h9 => h9) hv_842
      have hv_938 : hI S_869 209 q_26 = 0 := hl_870.fi hm_797 (fun h9 => h9) hv_843
      have hv_939 : hI S_869 3 q_1 = 0 := hl_870.fi hm_780 (fun h9 => h9) hv_844
      have hv_940 : hI S_869 4 q_1 = 0 := hl_870.fi hm_780 (fun h9 => h9) hv_845
      have hv_941 : hI S_869 5 q_1 = 0 := hl_870.fi hm_780 (fun h9 => h9) hv_846
      have hv_942 : hR S_869 0 q_1 = (some q_5) := hl_870.fr hm_780 (fun h9 => h9) hv_847
      have hv_943 : hR S_869 1003 q_163 = (some q_167) := hl_870.fr hm_786 (fun h9 => h9) hv_848
      have hv_944 : hR S_869 200 q_26 = (some q_31) := hl_870.fr hm_797 (fun h9 => h9) hv_849
      have hv_945 : hR S_869 800 q_223 = (some q_228) := hl_870.fr hm_791 (fun h9 => h9) hv_850
      have hv_946 : hR S_869 800 q_31 = (some q_32) := hl_870.fr hm_803 (fun h9 => h9) hv_851
      have hv_947 : hR S_869 800 q_68 = (some q_73) := hl_870.fr hm_825 (fun h9 => h9) hv_852
      have hv_948 : hR S_869 900 h = (some s0) := hl_870.fr hm_778 (fun h9 => h9) hv_853
      have hv_949 : hR S_869 901 h = (some q_1) := hl_870.fr hm_778 (fun h9 => h9) hv_854
      have hv_950 : hR S_869 902 h = (some q_26) := hl_870.fr hm_778 (fun h9 => h9) hv_855
      have hv_951 : hR S_869 903 h = (some q_68) := hl_870.fr hm_778 (fun h9 => h9) hv_856
      have hv_952 : hR S_869 904 h = (some q_115) := hl_870.fr hm_778 (fun h9 => h9) hv_857
      have hv_953 : hR S_869 905 h = (some q_163) := hl_870.fr hm_778 (fun h9 => h9) hv_858
      have hv_954 : hR S_869 906 h = (some q_223) := hl_870.fr hm_778 (fun h9 => h9) hv_859
      have hv_955 : hR S_869 907 h = (some q_292) := hl_870.fr hm_778 (fun h9 => h9) hv_860
      have hv_956 : hR S_869 908 h = (some q_362) := hl_870.fr hm_778 (fun h9 => h9) hv_861
      have hv_957 : hR S_869 909 h = (some q_436) := hl_870.fr hm_778 (fun h9 => h9) hv_862
      have hv_958 : hR S_869 910 h = (some q_514) := hl_870.fr hm_778 (fun h9 => h9) hv_863
      have hv_959 : hR S_869 911 h = (some q_596) := hl_870.fr hm_778 (fun h9 => h9) hv_864
      have hv_960 : hR S_869 912 h = (some q_682) := hl_870.fr hm_778 (fun h9 => h9) hv_865
      have hv_961 : hR S_869 917 h = (some q_772) := hl_870.fr hm_778 (fun h9 => h9) hv_866
      have hf_962 : Fm (fun _ _ => False) (fun f9 b9 => b9 = h) (fun _ => False) S S_869 := hf_867.then hl_870 (fun a9 ha9 => ⟨(fun f9 h9 => h9.elim), (fun f9 h9 => h9.elim), (fun h9 => (fun h8 => absurd (h8 ▸ ha9) hz_118) h9)⟩)
      refine j_iload_n C dX9_init_138 rfl 0 rfl ?_
      refine j_aload_n C dX9_init_139 rfl 1 rfl ?_
      refine j_getr (f := 904) (v := q_115) C flX9_34 dX9_init_140 hm_883 hk_884 (by decide) rfl hv_952 ?_
      refine j_alen (v := 16) C dX9_init_143 hm_887 hk_888 (by decide) (by decide) (len_of (n := 16) hn_889 (by decide)) ?_
      refine j_ic_ge (tgt := 166) C dX9_init_144 (by decide) (fun c_144 => ?_) (fun c_144 => absurd (nI_le (a := 16) (by omega) (by omega)) c_144)
      refine j_iconst (v := 0) C dX9_init_166 (by decide) ?_
      refine j_istore_n (lv' := [(2, .int 0), (0, .ref h), (1, .ref s0)]) C dX9_init_167 rfl (by rw [hn9]; decide) rfl ?_
      show J _ _ _ _ _ 168 _
      have loop_967 : ∀ (m9 i2 : Nat) (S_964 : Hp), i2 + m9 = 3 → Fm (fun _ _ => False) (fun _ _ => False) (fun b9 => b9 = q_596) S_869 S_964 → J x ((0 + 1 + 4 + 1 + 8 + 1 + 1 + 1 + 1 + 1 + 1 + 1 + 1 + 1 + 1 + 8 + 1 + 8 + 1 + 1 + 1 + 2 * i1) + 9 * i2) ((0 + 15 + 20045 + 10 + 23174 + 1 + 16 + 16 + 4 + 16 + 1 + 16 + 24000 + 16 + 21 + 117 + 21 + 117 + 3 + 4 + 12 + 20 * i1) + 138 * i2) S_964 [(2, .int (nI i2)), (0, .ref h), (1, .ref s0)] 168 [] := by
        intro m9
        induction m9 with
        | zero =>
          intro i2 S_964  hi_968 hl_965 
          have hz_969 : ∀ j, aI S_964 q_228 j = 0 := fun j9 => (hl_965.ai hm_897 (fun q9 => (fun e9 => absurd ((hk_898).symm.trans ((congrArg (hK _) e9).trans hk_921)) (by decide)) q9) j9).trans (hz_874 j9)
          have hz_970 : ∀ j, aI S_964 q_292 j = 0 := fun j9 => (hl_965.ai hm_902 (fun q9 => (fun e9 => absurd ((hk_903).symm.trans ((congrArg (hK _) e9).trans hk_921)) (by decide)) q9) j9).trans (hz_875 j9)
          have hz_971 : ∀ j, aI S_964 q_32 j = 0 := fun j9 => (hl_965.ai hm_907 (fun q9 => (fun e9 => absurd ((hk_908).symm.trans ((congrArg (hK _) e9).trans hk_921)) (by decide)) q9) j9).trans (hz_876 j9)
          have hz_972 : ∀ j, aI S_964 q_362 j = 0 := fun j9 => (hl_965.ai hm_910 (fun q9 => (fun e9 => absurd ((hk_911).symm.trans ((congrArg (hK _) e9).trans hk_921)) (by decide)) q9) j9).trans (hz_877 j9)
          have hz_973 : ∀ j, aI S_964 q_5 j = 0 := fun j9 => (hl_965.ai hm_915 (fun q9 => (fun e9 => absurd ((hk_916).symm.trans ((congrArg (hK _) e9).trans hk_921)) (by decide)) q9) j9).trans (hz_878 j9)
          have hz_974 : ∀ j, aI S_964 q_682 j = 0 := fun j9 => (hl_965.ai hm_925 (fun q9 => (fun e9 => absurd ((hk_926).symm.trans ((congrArg (hK _) e9).trans hk_921)) (by decide)) q9) j9).trans (hz_880 j9)
          have hz_975 : ∀ j, aI S_964 q_73 j = 0 := fun j9 => (hl_965.ai hm_928 (fun q9 => (fun e9 => absurd ((hk_929).symm.trans ((congrArg (hK _) e9).trans hk_921)) (by decide)) q9) j9).trans (hz_881 j9)
          have hz_976 : ∀ j, aI S_964 q_772 j = 0 := fun j9 => (hl_965.ai hm_931 (fun q9 => (fun e9 => absurd ((hk_932).symm.trans ((congrArg (hK _) e9).trans hk_921)) (by decide)) q9) j9).trans (hz_882 j9)
          have hm_977 : h ∈ hL S_964 := hl_965.mem hm_883
          have hk_978 : Kd S_964 h 9 := hl_965.kd hm_883 hk_884
          have hm_979 : q_1 ∈ hL S_964 := hl_965.mem hm_885
          have hk_980 : Kd S_964 q_1 0 := hl_965.kd hm_885 hk_886
          have hm_981 : q_115 ∈ hL S_964 := hl_965.mem hm_887
          have hk_982 : Kd S_964 q_115 20 := hl_965.kd hm_887 hk_888
          have hn_983 : Ln S_964 q_115 16 := hl_965.ln hm_887 hn_889
          have hm_984 : q_163 ∈ hL S_964 := hl_965.mem hm_890
          have hk_985 : Kd S_964 q_163 10 := hl_965.kd hm_890 hk_891
          have hm_986 : q_167 ∈ hL S_964 := hl_965.mem hm_892
          have hk_987 : Kd S_964 q_167 15 := hl_965.kd hm_892 hk_893
          have hn_988 : Ln S_964 q_167 16 := hl_965.ln hm_892 hn_894
          have hm_989 : q_223 ∈ hL S_964 := hl_965.mem hm_895
          have hk_990 : Kd S_964 q_223 8 := hl_965.kd hm_895 hk_896
          have hm_991 : q_228 ∈ hL S_964 := hl_965.mem hm_897
          have hk_992 : Kd S_964 q_228 14 := hl_965.kd hm_897 hk_898
          have hn_993 : Ln S_964 q_228 16 := hl_965.ln hm_897 hn_899
          have hm_994 : q_26 ∈ hL S_964 := hl_965.mem hm_900
          have hk_995 : Kd S_964 q_26 2 := hl_965.kd hm_900 hk_901
          have hm_996 : q_292 ∈ hL S_964 := hl_965.mem hm_902
          have hk_997 : Kd S_964 q_292 13 := hl_965.kd hm_902 hk_903
          have hn_998 : Ln S_964 q_292 24000 := hl_965.ln hm_902 hn_904
          have hm_999 : q_31 ∈ hL S_964 := hl_965.mem hm_905
          have hk_1000 : Kd S_964 q_31 8 := hl_965.kd hm_905 hk_906
          have hm_1001 : q_32 ∈ hL S_964 := hl_965.mem hm_907
          have hk_1002 : Kd S_964 q_32 14 := hl_965.kd hm_907 hk_908
          have hn_1003 : Ln S_964 q_32 16 := hl_965.ln hm_907 hn_909
          have hm_1004 : q_362 ∈ hL S_964 := hl_965.mem hm_910
          have hk_1005 : Kd S_964 q_362 14 := hl_965.kd hm_910 hk_911
          have hn_1006 : Ln S_964 q_362 16 := hl_965.ln hm_910 hn_912
          have hm_1007 : q_436 ∈ hL S_964 := hl_965.mem hm_913
          have hk_1008 : Kd S_964 q_436 1 := hl_965.kd hm_913 hk_914
          have hm_1009 : q_5 ∈ hL S_964 := hl_965.mem hm_915
          have hk_1010 : Kd S_964 q_5 14 := hl_965.kd hm_915 hk_916
          have hn_1011 : Ln S_964 q_5 20000 := hl_965.ln hm_915 hn_917
          have hm_1012 : q_514 ∈ hL S_964 := hl_965.mem hm_918
          have hk_1013 : Kd S_964 q_514 1 := hl_965.kd hm_918 hk_919
          have hm_1014 : q_596 ∈ hL S_964 := hl_965.mem hm_920
          have hk_1015 : Kd S_964 q_596 18 := hl_965.kd hm_920 hk_921
          have hn_1016 : Ln S_964 q_596 3 := hl_965.ln hm_920 hn_922
          have hm_1017 : q_68 ∈ hL S_964 := hl_965.mem hm_923
          have hk_1018 : Kd S_964 q_68 8 := hl_965.kd hm_923 hk_924
          have hm_1019 : q_682 ∈ hL S_964 := hl_965.mem hm_925
          have hk_1020 : Kd S_964 q_682 19 := hl_965.kd hm_925 hk_926
          have hn_1021 : Ln S_964 q_682 4 := hl_965.ln hm_925 hn_927
          have hm_1022 : q_73 ∈ hL S_964 := hl_965.mem hm_928
          have hk_1023 : Kd S_964 q_73 14 := hl_965.kd hm_928 hk_929
          have hn_1024 : Ln S_964 q_73 16 := hl_965.ln hm_928 hn_930
          have hm_1025 : q_772 ∈ hL S_964 := hl_965.mem hm_931
          have hk_1026 : Kd S_964 q_772 14 := hl_965.kd hm_931 hk_932
          have hn_1027 : Ln S_964 q_772 12 := hl_965.ln hm_931 hn_933
          have hv_1028 : hI S_964 1000 q_163 = 1 := hl_965.fi hm_890 (fun h9 => h9) hv_934
          have hv_1029 : hI S_964 1001 q_163 = 1 := hl_965.fi hm_890 (fun h9 => h9) hv_935
          have hv_1030 : hI S_964 2 q_1 = 0 := hl_965.fi hm_885 (fun h9 => h9) hv_936
          have hv_1031 : hI S_964 206 q_26 = 0 := hl_965.fi hm_900 (fun h9 => h9) hv_937
          have hv_1032 : hI S_964 209 q_26 = 0 := hl_965.fi hm_900 (fun h9 => h9) hv_938
          have hv_1033 : hI S_964 3 q_1 = 0 := hl_965.fi hm_885 (fun h9 => h9) hv_939
          have hv_1034 : hI S_964 4 q_1 = 0 := hl_965.fi hm_885 (fun h9 => h9) hv_940
          have hv_1035 : hI S_964 5 q_1 = 0 := hl_965.fi hm_885 (fun h9 => h9) hv_941
          have hv_1036 : hR S_964 0 q_1 = (some q_5) := hl_965.fr hm_885 (fun h9 => h9) hv_942
          have hv_1037 : hR S_964 1003 q_163 = (some q_167) := hl_965.fr hm_890 (fun h9 => h9) hv_943
          have hv_1038 : hR S_964 200 q_26 = (some q_31) := hl_965.fr hm_900 (fun h9 => h9) hv_944
          have hv_1039 : hR S_964 800 q_223 = (some q_228) := hl_965.fr hm_895 (fun h9 => h9) hv_945
          have hv_1040 : hR S_964 800 q_31 = (some q_32) := hl_965.fr hm_905 (fun h9 => h9) hv_946
          have hv_1041 : hR S_964 800 q_68 = (some q_73) := hl_965.fr hm_923 (fun h9 => h9) hv_947
          have hv_1042 : hR S_964 900 h = (some s0) := hl_965.fr hm_883 (fun h9 => h9) hv_948
          have hv_1043 : hR S_964 901 h = (some q_1) := hl_965.fr hm_883 (fun h9 => h9) hv_949
          have hv_1044 : hR S_964 902 h = (some q_26) := hl_965.fr hm_883 (fun h9 => h9) hv_950
          have hv_1045 : hR S_964 903 h = (some q_68) := hl_965.fr hm_883 (fun h9 => h9) hv_951
          have hv_1046 : hR S_964 904 h = (some q_115) := hl_965.fr hm_883 (fun h9 => h9) hv_952
          have hv_1047 : hR S_964 905 h = (some q_163) := hl_965.fr hm_883 (fun h9 => h9) hv_953
          have hv_1048 : hR S_964 906 h = (some q_223) := hl_965.fr hm_883 (fun h9 => h9) hv_954
          have hv_1049 : hR S_964 907 h = (some q_292) := hl_965.fr hm_883 (fun h9 => h9) hv_955
          have hv_1050 : hR S_964 908 h = (some q_362) := hl_965.fr hm_883 (fun h9 => h9) hv_956
          have hv_1051 : hR S_964 909 h = (some q_436) := hl_965.fr hm_883 (fun h9 => h9) hv_957
          have hv_1052 : hR S_964 910 h = (some q_514) := hl_965.fr hm_883 (fun h9 => h9) hv_958
          have hv_1053 : hR S_964 911 h = (some q_596) := hl_965.fr hm_883 (fun h9 => h9) hv_959
          have hv_1054 : hR S_964 912 h = (some q_682) := hl_965.fr hm_883 (fun h9 => h9) hv_960
          have hv_1055 : hR S_964 917 h = (some q_772) := hl_965.fr hm_883 (fun h9 => h9) hv_961
          have hf_1056 : Fm (fun _ _ => False) (fun f9 b9 => b9 = h) (fun _ => False) S S_964 := hf_962.then hl_965 (fun a9 ha9 => ⟨(fun f9 h9 => h9.elim), (fun f9 h9 => h9.elim), (fun h9 => (fun h8 => absurd (h8 ▸ ha9) hz_599) h9)⟩)
          refine j_iload_n C dX9_init_168 rfl 0 rfl ?_
          refine j_aload_n C dX9_init_169 rfl 1 rfl ?_
          refine j_getr (f := 911) (v := q_596) C flX9_64 dX9_init_170 hm_977 hk_978 (by decide) rfl hv_1053 ?_
          refine j_alen (v := 3) C dX9_init_173 hm_1014 hk_1015 (by decide) (by decide) (len_of (n := 3) hn_1016 (by decide)) ?_
          refine j_ic_ge (tgt := 196) C dX9_init_174 (by decide) (fun c_174 => ?_) (fun c_174 => absurd (nI_le (a := 3) (by omega) (by omega)) c_174)
          refine j_iconst (v := 0) C dX9_init_196 (by decide) ?_
          refine j_istore_n (lv' := [(2, .int 0), (0, .ref h), (1, .ref s0)]) C dX9_init_197 rfl (by rw [hn9]; decide) rfl ?_
          have loop_1061 : ∀ (m9 i3 : Nat) (S_1058 : Hp), i3 + m9 = 4 → Fm (fun _ _ => False) (fun _ _ => False) (fun b9 => b9 = q_682) S_964 S_1058 → J x (((0 + 1 + 4 + 1 + 8 + 1 + 1 + 1 + 1 + 1 + 1 + 1 + 1 + 1 + 1 + 8 + 1 + 8 + 1 + 1 + 1 + 2 * i1) + 9 * i2) + 2 * i3) (((0 + 15 + 20045 + 10 + 23174 + 1 + 16 + 16 + 4 + 16 + 1 + 16 + 24000 + 16 + 21 + 117 + 21 + 117 + 3 + 4 + 12 + 20 * i1) + 138 * i2) + 13 * i3) S_1058 [(2, .int (nI i3)), (0, .ref h), (1, .ref s0)] 198 [] := by
            intro m9
            induction m9 with
            | zero =>
              intro i3 S_1058  hi_1062 hl_1059 
              have hz_1063 : ∀ j, aI S_1058 q_228 j = 0 := fun j9 => (hl_1059.ai hm_991 (fun q9 => (fun e9 => absurd ((hk_992).symm.trans ((congrArg (hK _) e9).trans hk_1020)) (by decide)) q9) j9).trans (hz_969 j9)
              have hz_1064 : ∀ j, aI S_1058 q_292 j = 0 := fun j9 => (hl_1059.ai hm_996 (fun q9 => (fun e9 => absurd ((hk_997).symm.trans ((congrArg (hK _) e9).trans hk_1020)) (by decide)) q9) j9).trans (hz_970 j9)
              have hz_1065 : ∀ j, aI S_1058 q_32 j = 0 := fun j9 => (hl_1059.ai hm_1001 (fun q9 => (fun e9 => absurd ((hk_1002).symm.trans ((congrArg (hK _) e9).trans hk_1020)) (by decide)) q9) j9).trans (hz_971 j9)
              have hz_1066 : ∀ j, aI S_1058 q_362 j = 0 := fun j9 => (hl_1059.ai hm_1004 (fun q9 => (fun e9 => absurd ((hk_1005).symm.trans ((congrArg (hK _) e9).trans hk_1020)) (by decide)) q9) j9).trans (hz_972 j9)
              have hz_1067 : ∀ j, aI S_1058 q_5 j = 0 := fun j9 => (hl_1059.ai hm_1009 (fun q9 => (fun e9 => absurd ((hk_1010).symm.trans ((congrArg (hK _) e9).trans hk_1020)) (by decide)) q9) j9).trans (hz_973 j9)
              have hz_1068 : ∀ j, aI S_1058 q_73 j = 0 := fun j9 => (hl_1059.ai hm_1022 (fun q9 => (fun e9 => absurd ((hk_1023).symm.trans ((congrArg (hK _) e9).trans hk_1020)) (by decide)) q9) j9).trans (hz_975 j9)
              have hz_1069 : ∀ j, aI S_1058 q_772 j = 0 := fun j9 => (hl_1059.ai hm_1025 (fun q9 => (fun e9 => absurd ((hk_1026).symm.trans ((congrArg (hK _) e9).trans hk_1020)) (by decide)) q9) j9).trans (hz_976 j9)
              have hm_1070 : h ∈ hL S_1058 := hl_1059.mem hm_977
              have hk_1071 : Kd S_1058 h 9 := hl_1059.kd hm_977 hk_978
              have hm_1072 : q_1 ∈ hL S_1058 := hl_1059.mem hm_979
              have hk_1073 : Kd S_1058 q_1 0 := hl_1059.kd hm_979 hk_980
              have hm_1074 : q_115 ∈ hL S_1058 := hl_1059.mem hm_981
              have hk_1075 : Kd S_1058 q_115 20 := hl_1059.kd hm_981 hk_982
              have hn_1076 : Ln S_1058 q_115 16 := hl_1059.ln hm_981 hn_983
              have hm_1077 : q_163 ∈ hL S_1058 := hl_1059.mem hm_984
              have hk_1078 : Kd S_1058 q_163 10 := hl_1059.kd hm_984 hk_985
              have hm_1079 : q_167 ∈ hL S_1058 := hl_1059.mem hm_986
              have hk_1080 : Kd S_1058 q_167 15 := hl_1059.kd hm_986 hk_987
              have hn_1081 : Ln S_1058 q_167 16 := hl_1059.ln hm_986 hn_988
              have hm_1082 : q_223 ∈ hL S_1058 := hl_1059.mem hm_989
              have hk_1083 : Kd S_1058 q_223 8 := hl_1059.kd hm_989 hk_990
              have hm_1084 : q_228 ∈ hL S_1058 := hl_1059.mem hm_991
              have hk_1085 : Kd S_1058 q_228 14 := hl_1059.kd hm_991 hk_992
              have hn_1086 : Ln S_1058 q_228 16 := hl_1059.ln hm_991 hn_993
              have hm_1087 : q_26 ∈ hL S_1058 := hl_1059.mem hm_994
              have hk_1088 : Kd S_1058 q_26 2 := hl_1059.kd hm_994 hk_995
              have hm_1089 : q_292 ∈ hL S_1058 := hl_1059.mem hm_996
              have hk_1090 : Kd S_1058 q_292 13 := hl_1059.kd hm_996 hk_997
              have hn_1091 : Ln S_1058 q_292 24000 := hl_1059.ln hm_996 hn_998
              have hm_1092 : q_31 ∈ hL S_1058 := hl_1059.mem hm_999
              have hk_1093 : Kd S_1058 q_31 8 := hl_1059.kd hm_999 hk_1000
              have hm_1094 : q_32 ∈ hL S_1058 := hl_1059.mem hm_1001
              have hk_1095 : Kd S_1058 q_32 14 := hl_1059.kd hm_1001 hk_1002
              have hn_1096 : Ln S_1058 q_32 16 := hl_1059.ln hm_1001 hn_1003
              have hm_1097 : q_362 ∈ hL S_1058 := hl_1059.mem hm_1004
              have hk_1098 : Kd S_1058 q_362 14 := hl_1059.kd hm_1004 hk_1005
              have hn_1099 : Ln S_1058 q_362 16 := hl_1059.ln hm_1004 hn_1006
              have hm_1100 : q_436 ∈ hL S_1058 := hl_1059.mem hm_1007
              have hk_1101 : Kd S_1058 q_436 1 := hl_1059.kd hm_1007 hk_1008
              have hm_1102 : q_5 ∈ hL S_1058 := hl_1059.mem hm_1009
              have hk_1103 : Kd S_1058 q_5 14 := hl_1059.kd hm_1009 hk_1010
              have hn_1104 : Ln S_1058 q_5 20000 := hl_1059.ln hm_1009 hn_1011
              have hm_1105 : q_514 ∈ hL S_1058 := hl_1059.mem hm_1012
              have hk_1106 : Kd S_1058 q_514 1 := hl_1059.kd hm_1012 hk_1013
              have hm_1107 : q_596 ∈ hL S_1058 := hl_1059.mem hm_1014
              have hk_1108 : Kd S_1058 q_596 18 := hl_1059.kd hm_1014 hk_1015
              have hn_1109 : Ln S_1058 q_596 3 := hl_1059.ln hm_1014 hn_1016
              have hm_1110 : q_68 ∈ hL S_1058 := hl_1059.mem hm_1017
              have hk_1111 : Kd S_1058 q_68 8 := hl_1059.kd hm_1017 hk_1018
              have hm_1112 : q_682 ∈ hL S_1058 := hl_1059.mem hm_1019
              have hk_1113 : Kd S_1058 q_682 19 := hl_1059.kd hm_1019 hk_1020
              have hn_1114 : Ln S_1058 q_682 4 := hl_1059.ln hm_1019 hn_1021
              have hm_1115 : q_73 ∈ hL S_1058 := hl_1059.mem hm_1022
              have hk_1116 : Kd S_1058 q_73 14 := hl_1059.kd hm_1022 hk_1023
              have hn_1117 : Ln S_1058 q_73 16 := hl_1059.ln hm_1022 hn_1024
              have hm_1118 : q_772 ∈ hL S_1058 := hl_1059.mem hm_1025
              have hk_1119 : Kd S_1058 q_772 14 := hl_1059.kd hm_1025 hk_1026
              have hn_1120 : Ln S_1058 q_772 12 := hl_1059.ln hm_1025 hn_1027
              have hv_1121 : hI S_1058 1000 q_163 = 1 := hl_1059.fi hm_984 (fun h9 => h9) hv_1028
              have hv_1122 : hI S_1058 1001 q_163 = 1 := hl_1059.fi hm_984 (fun h9 => h9) hv_1029
              have hv_1123 : hI S_1058 2 q_1 = 0 := hl_1059.fi hm_979 (fun h9 => h9) hv_1030
              have hv_1124 : hI S_1058 206 q_26 = 0 := hl_1059.fi hm_994 (fun h9 => h9) hv_1031
              have hv_1125 : hI S_1058 209 q_26 = 0 := hl_1059.fi hm_994 (fun h9 => h9) hv_1032
              have hv_1126 : hI S_1058 3 q_1 = 0 := hl_1059.fi hm_979 (fun h9 => h9) hv_1033
              have hv_1127 : hI S_1058 4 q_1 = 0 := hl_1059.fi hm_979 (fun h9 => h9) hv_1034
              have hv_1128 : hI S_1058 5 q_1 = 0 := hl_1059.fi hm_979 (fun h9 => h9) hv_1035
              have hv_1129 : hR S_1058 0 q_1 = (some q_5) := hl_1059.fr hm_979 (fun h9 => h9) hv_1036
              have hv_1130 : hR S_1058 1003 q_163 = (some q_167) := hl_1059.fr hm_984 (fun h9 => h9) hv_1037
              have hv_1131 : hR S_1058 200 q_26 = (some q_31) := hl_1059.fr hm_994 (fun h9 => h9) hv_1038
              have hv_1132 : hR S_1058 800 q_223 = (some q_228) := hl_1059.fr hm_989 (fun h9 => h9) hv_1039
              have hv_1133 : hR S_1058 800 q_31 = (some q_32) := hl_1059.fr hm_999 (fun h9 => h9) hv_1040
              have hv_1134 : hR S_1058 800 q_68 = (some q_73) := hl_1059.fr hm_1017 (fun h9 => h9) hv_1041
              have hv_1135 : hR S_1058 900 h = (some s0) := hl_1059.fr hm_977 (fun h9 => h9) hv_1042
              have hv_1136 : hR S_1058 901 h = (some q_1) := hl_1059.fr hm_977 (fun h9 => h9) hv_1043
              have hv_1137 : hR S_1058 902 h = (some q_26) := hl_1059.fr hm_977 (fun h9 => h9) hv_1044
              have hv_1138 : hR S_1058 903 h = (some q_68) := hl_1059.fr hm_977 (fun h9 => h9) hv_1045
              have hv_1139 : hR S_1058 904 h = (some q_115) := hl_1059.fr hm_977 (fun h9 => h9) hv_1046
              have hv_1140 : hR S_1058 905 h = (some q_163) := hl_1059.fr hm_977 (fun h9 => h9) hv_1047
              have hv_1141 : hR S_1058 906 h = (some q_223) := hl_1059.fr hm_977 (fun h9 => h9) hv_1048
              have hv_1142 : hR S_1058 907 h = (some q_292) := hl_1059.fr hm_977 (fun h9 => h9) hv_1049
              have hv_1143 : hR S_1058 908 h = (some q_362) := hl_1059.fr hm_977 (fun h9 => h9) hv_1050
              have hv_1144 : hR S_1058 909 h = (some q_436) := hl_1059.fr hm_977 (fun h9 => h9) hv_1051
              have hv_1145 : hR S_1058 910 h = (some q_514) := hl_1059.fr hm_977 (fun h9 => h9) hv_1052
              have hv_1146 : hR S_1058 911 h = (some q_596) := hl_1059.fr hm_977 (fun h9 => h9) hv_1053
              have hv_1147 : hR S_1058 912 h = (some q_682) := hl_1059.fr hm_977 (fun h9 => h9) hv_1054
              have hv_1148 : hR S_1058 917 h = (some q_772) := hl_1059.fr hm_977 (fun h9 => h9) hv_1055
              have hf_1149 : Fm (fun _ _ => False) (fun f9 b9 => b9 = h) (fun _ => False) S S_1058 := hf_1056.then hl_1059 (fun a9 ha9 => ⟨(fun f9 h9 => h9.elim), (fun f9 h9 => h9.elim), (fun h9 => (fun h8 => absurd (h8 ▸ ha9) hz_684) h9)⟩)
              refine j_iload_n C dX9_init_198 rfl 0 rfl ?_
              refine j_aload_n C dX9_init_199 rfl 1 rfl ?_
              refine j_getr (f := 912) (v := q_682) C flX9_70 dX9_init_200 hm_1070 hk_1071 (by decide) rfl hv_1147 ?_
              show J _ _ _ _ _ 203 _
              refine j_alen (v := 4) C dX9_init_203 hm_1112 hk_1113 (by decide) (by decide) (len_of (n := 4) hn_1114 (by decide)) ?_
              refine j_ic_ge (tgt := 226) C dX9_init_204 (by decide) (fun c_204 => ?_) (fun c_204 => absurd (nI_le (a := 4) (by omega) (by omega)) c_204)
              refine j_aload_n C dX9_init_226 rfl 1 rfl ?_
              refine j_new (N := 13) C (ci := 5) rfl rfl klX9_68 knX5 kiX5 (M.cells (by omega)) (M.slots (by omega)) dX9_init_227 (fun q_1150 hq_1151 => ?_)
              have hz_1152 : q_1150 ∉ hL S := fun h9 => hq_1151 (hf_1149.mem h9)
              refine j_dup C dX9_init_230 rfl ?_
              have hf_1153 : Fm (fun _ _ => False) (fun f9 b9 => b9 = h) (fun _ => False) S (nO S_1058 q_1150 5) := (hf_1149.nO _ hq_1151)
              refine j_callI C [] [.ref q_1150, .ref h] mlX9_81 mcX5_init (c_X5_init (nO S_1058 q_1150 5) q_1150 mem_new (kd_nO' (k := 5))) (M.rm (by decide) (by decide) (by omega) (by omega)) rfl rfl (Nat.le_of_ble_eq_true rfl) dX9_init_231 (fun r_1161 S_1162 hp_1163 => ?_)
              obtain ⟨rfl, hf_1164, q_1154, e_1155, e_1156, e_1157, e_1158, e_1159, e_1160⟩ := hp_1163
              refine J.eq (st' := [.ref q_1150, .ref h]) rfl rfl rfl ?_
              have hz_1165 : ∀ j, aI S_1162 q_228 j = 0 := fun j9 => (hf_1164.ai (mem_old hm_1084) (fun h9 => h9) j9).trans (hz_1063 j9)
              have hz_1166 : ∀ j, aI S_1162 q_292 j = 0 := fun j9 => (hf_1164.ai (mem_old hm_1089) (fun h9 => h9) j9).trans (hz_1064 j9)
              have hz_1167 : ∀ j, aI S_1162 q_32 j = 0 := fun j9 => (hf_1164.ai (mem_old hm_1094) (fun h9 => h9) j9).trans (hz_1065 j9)
              have hz_1168 : ∀ j, aI S_1162 q_362 j = 0 := fun j9 => (hf_1164.ai (mem_old hm_1097) (fun h9 => h9) j9).trans (hz_1066 j9)
              have hz_1169 : ∀ j, aI S_1162 q_5 j = 0 := fun j9 => (hf_1164.ai (mem_old hm_1102) (fun h9 => h9) j9).trans (hz_1067 j9)
              have hz_1170 : ∀ j, aI S_1162 q_73 j = 0 := fun j9 => (hf_1164.ai (mem_old hm_1115) (fun h9 => h9) j9).trans (hz_1068 j9)
              have hz_1171 : ∀ j, aI S_1162 q_772 j = 0 := fun j9 => (hf_1164.ai (mem_old hm_1118) (fun h9 => h9) j9).trans (hz_1069 j9)
              have hm_1172 : h ∈ hL S_1162 := hf_1164.mem (mem_old hm_1070)
              have hk_1173 : Kd S_1162 h 9 := hf_1164.kd (mem_old hm_1070) (kd_nO (k := 5) hq_1151 hm_1070 hk_1071)
              have hm_1174 : q_1 ∈ hL S_1162 := hf_1164.mem (mem_old hm_1072)
              have hk_1175 : Kd S_1162 q_1 0 := hf_1164.kd (mem_old hm_1072) (kd_nO (k := 5) hq_1151 hm_1072 hk_1073)
              have hm_1176 : q_115 ∈ hL S_1162 := hf_1164.mem (mem_old hm_1074)
              have hk_1177 : Kd S_1162 q_115 20 := hf_1164.kd (mem_old hm_1074) (kd_nO (k := 5) hq_1151 hm_1074 hk_1075)
              have hn_1178 : Ln S_1162 q_115 16 := hf_1164.ln (mem_old hm_1074) hn_1076
              have hm_1179 : q_1150 ∈ hL S_1162 := hf_1164.mem mem_new
              have hk_1180 : Kd S_1162 q_1150 5 := hf_1164.kd mem_new (kd_nO' (k := 5))
              have hm_1181 : q_163 ∈ hL S_1162 := hf_1164.mem (mem_old hm_1077)
              have hk_1182 : Kd S_1162 q_163 10 := hf_1164.kd (mem_old hm_1077) (kd_nO (k := 5) hq_1151 hm_1077 hk_1078)
              have hm_1183 : q_167 ∈ hL S_1162 := hf_1164.mem (mem_old hm_1079)
              have hk_1184 : Kd S_1162 q_167 15 := hf_1164.kd (mem_old hm_1079) (kd_nO (k := 5) hq_1151 hm_1079 hk_1080)
              have hn_1185 : Ln S_1162 q_167 16 := hf_1164.ln (mem_old hm_1079) hn_1081
              have hm_1186 : q_223 ∈ hL S_1162 := hf_1164.mem (mem_old hm_1082)
              have hk_1187 : Kd S_1162 q_223 8 := hf_1164.kd (mem_old hm_1082) (kd_nO (k := 5) hq_1151 hm_1082 hk_1083)
              have hm_1188 : q_228 ∈ hL S_1162 := hf_1164.mem (mem_old hm_1084)
              have hk_1189 : Kd S_1162 q_228 14 := hf_1164.kd (mem_old hm_1084) (kd_nO (k := 5) hq_1151 hm_1084 hk_1085)
              have hn_1190 : Ln S_1162 q_228 16 := hf_1164.ln (mem_old hm_1084) hn_1086
              have hm_1191 : q_26 ∈ hL S_1162 := hf_1164.mem (mem_old hm_1087)
              have hk_1192 : Kd S_1162 q_26 2 := hf_1164.kd (mem_old hm_1087) (kd_nO (k := 5) hq_1151 hm_1087 hk_1088)
              have hm_1193 : q_292 ∈ hL S_1162 := hf_1164.mem (mem_old hm_1089)
              have hk_1194 : Kd S_1162 q_292 13 := hf_1164.kd (mem_old hm_1089) (kd_nO (k := 5) hq_1151 hm_1089 hk_1090)
              have hn_1195 : Ln S_1162 q_292 24000 := hf_1164.ln (mem_old hm_1089) hn_1091
              have hm_1196 : q_31 ∈ hL S_1162 := hf_1164.mem (mem_old hm_1092)
              have hk_1197 : Kd S_1162 q_31 8 := hf_1164.kd (mem_old hm_1092) (kd_nO (k := 5) hq_1151 hm_1092 hk_1093)
              have hm_1198 : q_32 ∈ hL S_1162 := hf_1164.mem (mem_old hm_1094)
              have hk_1199 : Kd S_1162 q_32 14 := hf_1164.kd (mem_old hm_1094) (kd_nO (k := 5) hq_1151 hm_1094 hk_1095)
              have hn_1200 : Ln S_1162 q_32 16 := hf_1164.ln (mem_old hm_1094) hn_1096
              have hm_1201 : q_362 ∈ hL S_1162 := hf_1164.mem (mem_old hm_1097)
              have hk_1202 : Kd S_1162 q_362 14 := hf_1164.kd (mem_old hm_1097) (kd_nO (k := 5) hq_1151 hm_1097 hk_1098)
              have hn_1203 : Ln S_1162 q_362 16 := hf_1164.ln (mem_old hm_1097) hn_1099
              have hm_1204 : q_436 ∈ hL S_1162 := hf_1164.mem (mem_old hm_1100)
              have hk_1205 : Kd S_1162 q_436 1 := hf_1164.kd (mem_old hm_1100) (kd_nO (k := 5) hq_1151 hm_1100 hk_1101)
              have hm_1206 : q_5 ∈ hL S_1162 := hf_1164.mem (mem_old hm_1102)
              have hk_1207 : Kd S_1162 q_5 14 := hf_1164.kd (mem_old hm_1102) (kd_nO (k := 5) hq_1151 hm_1102 hk_1103)
              have hn_1208 : Ln S_1162 q_5 20000 := hf_1164.ln (mem_old hm_1102) hn_1104
              have hm_1209 : q_514 ∈ hL S_1162 := hf_1164.mem (mem_old hm_1105)
              have hk_1210 : Kd S_1162 q_514 1 := hf_1164.kd (mem_old hm_1105) (kd_nO (k := 5) hq_1151 hm_1105 hk_1106)
              have hm_1211 : q_596 ∈ hL S_1162 := hf_1164.mem (mem_old hm_1107)
              have hk_1212 : Kd S_1162 q_596 18 := hf_1164.kd (mem_old hm_1107) (kd_nO (k := 5) hq_1151 hm_1107 hk_1108)
              have hn_1213 : Ln S_1162 q_596 3 := hf_1164.ln (mem_old hm_1107) hn_1109
              have hm_1214 : q_68 ∈ hL S_1162 := hf_1164.mem (mem_old hm_1110)
              have hk_1215 : Kd S_1162 q_68 8 := hf_1164.kd (mem_old hm_1110) (kd_nO (k := 5) hq_1151 hm_1110 hk_1111)
              have hm_1216 : q_682 ∈ hL S_1162 := hf_1164.mem (mem_old hm_1112)
              have hk_1217 : Kd S_1162 q_682 19 := hf_1164.kd (mem_old hm_1112) (kd_nO (k := 5) hq_1151 hm_1112 hk_1113)
              have hn_1218 : Ln S_1162 q_682 4 := hf_1164.ln (mem_old hm_1112) hn_1114
              have hm_1219 : q_73 ∈ hL S_1162 := hf_1164.mem (mem_old hm_1115)
              have hk_1220 : Kd S_1162 q_73 14 := hf_1164.kd (mem_old hm_1115) (kd_nO (k := 5) hq_1151 hm_1115 hk_1116)
              have hn_1221 : Ln S_1162 q_73 16 := hf_1164.ln (mem_old hm_1115) hn_1117
              have hm_1222 : q_772 ∈ hL S_1162 := hf_1164.mem (mem_old hm_1118)
              have hk_1223 : Kd S_1162 q_772 14 := hf_1164.kd (mem_old hm_1118) (kd_nO (k := 5) hq_1151 hm_1118 hk_1119)
              have hn_1224 : Ln S_1162 q_772 12 := hf_1164.ln (mem_old hm_1118) hn_1120
              have hv_1225 : hI S_1162 1000 q_163 = 1 := hf_1164.fi (mem_old hm_1077) (fun h9 => h9) (rd_nOI (k := 5) hq_1151 hm_1077 hv_1121)
              have hv_1226 : hI S_1162 1001 q_163 = 1 := hf_1164.fi (mem_old hm_1077) (fun h9 => h9) (rd_nOI (k := 5) hq_1151 hm_1077 hv_1122)
              have hv_1227 : hI S_1162 2 q_1 = 0 := hf_1164.fi (mem_old hm_1072) (fun h9 => h9) (rd_nOI (k := 5) hq_1151 hm_1072 hv_1123)
              have hv_1228 : hI S_1162 206 q_26 = 0 := hf_1164.fi (mem_old hm_1087) (fun h9 => h9) (rd_nOI (k := 5) hq_1151 hm_1087 hv_1124)
              have hv_1229 : hI S_1162 209 q_26 = 0 := hf_1164.fi (mem_old hm_1087) (fun h9 => h9) (rd_nOI (k := 5) hq_1151 hm_1087 hv_1125)
              have hv_1230 : hI S_1162 3 q_1 = 0 := hf_1164.fi (mem_old hm_1072) (fun h9 => h9) (rd_nOI (k := 5) hq_1151 hm_1072 hv_1126)
              have hv_1231 : hI S_1162 4 q_1 = 0 := hf_1164.fi (mem_old hm_1072) (fun h9 => h9) (rd_nOI (k := 5) hq_1151 hm_1072 hv_1127)
              have hv_1232 : hI S_1162 5 q_1 = 0 := hf_1164.fi (mem_old hm_1072) (fun h9 => h9) (rd_nOI (k := 5) hq_1151 hm_1072 hv_1128)
              have hv_1233 : hR S_1162 0 q_1 = (some q_5) := hf_1164.fr (mem_old hm_1072) (fun q9 => (fun e9 => absurd (((kd_nO (k := 5) hq_1151 hm_1072 hk_1073)).symm.trans ((congrArg (hK _) e9).trans (kd_nO' (k := 5)))) (by decide)) q9) (rd_nOR (k := 5) hq_1151 hm_1072 hv_1129)
              have hv_1234 : hR S_1162 1003 q_163 = (some q_167) := hf_1164.fr (mem_old hm_1077) (fun q9 => (fun e9 => absurd (((kd_nO (k := 5) hq_1151 hm_1077 hk_1078)).symm.trans ((congrArg (hK _) e9).trans (kd_nO' (k := 5)))) (by decide)) q9) (rd_nOR (k := 5) hq_1151 hm_1077 hv_1130)
              have hv_1235 : hR S_1162 200 q_26 = (some q_31) := hf_1164.fr (mem_old hm_1087) (fun q9 => (fun e9 => absurd (((kd_nO (k := 5) hq_1151 hm_1087 hk_1088)).symm.trans ((congrArg (hK _) e9).trans (kd_nO' (k := 5)))) (by decide)) q9) (rd_nOR (k := 5) hq_1151 hm_1087 hv_1131)
              have hv_1236 : hR S_1162 800 q_223 = (some q_228) := hf_1164.fr (mem_old hm_1082) (fun q9 => (fun e9 => absurd (((kd_nO (k := 5) hq_1151 hm_1082 hk_1083)).symm.trans ((congrArg (hK _) e9).trans (kd_nO' (k := 5)))) (by decide)) q9) (rd_nOR (k := 5) hq_1151 hm_1082 hv_1132)
              have hv_1237 : hR S_1162 800 q_31 = (some q_32) := hf_1164.fr (mem_old hm_1092) (fun q9 => (fun e9 => absurd (((kd_nO (k := 5) hq_1151 hm_1092 hk_1093)).symm.trans ((congrArg (hK _) e9).trans (kd_nO' (k := 5)))) (by decide)) q9) (rd_nOR (k := 5) hq_1151 hm_1092 hv_1133)
              have hv_1238 : hR S_1162 800 q_68 = (some q_73) := hf_1164.fr (mem_old hm_1110) (fun q9 => (fun e9 => absurd (((kd_nO (k := 5) hq_1151 hm_1110 hk_1111)).symm.trans ((congrArg (hK _) e9).trans (kd_nO' (k := 5)))) (by decide)) q9) (rd_nOR (k := 5) hq_1151 hm_1110 hv_1134)
              have hv_1239 : hR S_1162 900 h = (some s0) := hf_1164.fr (mem_old hm_1070) (fun q9 => (fun e9 => absurd (((kd_nO (k := 5) hq_1151 hm_1070 hk_1071)).symm.trans ((congrArg (hK _) e9).trans (kd_nO' (k := 5)))) (by decide)) q9) (rd_nOR (k := 5) hq_1151 hm_1070 hv_1135)
              have hv_1240 : hR S_1162 901 h = (some q_1) := hf_1164.fr (mem_old hm_1070) (fun q9 => (fun e9 => absurd (((kd_nO (k := 5) hq_1151 hm_1070 hk_1071)).symm.trans ((congrArg (hK _) e9).trans (kd_nO' (k := 5)))) (by decide)) q9) (rd_nOR (k := 5) hq_1151 hm_1070 hv_1136)
              have hv_1241 : hR S_1162 902 h = (some q_26) := hf_1164.fr (mem_old hm_1070) (fun q9 => (fun e9 => absurd (((kd_nO (k := 5) hq_1151 hm_1070 hk_1071)).symm.trans ((congrArg (hK _) e9).trans (kd_nO' (k := 5)))) (by decide)) q9) (rd_nOR (k := 5) hq_1151 hm_1070 hv_1137)
              have hv_1242 : hR S_1162 903 h = (some q_68) := hf_1164.fr (mem_old hm_1070) (fun q9 => (fun e9 => absurd (((kd_nO (k := 5) hq_1151 hm_1070 hk_1071)).symm.trans ((congrArg (hK _) e9).trans (kd_nO' (k := 5)))) (by decide)) q9) (rd_nOR (k := 5) hq_1151 hm_1070 hv_1138)
              have hv_1243 : hR S_1162 904 h = (some q_115) := hf_1164.fr (mem_old hm_1070) (fun q9 => (fun e9 => absurd (((kd_nO (k := 5) hq_1151 hm_1070 hk_1071)).symm.trans ((congrArg (hK _) e9).trans (kd_nO' (k := 5)))) (by decide)) q9) (rd_nOR (k := 5) hq_1151 hm_1070 hv_1139)
              have hv_1244 : hR S_1162 905 h = (some q_163) := hf_1164.fr (mem_old hm_1070) (fun q9 => (fun e9 => absurd (((kd_nO (k := 5) hq_1151 hm_1070 hk_1071)).symm.trans ((congrArg (hK _) e9).trans (kd_nO' (k := 5)))) (by decide)) q9) (rd_nOR (k := 5) hq_1151 hm_1070 hv_1140)
              have hv_1245 : hR S_1162 906 h = (some q_223) := hf_1164.fr (mem_old hm_1070) (fun q9 => (fun e9 => absurd (((kd_nO (k := 5) hq_1151 hm_1070 hk_1071)).symm.trans ((congrArg (hK _) e9).trans (kd_nO' (k := 5)))) (by decide)) q9) (rd_nOR (k := 5) hq_1151 hm_1070 hv_1141)
              have hv_1246 : hR S_1162 907 h = (some q_292) := hf_1164.fr (mem_old hm_1070) (fun q9 => (fun e9 => absurd (((kd_nO (k := 5) hq_1151 hm_1070 hk_1071)).symm.trans ((congrArg (hK _) e9).trans (kd_nO' (k := 5)))) (by decide)) q9) (rd_nOR (k := 5) hq_1151 hm_1070 hv_1142)
              have hv_1247 : hR S_1162 908 h = (some q_362) := hf_1164.fr (mem_old hm_1070) (fun q9 => (fun e9 => absurd (((kd_nO (k := 5) hq_1151 hm_1070 hk_1071)).symm.trans ((congrArg (hK _) e9).trans (kd_nO' (k := 5)))) (by decide)) q9) (rd_nOR (k := 5) hq_1151 hm_1070 hv_1143)
              have hv_1248 : hR S_1162 909 h = (some q_436) := hf_1164.fr (mem_old hm_1070) (fun q9 => (fun e9 => absurd (((kd_nO (k := 5) hq_1151 hm_1070 hk_1071)).symm.trans ((congrArg (hK _) e9).trans (kd_nO' (k := 5)))) (by decide)) q9) (rd_nOR (k := 5) hq_1151 hm_1070 hv_1144)
              have hv_1249 : hR S_1162 910 h = (some q_514) := hf_1164.fr (mem_old hm_1070) (fun q9 => (fun e9 => absurd (((kd_nO (k := 5) hq_1151 hm_1070 hk_1071)).symm.trans ((congrArg (hK _) e9).trans (kd_nO' (k := 5)))) (by decide)) q9) (rd_nOR (k := 5) hq_1151 hm_1070 hv_1145)
              have hv_1250 : hR S_1162 911 h = (some q_596) := hf_1164.fr (mem_old hm_1070) (fun q9 => (fun e9 => absurd (((kd_nO (k := 5) hq_1151 hm_1070 hk_1071)).symm.trans ((congrArg (hK _) e9).trans (kd_nO' (k := 5)))) (by decide)) q9) (rd_nOR (k := 5) hq_1151 hm_1070 hv_1146)
              have hv_1251 : hR S_1162 912 h = (some q_682) := hf_1164.fr (mem_old hm_1070) (fun q9 => (fun e9 => absurd (((kd_nO (k := 5) hq_1151 hm_1070 hk_1071)).symm.trans ((congrArg (hK _) e9).trans (kd_nO' (k := 5)))) (by decide)) q9) (rd_nOR (k := 5) hq_1151 hm_1070 hv_1147)
              have hv_1252 : hR S_1162 917 h = (some q_772) := hf_1164.fr (mem_old hm_1070) (fun q9 => (fun e9 => absurd (((kd_nO (k := 5) hq_1151 hm_1070 hk_1071)).symm.trans ((congrArg (hK _) e9).trans (kd_nO' (k := 5)))) (by decide)) q9) (rd_nOR (k := 5) hq_1151 hm_1070 hv_1148)
              have hf_1253 : Fm (fun _ _ => False) (fun f9 b9 => b9 = h) (fun _ => False) S S_1162 := hf_1153.then hf_1164 (fun a9 ha9 => ⟨(fun f9 h9 => h9.elim), (fun f9 h9 => (fun h8 => absurd (h8 ▸ ha9) hz_1152) h9), (fun h9 => h9.elim)⟩)
              have hz_1254 : q_1154 ∉ hL S := fun h9 => e_1155 (hf_1153.mem h9)
              refine j_putr (f := 913) C flX9_82 (by decide) rfl rfl dX9_init_234 hm_1172 hk_1173 rfl ?_
              exact j_vret C M dX9_init_237 (by omega) (by omega) ⟨rfl, (hf_1253.sR _ (fun _ => rfl)), q_1, q_5, q_26, q_31, q_32, q_68, q_73, q_223, q_228, q_362, q_772, hz_3, hm_1174, hk_1175, (rd_sRf (S := S_1162) (g := 913) (a := h) (v := (some q_1150)) (by decide) hv_1240), hz_25, hm_1206, hk_1207, hn_1208, (rd_sRf (S := S_1162) (g := 913) (a := h) (v := (some q_1150)) (by decide) hv_1233), hz_1169, hz_29, hm_1191, hk_1192, (rd_sRf (S := S_1162) (g := 913) (a := h) (v := (some q_1150)) (by decide) hv_1241), hz_66, hm_1196, hk_1197, (rd_sRf (S := S_1162) (g := 913) (a := h) (v := (some q_1150)) (by decide) hv_1235), hz_67, hm_1198, hk_1199, hn_1200, (rd_sRf (S := S_1162) (g := 913) (a := h) (v := (some q_1150)) (by decide) hv_1237), hz_1167, hz_71, hm_1214, hk_1215, (rd_sRf (S := S_1162) (g := 913) (a := h) (v := (some q_1150)) (by decide) hv_1242), hz_114, hm_1219, hk_1220, hn_1221, (rd_sRf (S := S_1162) (g := 913) (a := h) (v := (some q_1150)) (by decide) hv_1238), hz_1170, hz_226, hm_1186, hk_1187, (rd_sRf (S := S_1162) (g := 913) (a := h) (v := (some q_1150)) (by decide) hv_1245), hz_291, hm_1188, hk_1189, hn_1190, (rd_sRf (S := S_1162) (g := 913) (a := h) (v := (some q_1150)) (by decide) hv_1236), hz_1165, hz_364, hm_1201, hk_1202, hn_1203, (rd_sRf (S := S_1162) (g := 913) (a := h) (v := (some q_1150)) (by decide) hv_1247), hz_1168, hz_774, hm_1222, hk_1223, hn_1224, (rd_sRf (S := S_1162) (g := 913) (a := h) (v := (some q_1150)) (by decide) hv_1252), hz_1171, hv_1230, hv_1228⟩
            | succ m9 ih_1060 =>
              intro i3 S_1058  hi_1062 hl_1059 
              have hz_1255 : ∀ j, aI S_1058 q_228 j = 0 := fun j9 => (hl_1059.ai hm_991 (fun q9 => (fun e9 => absurd ((hk_992).symm.trans ((congrArg (hK _) e9).trans hk_1020)) (by decide)) q9) j9).trans (hz_969 j9)
              have hz_1256 : ∀ j, aI S_1058 q_292 j = 0 := fun j9 => (hl_1059.ai hm_996 (fun q9 => (fun e9 => absurd ((hk_997).symm.trans ((congrArg (hK _) e9).trans hk_1020)) (by decide)) q9) j9).trans (hz_970 j9)
              have hz_1257 : ∀ j, aI S_1058 q_32 j = 0 := fun j9 => (hl_1059.ai hm_1001 (fun q9 => (fun e9 => absurd ((hk_1002).symm.trans ((congrArg (hK _) e9).trans hk_1020)) (by decide)) q9) j9).trans (hz_971 j9)
              have hz_1258 : ∀ j, aI S_1058 q_362 j = 0 := fun j9 => (hl_1059.ai hm_1004 (fun q9 => (fun e9 => absurd ((hk_1005).symm.trans ((congrArg (hK _) e9).trans hk_1020)) (by decide)) q9) j9).trans (hz_972 j9)
              have hz_1259 : ∀ j, aI S_1058 q_5 j = 0 := fun j9 => (hl_1059.ai hm_1009 (fun q9 => (fun e9 => absurd ((hk_1010).symm.trans ((congrArg (hK _) e9).trans hk_1020)) (by decide)) q9) j9).trans (hz_973 j9)
              have hz_1260 : ∀ j, aI S_1058 q_73 j = 0 := fun j9 => (hl_1059.ai hm_1022 (fun q9 => (fun e9 => absurd ((hk_1023).symm.trans ((congrArg (hK _) e9).trans hk_1020)) (by decide)) q9) j9).trans (hz_975 j9)
              have hz_1261 : ∀ j, aI S_1058 q_772 j = 0 := fun j9 => (hl_1059.ai hm_1025 (fun q9 => (fun e9 => absurd ((hk_1026).symm.trans ((congrArg (hK _) e9).trans hk_1020)) (by decide)) q9) j9).trans (hz_976 j9)
              have hm_1262 : h ∈ hL S_1058 := hl_1059.mem hm_977
              have hk_1263 : Kd S_1058 h 9 := hl_1059.kd hm_977 hk_978
              have hm_1264 : q_1 ∈ hL S_1058 := hl_1059.mem hm_979
              have hk_1265 : Kd S_1058 q_1 0 := hl_1059.kd hm_979 hk_980
              have hm_1266 : q_115 ∈ hL S_1058 := hl_1059.mem hm_981
              have hk_1267 : Kd S_1058 q_115 20 := hl_1059.kd hm_981 hk_982
              have hn_1268 : Ln S_1058 q_115 16 := hl_1059.ln hm_981 hn_983
              have hm_1269 : q_163 ∈ hL S_1058 := hl_1059.mem hm_984
              have hk_1270 : Kd S_1058 q_163 10 := hl_1059.kd hm_984 hk_985
              have hm_1271 : q_167 ∈ hL S_1058 := hl_1059.mem hm_986
              have hk_1272 : Kd S_1058 q_167 15 := hl_1059.kd hm_986 hk_987
              have hn_1273 : Ln S_1058 q_167 16 := hl_1059.ln hm_986 hn_988
              have hm_1274 : q_223 ∈ hL S_1058 := hl_1059.mem hm_989
              have hk_1275 : Kd S_1058 q_223 8 := hl_1059.kd hm_989 hk_990
              have hm_1276 : q_228 ∈ hL S_1058 := hl_1059.mem hm_991
              have hk_1277 : Kd S_1058 q_228 14 := hl_1059.kd hm_991 hk_992
              have hn_1278 : Ln S_1058 q_228 16 := hl_1059.ln hm_991 hn_993
              have hm_1279 : q_26 ∈ hL S_1058 := hl_1059.mem hm_994
              have hk_1280 : Kd S_1058 q_26 2 := hl_1059.kd hm_994 hk_995
              have hm_1281 : q_292 ∈ hL S_1058 := hl_1059.mem hm_996
              have hk_1282 : Kd S_1058 q_292 13 := hl_1059.kd hm_996 hk_997
              have hn_1283 : Ln S_1058 q_292 24000 := hl_1059.ln hm_996 hn_998
              have hm_1284 : q_31 ∈ hL S_1058 := hl_1059.mem hm_999
              have hk_1285 : Kd S_1058 q_31 8 := hl_1059.kd hm_999 hk_1000
              have hm_1286 : q_32 ∈ hL S_1058 := hl_1059.mem hm_1001
              have hk_1287 : Kd S_1058 q_32 14 := hl_1059.kd hm_1001 hk_1002
              have hn_1288 : Ln S_1058 q_32 16 := hl_1059.ln hm_1001 hn_1003
              have hm_1289 : q_362 ∈ hL S_1058 := hl_1059.mem hm_1004
              have hk_1290 : Kd S_1058 q_362 14 := hl_1059.kd hm_1004 hk_1005
              have hn_1291 : Ln S_1058 q_362 16 := hl_1059.ln hm_1004 hn_1006
              have hm_1292 : q_436 ∈ hL S_1058 := hl_1059.mem hm_1007
              have hk_1293 : Kd S_1058 q_436 1 := hl_1059.kd hm_1007 hk_1008
              have hm_1294 : q_5 ∈ hL S_1058 := hl_1059.mem hm_1009
              have hk_1295 : Kd S_1058 q_5 14 := hl_1059.kd hm_1009 hk_1010
              have hn_1296 : Ln S_1058 q_5 20000 := hl_1059.ln hm_1009 hn_1011
              have hm_1297 : q_514 ∈ hL S_1058 := hl_1059.mem hm_1012
              have hk_1298 : Kd S_1058 q_514 1 := hl_1059.kd hm_1012 hk_1013
              have hm_1299 : q_596 ∈ hL S_1058 := hl_1059.mem hm_1014
              have hk_1300 : Kd S_1058 q_596 18 := hl_1059.kd hm_1014 hk_1015
              have hn_1301 : Ln S_1058 q_596 3 := hl_1059.ln hm_1014 hn_1016
              have hm_1302 : q_68 ∈ hL S_1058 := hl_1059.mem hm_1017
              have hk_1303 : Kd S_1058 q_68 8 := hl_1059.kd hm_1017 hk_1018
              have hm_1304 : q_682 ∈ hL S_1058 := hl_1059.mem hm_1019
              have hk_1305 : Kd S_1058 q_682 19 := hl_1059.kd hm_1019 hk_1020
              have hn_1306 : Ln S_1058 q_682 4 := hl_1059.ln hm_1019 hn_1021
              have hm_1307 : q_73 ∈ hL S_1058 := hl_1059.mem hm_1022
              have hk_1308 : Kd S_1058 q_73 14 := hl_1059.kd hm_1022 hk_1023
              have hn_1309 : Ln S_1058 q_73 16 := hl_1059.ln hm_1022 hn_1024
              have hm_1310 : q_772 ∈ hL S_1058 := hl_1059.mem hm_1025
              have hk_1311 : Kd S_1058 q_772 14 := hl_1059.kd hm_1025 hk_1026
              have hn_1312 : Ln S_1058 q_772 12 := hl_1059.ln hm_1025 hn_1027
              have hv_1313 : hI S_1058 1000 q_163 = 1 := hl_1059.fi hm_984 (fun h9 => h9) hv_1028
              have hv_1314 : hI S_1058 1001 q_163 = 1 := hl_1059.fi hm_984 (fun h9 => h9) hv_1029
              have hv_1315 : hI S_1058 2 q_1 = 0 := hl_1059.fi hm_979 (fun h9 => h9) hv_1030
              have hv_1316 : hI S_1058 206 q_26 = 0 := hl_1059.fi hm_994 (fun h9 => h9) hv_1031
              have hv_1317 : hI S_1058 209 q_26 = 0 := hl_1059.fi hm_994 (fun h9 => h9) hv_1032
              have hv_1318 : hI S_1058 3 q_1 = 0 := hl_1059.fi hm_979 (fun h9 => h9) hv_1033
              have hv_1319 : hI S_1058 4 q_1 = 0 := hl_1059.fi hm_979 (fun h9 => h9) hv_1034
              have hv_1320 : hI S_1058 5 q_1 = 0 := hl_1059.fi hm_979 (fun h9 => h9) hv_1035
              have hv_1321 : hR S_1058 0 q_1 = (some q_5) := hl_1059.fr hm_979 (fun h9 => h9) hv_1036
              have hv_1322 : hR S_1058 1003 q_163 = (some q_167) := hl_1059.fr hm_984 (fun h9 => h9) hv_1037
              have hv_1323 : hR S_1058 200 q_26 = (some q_31) := hl_1059.fr hm_994 (fun h9 => h9) hv_1038
              have hv_1324 : hR S_1058 800 q_223 = (some q_228) := hl_1059.fr hm_989 (fun h9 => h9) hv_1039
              have hv_1325 : hR S_1058 800 q_31 = (some q_32) := hl_1059.fr hm_999 (fun h9 => h9) hv_1040
              have hv_1326 : hR S_1058 800 q_68 = (some q_73) := hl_1059.fr hm_1017 (fun h9 => h9) hv_1041
              have hv_1327 : hR S_1058 900 h = (some s0) := hl_1059.fr hm_977 (fun h9 => h9) hv_1042
              have hv_1328 : hR S_1058 901 h = (some q_1) := hl_1059.fr hm_977 (fun h9 => h9) hv_1043
              have hv_1329 : hR S_1058 902 h = (some q_26) := hl_1059.fr hm_977 (fun h9 => h9) hv_1044
              have hv_1330 : hR S_1058 903 h = (some q_68) := hl_1059.fr hm_977 (fun h9 => h9) hv_1045
              have hv_1331 : hR S_1058 904 h = (some q_115) := hl_1059.fr hm_977 (fun h9 => h9) hv_1046
              have hv_1332 : hR S_1058 905 h = (some q_163) := hl_1059.fr hm_977 (fun h9 => h9) hv_1047
              have hv_1333 : hR S_1058 906 h = (some q_223) := hl_1059.fr hm_977 (fun h9 => h9) hv_1048
              have hv_1334 : hR S_1058 907 h = (some q_292) := hl_1059.fr hm_977 (fun h9 => h9) hv_1049
              have hv_1335 : hR S_1058 908 h = (some q_362) := hl_1059.fr hm_977 (fun h9 => h9) hv_1050
              have hv_1336 : hR S_1058 909 h = (some q_436) := hl_1059.fr hm_977 (fun h9 => h9) hv_1051
              have hv_1337 : hR S_1058 910 h = (some q_514) := hl_1059.fr hm_977 (fun h9 => h9) hv_1052
              have hv_1338 : hR S_1058 911 h = (some q_596) := hl_1059.fr hm_977 (fun h9 => h9) hv_1053
              have hv_1339 : hR S_1058 912 h = (some q_682) := hl_1059.fr hm_977 (fun h9 => h9) hv_1054
              have hv_1340 : hR S_1058 917 h = (some q_772) := hl_1059.fr hm_977 (fun h9 => h9) hv_1055
              have hf_1341 : Fm (fun _ _ => False) (fun f9 b9 => b9 = h) (fun _ => False) S S_1058 := hf_1056.then hl_1059 (fun a9 ha9 => ⟨(fun f9 h9 => h9.elim), (fun f9 h9 => h9.elim), (fun h9 => (fun h8 => absurd (h8 ▸ ha9) hz_684) h9)⟩)
              refine j_iload_n C dX9_init_198 rfl 0 rfl ?_
              refine j_aload_n C dX9_init_199 rfl 1 rfl ?_
              show J _ _ _ _ _ 200 _
              refine j_getr (f := 912) (v := q_682) C flX9_70 dX9_init_200 hm_1262 hk_1263 (by decide) rfl hv_1339 ?_
              refine j_alen (v := 4) C dX9_init_203 hm_1304 hk_1305 (by decide) (by decide) (len_of (n := 4) hn_1306 (by decide)) ?_
              refine j_ic_ge (tgt := 226) C dX9_init_204 (by decide) (fun c_204 => absurd c_204 (nI_ge (b := 4) (by omega) (by omega))) (fun c_204 => ?_)
              refine j_aload_n C dX9_init_207 rfl 1 rfl ?_
              refine j_getr (f := 912) (v := q_682) C flX9_70 dX9_init_208 hm_1262 hk_1263 (by decide) rfl hv_1339 ?_
              refine j_iload_n C dX9_init_211 rfl 0 rfl ?_
              refine j_new (N := 13) C (ci := 5) rfl rfl klX9_68 knX5 kiX5 (M.cells (by omega)) (M.slots (by omega)) dX9_init_212 (fun q_1342 hq_1343 => ?_)
              have hz_1344 : q_1342 ∉ hL S := fun h9 => hq_1343 (hf_1341.mem h9)
              have hz_1345 : q_1342 ∉ hL S_964 := fun h9 => hq_1343 (hl_1059.mem h9)
              refine j_dup C dX9_init_215 rfl ?_
              show J _ _ _ _ _ 216 _
              have hf_1346 : Fm (fun _ _ => False) (fun f9 b9 => b9 = h) (fun _ => False) S (nO S_1058 q_1342 5) := (hf_1341.nO _ hq_1343)
              have hf_1347 : Fm (fun _ _ => False) (fun _ _ => False) (fun b9 => b9 = q_682) S_964 (nO S_1058 q_1342 5) := (hl_1059.nO _ hq_1343)
              refine j_callI C [] [.ref q_1342, .int (nI i3), .ref q_682] mlX9_81 mcX5_init (c_X5_init (nO S_1058 q_1342 5) q_1342 mem_new (kd_nO' (k := 5))) (M.rm (by decide) (by decide) (by omega) (by omega)) rfl rfl (Nat.le_of_ble_eq_true rfl) dX9_init_216 (fun r_1355 S_1356 hp_1357 => ?_)
              obtain ⟨rfl, hf_1358, q_1348, e_1349, e_1350, e_1351, e_1352, e_1353, e_1354⟩ := hp_1357
              refine J.eq (st' := [.ref q_1342, .int (nI i3), .ref q_682]) rfl rfl rfl ?_
              have hz_1359 : ∀ j, aI S_1356 q_228 j = 0 := fun j9 => (hf_1358.ai (mem_old hm_1276) (fun h9 => h9) j9).trans (hz_1255 j9)
              have hz_1360 : ∀ j, aI S_1356 q_292 j = 0 := fun j9 => (hf_1358.ai (mem_old hm_1281) (fun h9 => h9) j9).trans (hz_1256 j9)
              have hz_1361 : ∀ j, aI S_1356 q_32 j = 0 := fun j9 => (hf_1358.ai (mem_old hm_1286) (fun h9 => h9) j9).trans (hz_1257 j9)
              have hz_1362 : ∀ j, aI S_1356 q_362 j = 0 := fun j9 => (hf_1358.ai (mem_old hm_1289) (fun h9 => h9) j9).trans (hz_1258 j9)
              have hz_1363 : ∀ j, aI S_1356 q_5 j = 0 := fun j9 => (hf_1358.ai (mem_old hm_1294) (fun h9 => h9) j9).trans (hz_1259 j9)
              have hz_1364 : ∀ j, aI S_1356 q_73 j = 0 := fun j9 => (hf_1358.ai (mem_old hm_1307) (fun h9 => h9) j9).trans (hz_1260 j9)
              have hz_1365 : ∀ j, aI S_1356 q_772 j = 0 := fun j9 => (hf_1358.ai (mem_old hm_1310) (fun h9 => h9) j9).trans (hz_1261 j9)
              have hm_1366 : h ∈ hL S_1356 := hf_1358.mem (mem_old hm_1262)
              have hk_1367 : Kd S_1356 h 9 := hf_1358.kd (mem_old hm_1262) (kd_nO (k := 5) hq_1343 hm_1262 hk_1263)
              have hm_1368 : q_1 ∈ hL S_1356 := hf_1358.mem (mem_old hm_1264)
              have hk_1369 : Kd S_1356 q_1 0 := hf_1358.kd (mem_old hm_1264) (kd_nO (k := 5) hq_1343 hm_1264 hk_1265)
              have hm_1370 : q_115 ∈ hL S_1356 := hf_1358.mem (mem_old hm_1266)
              have hk_1371 : Kd S_1356 q_115 20 := hf_1358.kd (mem_old hm_1266) (kd_nO (k := 5) hq_1343 hm_1266 hk_1267)
              have hn_1372 : Ln S_1356 q_115 16 := hf_1358.ln (mem_old hm_1266) hn_1268
              have hm_1373 : q_1342 ∈ hL S_1356 := hf_1358.mem mem_new
              have hk_1374 : Kd S_1356 q_1342 5 := hf_1358.kd mem_new (kd_nO' (k := 5))
              have hm_1375 : q_163 ∈ hL S_1356 := hf_1358.mem (mem_old hm_1269)
              have hk_1376 : Kd S_1356 q_163 10 := hf_1358.kd (mem_old hm_1269) (kd_nO (k := 5) hq_1343 hm_1269 hk_1270)
              have hm_1377 : q_167 ∈ hL S_1356 := hf_1358.mem (mem_old hm_1271)
              have hk_1378 : Kd S_1356 q_167 15 := hf_1358.kd (mem_old hm_1271) (kd_nO (k := 5) hq_1343 hm_1271 hk_1272)
              have hn_1379 : Ln S_1356 q_167 16 := hf_1358.ln (mem_old hm_1271) hn_1273
              have hm_1380 : q_223 ∈ hL S_1356 := hf_1358.mem (mem_old hm_1274)
              have hk_1381 : Kd S_1356 q_223 8 := hf_1358.kd (mem_old hm_1274) (kd_nO (k := 5) hq_1343 hm_1274 hk_1275)
              have hm_1382 : q_228 ∈ hL S_1356 := hf_1358.mem (mem_old hm_1276)
              have hk_1383 : Kd S_1356 q_228 14 := hf_1358.kd (mem_old hm_1276) (kd_nO (k := 5) hq_1343 hm_1276 hk_1277)
              have hn_1384 : Ln S_1356 q_228 16 := hf_1358.ln (mem_old hm_1276) hn_1278
              have hm_1385 : q_26 ∈ hL S_1356 := hf_1358.mem (mem_old hm_1279)
              have hk_1386 : Kd S_1356 q_26 2 := hf_1358.kd (mem_old hm_1279) (kd_nO (k := 5) hq_1343 hm_1279 hk_1280)
              have hm_1387 : q_292 ∈ hL S_1356 := hf_1358.mem (mem_old hm_1281)
              have hk_1388 : Kd S_1356 q_292 13 := hf_1358.kd (mem_old hm_1281) (kd_nO (k := 5) hq_1343 hm_1281 hk_1282)
              have hn_1389 : Ln S_1356 q_292 24000 := hf_1358.ln (mem_old hm_1281) hn_1283
              have hm_1390 : q_31 ∈ hL S_1356 := hf_1358.mem (mem_old hm_1284)
              have hk_1391 : Kd S_1356 q_31 8 := hf_1358.kd (mem_old hm_1284) (kd_nO (k := 5) hq_1343 hm_1284 hk_1285)
              have hm_1392 : q_32 ∈ hL S_1356 := hf_1358.mem (mem_old hm_1286)
              have hk_1393 : Kd S_1356 q_32 14 := hf_1358.kd (mem_old hm_1286) (kd_nO (k := 5) hq_1343 hm_1286 hk_1287)
              have hn_1394 : Ln S_1356 q_32 16 := hf_1358.ln (mem_old hm_1286) hn_1288
              have hm_1395 : q_362 ∈ hL S_1356 := hf_1358.mem (mem_old hm_1289)
              have hk_1396 : Kd S_1356 q_362 14 := hf_1358.kd (mem_old hm_1289) (kd_nO (k := 5) hq_1343 hm_1289 hk_1290)
              have hn_1397 : Ln S_1356 q_362 16 := hf_1358.ln (mem_old hm_1289) hn_1291
              have hm_1398 : q_436 ∈ hL S_1356 := hf_1358.mem (mem_old hm_1292)
              have hk_1399 : Kd S_1356 q_436 1 := hf_1358.kd (mem_old hm_1292) (kd_nO (k := 5) hq_1343 hm_1292 hk_1293)
              have hm_1400 : q_5 ∈ hL S_1356 := hf_1358.mem (mem_old hm_1294)
              have hk_1401 : Kd S_1356 q_5 14 := hf_1358.kd (mem_old hm_1294) (kd_nO (k := 5) hq_1343 hm_1294 hk_1295)
              have hn_1402 : Ln S_1356 q_5 20000 := hf_1358.ln (mem_old hm_1294) hn_1296
              have hm_1403 : q_514 ∈ hL S_1356 := hf_1358.mem (mem_old hm_1297)
              have hk_1404 : Kd S_1356 q_514 1 := hf_1358.kd (mem_old hm_1297) (kd_nO (k := 5) hq_1343 hm_1297 hk_1298)
              have hm_1405 : q_596 ∈ hL S_1356 := hf_1358.mem (mem_old hm_1299)
              have hk_1406 : Kd S_1356 q_596 18 := hf_1358.kd (mem_old hm_1299) (kd_nO (k := 5) hq_1343 hm_1299 hk_1300)
              have hn_1407 : Ln S_1356 q_596 3 := hf_1358.ln (mem_old hm_1299) hn_1301
              have hm_1408 : q_68 ∈ hL S_1356 := hf_1358.mem (mem_old hm_1302)
              have hk_1409 : Kd S_1356 q_68 8 := hf_1358.kd (mem_old hm_1302) (kd_nO (k := 5) hq_1343 hm_1302 hk_1303)
              have hm_1410 : q_682 ∈ hL S_1356 := hf_1358.mem (mem_old hm_1304)
              have hk_1411 : Kd S_1356 q_682 19 := hf_1358.kd (mem_old hm_1304) (kd_nO (k := 5) hq_1343 hm_1304 hk_1305)
              have hn_1412 : Ln S_1356 q_682 4 := hf_1358.ln (mem_old hm_1304) hn_1306
              have hm_1413 : q_73 ∈ hL S_1356 := hf_1358.mem (mem_old hm_1307)
              have hk_1414 : Kd S_1356 q_73 14 := hf_1358.kd (mem_old hm_1307) (kd_nO (k := 5) hq_1343 hm_1307 hk_1308)
              have hn_1415 : Ln S_1356 q_73 16 := hf_1358.ln (mem_old hm_1307) hn_1309
              have hm_1416 : q_772 ∈ hL S_1356 := hf_1358.mem (mem_old hm_1310)
              have hk_1417 : Kd S_1356 q_772 14 := hf_1358.kd (mem_old hm_1310) (kd_nO (k := 5) hq_1343 hm_1310 hk_1311)
              have hn_1418 : Ln S_1356 q_772 12 := hf_1358.ln (mem_old hm_1310) hn_1312
              have hv_1419 : hI S_1356 1000 q_163 = 1 := hf_1358.fi (mem_old hm_1269) (fun h9 => h9) (rd_nOI (k := 5) hq_1343 hm_1269 hv_1313)
              have hv_1420 : hI S_1356 1001 q_163 = 1 := hf_1358.fi (mem_old hm_1269) (fun h9 => h9) (rd_nOI (k := 5) hq_1343 hm_1269 hv_1314)
              have hv_1421 : hI S_1356 2 q_1 = 0 := hf_1358.fi (mem_old hm_1264) (fun h9 => h9) (rd_nOI (k := 5) hq_1343 hm_1264 hv_1315)
              have hv_1422 : hI S_1356 206 q_26 = 0 := hf_1358.fi (mem_old hm_1279) (fun h9 => h9) (rd_nOI (k := 5) hq_1343 hm_1279 hv_1316)
              have hv_1423 : hI S_1356 209 q_26 = 0 := hf_1358.fi (mem_old hm_1279) (fun h9 => h9) (rd_nOI (k := 5) hq_1343 hm_1279 hv_1317)
              have hv_1424 : hI S_1356 3 q_1 = 0 := hf_1358.fi (mem_old hm_1264) (fun h9 => h9) (rd_nOI (k := 5) hq_1343 hm_1264 hv_1318)
              have hv_1425 : hI S_1356 4 q_1 = 0 := hf_1358.fi (mem_old hm_1264) (fun h9 => h9) (rd_nOI (k := 5) hq_1343 hm_1264 hv_1319)
              have hv_1426 : hI S_1356 5 q_1 = 0 := hf_1358.fi (mem_old hm_1264) (fun h9 => h9) (rd_nOI (k := 5) hq_1343 hm_1264 hv_1320)
              have hv_1427 : hR S_1356 0 q_1 = (some q_5) := hf_1358.fr (mem_old hm_1264) (fun q9 => (fun e9 => absurd (((kd_nO (k := 5) hq_1343 hm_1264 hk_1265)).symm.trans ((congrArg (hK _) e9).trans (kd_nO' (k := 5)))) (by decide)) q9) (rd_nOR (k := 5) hq_1343 hm_1264 hv_1321)
              have hv_1428 : hR S_1356 1003 q_163 = (some q_167) := hf_1358.fr (mem_old hm_1269) (fun q9 => (fun e9 => absurd (((kd_nO (k := 5) hq_1343 hm_1269 hk_1270)).symm.trans ((congrArg (hK _) e9).trans (kd_nO' (k := 5)))) (by decide)) q9) (rd_nOR (k := 5) hq_1343 hm_1269 hv_1322)
              have hv_1429 : hR S_1356 200 q_26 = (some q_31) := hf_1358.fr (mem_old hm_1279) (fun q9 => (fun e9 => absurd (((kd_nO (k := 5) hq_1343 hm_1279 hk_1280)).symm.trans ((congrArg (hK _) e9).trans (kd_nO' (k := 5)))) (by decide)) q9) (rd_nOR (k := 5) hq_1343 hm_1279 hv_1323)
              have hv_1430 : hR S_1356 800 q_223 = (some q_228) := hf_1358.fr (mem_old hm_1274) (fun q9 => (fun e9 => absurd (((kd_nO (k := 5) hq_1343 hm_1274 hk_1275)).symm.trans ((congrArg (hK _) e9).trans (kd_nO' (k := 5)))) (by decide)) q9) (rd_nOR (k := 5) hq_1343 hm_1274 hv_1324)
              have hv_1431 : hR S_1356 800 q_31 = (some q_32) := hf_1358.fr (mem_old hm_1284) (fun q9 => (fun e9 => absurd (((kd_nO (k := 5) hq_1343 hm_1284 hk_1285)).symm.trans ((congrArg (hK _) e9).trans (kd_nO' (k := 5)))) (by decide)) q9) (rd_nOR (k := 5) hq_1343 hm_1284 hv_1325)
              have hv_1432 : hR S_1356 800 q_68 = (some q_73) := hf_1358.fr (mem_old hm_1302) (fun q9 => (fun e9 => absurd (((kd_nO (k := 5) hq_1343 hm_1302 hk_1303)).symm.trans ((congrArg (hK _) e9).trans (kd_nO' (k := 5)))) (by decide)) q9) (rd_nOR (k := 5) hq_1343 hm_1302 hv_1326)
              have hv_1433 : hR S_1356 900 h = (some s0) := hf_1358.fr (mem_old hm_1262) (fun q9 => (fun e9 => absurd (((kd_nO (k := 5) hq_1343 hm_1262 hk_1263)).symm.trans ((congrArg (hK _) e9).trans (kd_nO' (k := 5)))) (by decide)) q9) (rd_nOR (k := 5) hq_1343 hm_1262 hv_1327)
              have hv_1434 : hR S_1356 901 h = (some q_1) := hf_1358.fr (mem_old hm_1262) (fun q9 => (fun e9 => absurd (((kd_nO (k := 5) hq_1343 hm_1262 hk_1263)).symm.trans ((congrArg (hK _) e9).trans (kd_nO' (k := 5)))) (by decide)) q9) (rd_nOR (k := 5) hq_1343 hm_1262 hv_1328)
              have hv_1435 : hR S_1356 902 h = (some q_26) := hf_1358.fr (mem_old hm_1262) (fun q9 => (fun e9 => absurd (((kd_nO (k := 5) hq_1343 hm_1262 hk_1263)).symm.trans ((congrArg (hK _) e9).trans (kd_nO' (k := 5)))) (by decide)) q9) (rd_nOR (k := 5) hq_1343 hm_1262 hv_1329)
              have hv_1436 : hR S_1356 903 h = (some q_68) := hf_1358.fr (mem_old hm_1262) (fun q9 => (fun e9 => absurd (((kd_nO (k := 5) hq_1343 hm_1262 hk_1263)).symm.trans ((congrArg (hK _) e9).trans (kd_nO' (k := 5)))) (by decide)) q9) (rd_nOR (k := 5) hq_1343 hm_1262 hv_1330)
              have hv_1437 : hR S_1356 904 h = (some q_115) := hf_1358.fr (mem_old hm_1262) (fun q9 => (fun e9 => absurd (((kd_nO (k := 5) hq_1343 hm_1262 hk_1263)).symm.trans ((congrArg (hK _) e9).trans (kd_nO' (k := 5)))) (by decide)) q9) (rd_nOR (k := 5) hq_1343 hm_1262 hv_1331)
              have hv_1438 : hR S_1356 905 h = (some q_163) := hf_1358.fr (mem_old hm_1262) (fun q9 => (fun e9 => absurd (((kd_nO (k := 5) hq_1343 hm_1262 hk_1263)).symm.trans ((congrArg (hK _) e9).trans (kd_nO' (k := 5)))) (by decide)) q9) (rd_nOR (k := 5) hq_1343 hm_1262 hv_1332)
              have hv_1439 : hR S_1356 906 h = (some q_223) := hf_1358.fr (mem_old hm_1262) (fun q9 => (fun e9 => absurd (((kd_nO (k := 5) hq_1343 hm_1262 hk_1263)).symm.trans ((congrArg (hK _) e9).trans (kd_nO' (k := 5)))) (by decide)) q9) (rd_nOR (k := 5) hq_1343 hm_1262 hv_1333)
              have hv_1440 : hR S_1356 907 h = (some q_292) := hf_1358.fr (mem_old hm_1262) (fun q9 => (fun e9 => absurd (((kd_nO (k := 5) hq_1343 hm_1262 hk_1263)).symm.trans ((congrArg (hK _) e9).trans (kd_nO' (k := 5)))) (by decide)) q9) (rd_nOR (k := 5) hq_1343 hm_1262 hv_1334)
              have hv_1441 : hR S_1356 908 h = (some q_362) := hf_1358.fr (mem_old hm_1262) (fun q9 => (fun e9 => absurd (((kd_nO (k := 5) hq_1343 hm_1262 hk_1263)).symm.trans ((congrArg (hK _) e9).trans (kd_nO' (k := 5)))) (by decide)) q9) (rd_nOR (k := 5) hq_1343 hm_1262 hv_1335)
              have hv_1442 : hR S_1356 909 h = (some q_436) := hf_1358.fr (mem_old hm_1262) (fun q9 => (fun e9 => absurd (((kd_nO (k := 5) hq_1343 hm_1262 hk_1263)).symm.trans ((congrArg (hK _) e9).trans (kd_nO' (k := 5)))) (by decide)) q9) (rd_nOR (k := 5) hq_1343 hm_1262 hv_1336)
              have hv_1443 : hR S_1356 910 h = (some q_514) := hf_1358.fr (mem_old hm_1262) (fun q9 => (fun e9 => absurd (((kd_nO (k := 5) hq_1343 hm_1262 hk_1263)).symm.trans ((congrArg (hK _) e9).trans (kd_nO' (k := 5)))) (by decide)) q9) (rd_nOR (k := 5) hq_1343 hm_1262 hv_1337)
              have hv_1444 : hR S_1356 911 h = (some q_596) := hf_1358.fr (mem_old hm_1262) (fun q9 => (fun e9 => absurd (((kd_nO (k := 5) hq_1343 hm_1262 hk_1263)).symm.trans ((congrArg (hK _) e9).trans (kd_nO' (k := 5)))) (by decide)) q9) (rd_nOR (k := 5) hq_1343 hm_1262 hv_1338)
              have hv_1445 : hR S_1356 912 h = (some q_682) := hf_1358.fr (mem_old hm_1262) (fun q9 => (fun e9 => absurd (((kd_nO (k := 5) hq_1343 hm_1262 hk_1263)).symm.trans ((congrArg (hK _) e9).trans (kd_nO' (k := 5)))) (by decide)) q9) (rd_nOR (k := 5) hq_1343 hm_1262 hv_1339)
              have hv_1446 : hR S_1356 917 h = (some q_772) := hf_1358.fr (mem_old hm_1262) (fun q9 => (fun e9 => absurd (((kd_nO (k := 5) hq_1343 hm_1262 hk_1263)).symm.trans ((congrArg (hK _) e9).trans (kd_nO' (k := 5)))) (by decide)) q9) (rd_nOR (k := 5) hq_1343 hm_1262 hv_1340)
              have hf_1447 : Fm (fun _ _ => False) (fun f9 b9 => b9 = h) (fun _ => False) S S_1356 := hf_1346.then hf_1358 (fun a9 ha9 => ⟨(fun f9 h9 => h9.elim), (fun f9 h9 => (fun h8 => absurd (h8 ▸ ha9) hz_1344) h9), (fun h9 => h9.elim)⟩)
              have hf_1448 : Fm (fun _ _ => False) (fun _ _ => False) (fun b9 => b9 = q_682) S_964 S_1356 := hf_1347.then hf_1358 (fun a9 ha9 => ⟨(fun f9 h9 => h9.elim), (fun f9 h9 => (fun h8 => absurd (h8 ▸ ha9) hz_1345) h9), (fun h9 => h9.elim)⟩)
              have hz_1449 : q_1348 ∉ hL S := fun h9 => e_1349 (hf_1346.mem h9)
              have hz_1450 : q_1348 ∉ hL S_964 := fun h9 => e_1349 (hf_1347.mem h9)
              refine j_aast (j := i3) (ci := 5) C 19  (by decide) rfl dX9_init_219 hm_1410 hk_1411 (inr_of (n := 4) hn_1412 (vp_in_nI (by omega) (by omega))) (nI_clamp (by omega)) hm_1373 hk_1374 rfl ?_
              refine j_iinc (q := 0) (v := nI (i3 + 1)) (lv' := [(2, .int (nI (i3 + 1))), (0, .ref h), (1, .ref s0)]) C dX9_init_220 rfl (by rw [show Int32.ofInt 1 = 1 by decide]; exact nI_add i3 1) (by rw [hn9]; decide) rfl ?_
              refine j_goto (tgt := 198) C dX9_init_223 (by decide) ?_
              refine J.sub [0, 1, 2] (lv' := [(2, .int (nI (i3 + 1))), (0, .ref h), (1, .ref s0)]) (by rfl) ?_
              refine J.widen (k' := ((0 + 1 + 4 + 1 + 8 + 1 + 1 + 1 + 1 + 1 + 1 + 1 + 1 + 1 + 1 + 8 + 1 + 8 + 1 + 1 + 1 + 2 * i1) + 9 * i2) + 2 * (i3 + 1)) (n' := ((0 + 15 + 20045 + 10 + 23174 + 1 + 16 + 16 + 4 + 16 + 1 + 16 + 24000 + 16 + 21 + 117 + 21 + 117 + 3 + 4 + 12 + 20 * i1) + 138 * i2) + 13 * (i3 + 1)) (by omega) (by omega) ?_
              exact ih_1060 (i3 + 1) _  (by omega) (hf_1448.tR _ _ (fun _ => rfl)) 
          refine J.sub [0, 1, 2] (lv' := [(2, .int (nI 0)), (0, .ref h), (1, .ref s0)]) (by rw [nI_0]; rfl) ?_
          refine J.widen (k' := ((0 + 1 + 4 + 1 + 8 + 1 + 1 + 1 + 1 + 1 + 1 + 1 + 1 + 1 + 1 + 8 + 1 + 8 + 1 + 1 + 1 + 2 * i1) + 9 * i2) + 2 * 0) (n' := ((0 + 15 + 20045 + 10 + 23174 + 1 + 16 + 16 + 4 + 16 + 1 + 16 + 24000 + 16 + 21 + 117 + 21 + 117 + 3 + 4 + 12 + 20 * i1) + 138 * i2) + 13 * 0) (by omega) (by omega) ?_
          exact loop_1061 4 0 _  (by omega) Fm.refl 
        | succ m9 ih_966 =>
          intro i2 S_964  hi_968 hl_965 
          have hz_1451 : ∀ j, aI S_964 q_228 j = 0 := fun j9 => (hl_965.ai hm_897 (fun q9 => (fun e9 => absurd ((hk_898).symm.trans ((congrArg (hK _) e9).trans hk_921)) (by decide)) q9) j9).trans (hz_874 j9)
          have hz_1452 : ∀ j, aI S_964 q_292 j = 0 := fun j9 => (hl_965.ai hm_902 (fun q9 => (fun e9 => absurd ((hk_903).symm.trans ((congrArg (hK _) e9).trans hk_921)) (by decide)) q9) j9).trans (hz_875 j9)
          have hz_1453 : ∀ j, aI S_964 q_32 j = 0 := fun j9 => (hl_965.ai hm_907 (fun q9 => (fun e9 => absurd ((hk_908).symm.trans ((congrArg (hK _) e9).trans hk_921)) (by decide)) q9) j9).trans (hz_876 j9)
          have hz_1454 : ∀ j, aI S_964 q_362 j = 0 := fun j9 => (hl_965.ai hm_910 (fun q9 => (fun e9 => absurd ((hk_911).symm.trans ((congrArg (hK _) e9).trans hk_921)) (by decide)) q9) j9).trans (hz_877 j9)
          have hz_1455 : ∀ j, aI S_964 q_5 j = 0 := fun j9 => (hl_965.ai hm_915 (fun q9 => (fun e9 => absurd ((hk_916).symm.trans ((congrArg (hK _) e9).trans hk_921)) (by decide)) q9) j9).trans (hz_878 j9)
          have hz_1456 : ∀ j, aI S_964 q_682 j = 0 := fun j9 => (hl_965.ai hm_925 (fun q9 => (fun e9 => absurd ((hk_926).symm.trans ((congrArg (hK _) e9).trans hk_921)) (by decide)) q9) j9).trans (hz_880 j9)
          have hz_1457 : ∀ j, aI S_964 q_73 j = 0 := fun j9 => (hl_965.ai hm_928 (fun q9 => (fun e9 => absurd ((hk_929).symm.trans ((congrArg (hK _) e9).trans hk_921)) (by decide)) q9) j9).trans (hz_881 j9)
          have hz_1458 : ∀ j, aI S_964 q_772 j = 0 := fun j9 => (hl_965.ai hm_931 (fun q9 => (fun e9 => absurd ((hk_932).symm.trans ((congrArg (hK _) e9).trans hk_921)) (by decide)) q9) j9).trans (hz_882 j9)
          have hm_1459 : h ∈ hL S_964 := hl_965.mem hm_883
          have hk_1460 : Kd S_964 h 9 := hl_965.kd hm_883 hk_884
          have hm_1461 : q_1 ∈ hL S_964 := hl_965.mem hm_885
          have hk_1462 : Kd S_964 q_1 0 := hl_965.kd hm_885 hk_886
          have hm_1463 : q_115 ∈ hL S_964 := hl_965.mem hm_887
          have hk_1464 : Kd S_964 q_115 20 := hl_965.kd hm_887 hk_888
          have hn_1465 : Ln S_964 q_115 16 := hl_965.ln hm_887 hn_889
          have hm_1466 : q_163 ∈ hL S_964 := hl_965.mem hm_890
          have hk_1467 : Kd S_964 q_163 10 := hl_965.kd hm_890 hk_891
          have hm_1468 : q_167 ∈ hL S_964 := hl_965.mem hm_892
          have hk_1469 : Kd S_964 q_167 15 := hl_965.kd hm_892 hk_893
          have hn_1470 : Ln S_964 q_167 16 := hl_965.ln hm_892 hn_894
          have hm_1471 : q_223 ∈ hL S_964 := hl_965.mem hm_895
          have hk_1472 : Kd S_964 q_223 8 := hl_965.kd hm_895 hk_896
          have hm_1473 : q_228 ∈ hL S_964 := hl_965.mem hm_897
          have hk_1474 : Kd S_964 q_228 14 := hl_965.kd hm_897 hk_898
          have hn_1475 : Ln S_964 q_228 16 := hl_965.ln hm_897 hn_899
          have hm_1476 : q_26 ∈ hL S_964 := hl_965.mem hm_900
          have hk_1477 : Kd S_964 q_26 2 := hl_965.kd hm_900 hk_901
          have hm_1478 : q_292 ∈ hL S_964 := hl_965.mem hm_902
          have hk_1479 : Kd S_964 q_292 13 := hl_965.kd hm_902 hk_903
          have hn_1480 : Ln S_964 q_292 24000 := hl_965.ln hm_902 hn_904
          have hm_1481 : q_31 ∈ hL S_964 := hl_965.mem hm_905
          have hk_1482 : Kd S_964 q_31 8 := hl_965.kd hm_905 hk_906
          have hm_1483 : q_32 ∈ hL S_964 := hl_965.mem hm_907
          have hk_1484 : Kd S_964 q_32 14 := hl_965.kd hm_907 hk_908
          have hn_1485 : Ln S_964 q_32 16 := hl_965.ln hm_907 hn_909
          have hm_1486 : q_362 ∈ hL S_964 := hl_965.mem hm_910
          have hk_1487 : Kd S_964 q_362 14 := hl_965.kd hm_910 hk_911
          have hn_1488 : Ln S_964 q_362 16 := hl_965.ln hm_910 hn_912
          have hm_1489 : q_436 ∈ hL S_964 := hl_965.mem hm_913
          have hk_1490 : Kd S_964 q_436 1 := hl_965.kd hm_913 hk_914
          have hm_1491 : q_5 ∈ hL S_964 := hl_965.mem hm_915
          have hk_1492 : Kd S_964 q_5 14 := hl_965.kd hm_915 hk_916
          have hn_1493 : Ln S_964 q_5 20000 := hl_965.ln hm_915 hn_917
          have hm_1494 : q_514 ∈ hL S_964 := hl_965.mem hm_918
          have hk_1495 : Kd S_964 q_514 1 := hl_965.kd hm_918 hk_919
          have hm_1496 : q_596 ∈ hL S_964 := hl_965.mem hm_920
          have hk_1497 : Kd S_964 q_596 18 := hl_965.kd hm_920 hk_921
          have hn_1498 : Ln S_964 q_596 3 := hl_965.ln hm_920 hn_922
          have hm_1499 : q_68 ∈ hL S_964 := hl_965.mem hm_923
          have hk_1500 : Kd S_964 q_68 8 := hl_965.kd hm_923 hk_924
          have hm_1501 : q_682 ∈ hL S_964 := hl_965.mem hm_925
          have hk_1502 : Kd S_964 q_682 19 := hl_965.kd hm_925 hk_926
          have hn_1503 : Ln S_964 q_682 4 := hl_965.ln hm_925 hn_927
          have hm_1504 : q_73 ∈ hL S_964 := hl_965.mem hm_928
          have hk_1505 : Kd S_964 q_73 14 := hl_965.kd hm_928 hk_929
          have hn_1506 : Ln S_964 q_73 16 := hl_965.ln hm_928 hn_930
          have hm_1507 : q_772 ∈ hL S_964 := hl_965.mem hm_931
          have hk_1508 : Kd S_964 q_772 14 := hl_965.kd hm_931 hk_932
          have hn_1509 : Ln S_964 q_772 12 := hl_965.ln hm_931 hn_933
          have hv_1510 : hI S_964 1000 q_163 = 1 := hl_965.fi hm_890 (fun h9 => h9) hv_934
          have hv_1511 : hI S_964 1001 q_163 = 1 := hl_965.fi hm_890 (fun h9 => h9) hv_935
          have hv_1512 : hI S_964 2 q_1 = 0 := hl_965.fi hm_885 (fun h9 => h9) hv_936
          have hv_1513 : hI S_964 206 q_26 = 0 := hl_965.fi hm_900 (fun h9 => h9) hv_937
          have hv_1514 : hI S_964 209 q_26 = 0 := hl_965.fi hm_900 (fun h9 => h9) hv_938
          have hv_1515 : hI S_964 3 q_1 = 0 := hl_965.fi hm_885 (fun h9 => h9) hv_939
          have hv_1516 : hI S_964 4 q_1 = 0 := hl_965.fi hm_885 (fun h9 => h9) hv_940
          have hv_1517 : hI S_964 5 q_1 = 0 := hl_965.fi hm_885 (fun h9 => h9) hv_941
          have hv_1518 : hR S_964 0 q_1 = (some q_5) := hl_965.fr hm_885 (fun h9 => h9) hv_942
          have hv_1519 : hR S_964 1003 q_163 = (some q_167) := hl_965.fr hm_890 (fun h9 => h9) hv_943
          have hv_1520 : hR S_964 200 q_26 = (some q_31) := hl_965.fr hm_900 (fun h9 => h9) hv_944
          have hv_1521 : hR S_964 800 q_223 = (some q_228) := hl_965.fr hm_895 (fun h9 => h9) hv_945
          have hv_1522 : hR S_964 800 q_31 = (some q_32) := hl_965.fr hm_905 (fun h9 => h9) hv_946
          have hv_1523 : hR S_964 800 q_68 = (some q_73) := hl_965.fr hm_923 (fun h9 => h9) hv_947
          have hv_1524 : hR S_964 900 h = (some s0) := hl_965.fr hm_883 (fun h9 => h9) hv_948
          have hv_1525 : hR S_964 901 h = (some q_1) := hl_965.fr hm_883 (fun h9 => h9) hv_949
          have hv_1526 : hR S_964 902 h = (some q_26) := hl_965.fr hm_883 (fun h9 => h9) hv_950
          have hv_1527 : hR S_964 903 h = (some q_68) := hl_965.fr hm_883 (fun h9 => h9) hv_951
          have hv_1528 : hR S_964 904 h = (some q_115) := hl_965.fr hm_883 (fun h9 => h9) hv_952
          have hv_1529 : hR S_964 905 h = (some q_163) := hl_965.fr hm_883 (fun h9 => h9) hv_953
          have hv_1530 : hR S_964 906 h = (some q_223) := hl_965.fr hm_883 (fun h9 => h9) hv_954
          have hv_1531 : hR S_964 907 h = (some q_292) := hl_965.fr hm_883 (fun h9 => h9) hv_955
          have hv_1532 : hR S_964 908 h = (some q_362) := hl_965.fr hm_883 (fun h9 => h9) hv_956
          have hv_1533 : hR S_964 909 h = (some q_436) := hl_965.fr hm_883 (fun h9 => h9) hv_957
          have hv_1534 : hR S_964 910 h = (some q_514) := hl_965.fr hm_883 (fun h9 => h9) hv_958
          have hv_1535 : hR S_964 911 h = (some q_596) := hl_965.fr hm_883 (fun h9 => h9) hv_959
          have hv_1536 : hR S_964 912 h = (some q_682) := hl_965.fr hm_883 (fun h9 => h9) hv_960
          have hv_1537 : hR S_964 917 h = (some q_772) := hl_965.fr hm_883 (fun h9 => h9) hv_961
          have hf_1538 : Fm (fun _ _ => False) (fun f9 b9 => b9 = h) (fun _ => False) S S_964 := hf_962.then hl_965 (fun a9 ha9 => ⟨(fun f9 h9 => h9.elim), (fun f9 h9 => h9.elim), (fun h9 => (fun h8 => absurd (h8 ▸ ha9) hz_599) h9)⟩)
          refine j_iload_n C dX9_init_168 rfl 0 rfl ?_
          refine j_aload_n C dX9_init_169 rfl 1 rfl ?_
          refine j_getr (f := 911) (v := q_596) C flX9_64 dX9_init_170 hm_1459 hk_1460 (by decide) rfl hv_1535 ?_
          refine j_alen (v := 3) C dX9_init_173 hm_1496 hk_1497 (by decide) (by decide) (len_of (n := 3) hn_1498 (by decide)) ?_
          refine j_ic_ge (tgt := 196) C dX9_init_174 (by decide) (fun c_174 => absurd c_174 (nI_ge (b := 3) (by omega) (by omega))) (fun c_174 => ?_)
          show J _ _ _ _ _ 177 _
          refine j_aload_n C dX9_init_177 rfl 1 rfl ?_
          refine j_getr (f := 911) (v := q_596) C flX9_64 dX9_init_178 hm_1459 hk_1460 (by decide) rfl hv_1535 ?_
          refine j_iload_n C dX9_init_181 rfl 0 rfl ?_
          refine j_new (N := 21) C (ci := 1) rfl rfl klX9_54 knX1 kiX1 (M.cells (by omega)) (M.slots (by omega)) dX9_init_182 (fun q_1539 hq_1540 => ?_)
          have hz_1541 : q_1539 ∉ hL S := fun h9 => hq_1540 (hf_1538.mem h9)
          have hz_1542 : q_1539 ∉ hL S_869 := fun h9 => hq_1540 (hl_965.mem h9)
          refine j_dup C dX9_init_185 rfl ?_
          have hf_1543 : Fm (fun _ _ => False) (fun f9 b9 => b9 = h) (fun _ => False) S (nO S_964 q_1539 1) := (hf_1538.nO _ hq_1540)
          have hf_1544 : Fm (fun _ _ => False) (fun _ _ => False) (fun b9 => b9 = q_596) S_869 (nO S_964 q_1539 1) := (hl_965.nO _ hq_1540)
          refine j_callI C [] [.ref q_1539, .int (nI i2), .ref q_596] mlX9_56 mcX1_init (c_X1_init (nO S_964 q_1539 1) q_1539 mem_new (kd_nO' (k := 1))) (M.rm (by decide) (by decide) (by omega) (by omega)) rfl rfl (Nat.le_of_ble_eq_true rfl) dX9_init_186 (fun r_1545 S_1546 hp_1547 => ?_)
          obtain ⟨rfl, hf_1548⟩ := hp_1547
          refine J.eq (st' := [.ref q_1539, .int (nI i2), .ref q_596]) rfl rfl rfl ?_
          have hz_1549 : ∀ j, aI S_1546 q_228 j = 0 := fun j9 => (hf_1548.ai (mem_old hm_1473) (fun h9 => h9) j9).trans (hz_1451 j9)
          have hz_1550 : ∀ j, aI S_1546 q_292 j = 0 := fun j9 => (hf_1548.ai (mem_old hm_1478) (fun h9 => h9) j9).trans (hz_1452 j9)
          have hz_1551 : ∀ j, aI S_1546 q_32 j = 0 := fun j9 => (hf_1548.ai (mem_old hm_1483) (fun h9 => h9) j9).trans (hz_1453 j9)
          have hz_1552 : ∀ j, aI S_1546 q_362 j = 0 := fun j9 => (hf_1548.ai (mem_old hm_1486) (fun h9 => h9) j9).trans (hz_1454 j9)
          have hz_1553 : ∀ j, aI S_1546 q_5 j = 0 := fun j9 => (hf_1548.ai (mem_old hm_1491) (fun h9 => h9) j9).trans (hz_1455 j9)
          have hz_1554 : ∀ j, aI S_1546 q_682 j = 0 := fun j9 => (hf_1548.ai (mem_old hm_1501) (fun h9 => h9) j9).trans (hz_1456 j9)
          have hz_1555 : ∀ j, aI S_1546 q_73 j = 0 := fun j9 => (hf_1548.ai (mem_old hm_1504) (fun h9 => h9) j9).trans (hz_1457 j9)
          have hz_1556 : ∀ j, aI S_1546 q_772 j = 0 := fun j9 => (hf_1548.ai (mem_old hm_1507) (fun h9 => h9) j9).trans (hz_1458 j9)
          have hm_1557 : h ∈ hL S_1546 := hf_1548.mem (mem_old hm_1459)
          have hk_1558 : Kd S_1546 h 9 := hf_1548.kd (mem_old hm_1459) (kd_nO (k := 1) hq_1540 hm_1459 hk_1460)
          have hm_1559 : q_1 ∈ hL S_1546 := hf_1548.mem (mem_old hm_1461)
          have hk_1560 : Kd S_1546 q_1 0 := hf_1548.kd (mem_old hm_1461) (kd_nO (k := 1) hq_1540 hm_1461 hk_1462)
          have hm_1561 : q_115 ∈ hL S_1546 := hf_1548.mem (mem_old hm_1463)
          have hk_1562 : Kd S_1546 q_115 20 := hf_1548.kd (mem_old hm_1463) (kd_nO (k := 1) hq_1540 hm_1463 hk_1464)
          have hn_1563 : Ln S_1546 q_115 16 := hf_1548.ln (mem_old hm_1463) hn_1465
          have hm_1564 : q_1539 ∈ hL S_1546 := hf_1548.mem mem_new
          have hk_1565 : Kd S_1546 q_1539 1 := hf_1548.kd mem_new (kd_nO' (k := 1))
          have hm_1566 : q_163 ∈ hL S_1546 := hf_1548.mem (mem_old hm_1466)
          have hk_1567 : Kd S_1546 q_163 10 := hf_1548.kd (mem_old hm_1466) (kd_nO (k := 1) hq_1540 hm_1466 hk_1467)
          have hm_1568 : q_167 ∈ hL S_1546 := hf_1548.mem (mem_old hm_1468)
          have hk_1569 : Kd S_1546 q_167 15 := hf_1548.kd (mem_old hm_1468) (kd_nO (k := 1) hq_1540 hm_1468 hk_1469)
          have hn_1570 : Ln S_1546 q_167 16 := hf_1548.ln (mem_old hm_1468) hn_1470
          have hm_1571 : q_223 ∈ hL S_1546 := hf_1548.mem (mem_old hm_1471)
          have hk_1572 : Kd S_1546 q_223 8 := hf_1548.kd (mem_old hm_1471) (kd_nO (k := 1) hq_1540 hm_1471 hk_1472)
          have hm_1573 : q_228 ∈ hL S_1546 := hf_1548.mem (mem_old hm_1473)
          have hk_1574 : Kd S_1546 q_228 14 := hf_1548.kd (mem_old hm_1473) (kd_nO (k := 1) hq_1540 hm_1473 hk_1474)
          have hn_1575 : Ln S_1546 q_228 16 := hf_1548.ln (mem_old hm_1473) hn_1475
          have hm_1576 : q_26 ∈ hL S_1546 := hf_1548.mem (mem_old hm_1476)
          have hk_1577 : Kd S_1546 q_26 2 := hf_1548.kd (mem_old hm_1476) (kd_nO (k := 1) hq_1540 hm_1476 hk_1477)
          have hm_1578 : q_292 ∈ hL S_1546 := hf_1548.mem (mem_old hm_1478)
          have hk_1579 : Kd S_1546 q_292 13 := hf_1548.kd (mem_old hm_1478) (kd_nO (k := 1) hq_1540 hm_1478 hk_1479)
          have hn_1580 : Ln S_1546 q_292 24000 := hf_1548.ln (mem_old hm_1478) hn_1480
          have hm_1581 : q_31 ∈ hL S_1546 := hf_1548.mem (mem_old hm_1481)
          have hk_1582 : Kd S_1546 q_31 8 := hf_1548.kd (mem_old hm_1481) (kd_nO (k := 1) hq_1540 hm_1481 hk_1482)
          have hm_1583 : q_32 ∈ hL S_1546 := hf_1548.mem (mem_old hm_1483)
          have hk_1584 : Kd S_1546 q_32 14 := hf_1548.kd (mem_old hm_1483) (kd_nO (k := 1) hq_1540 hm_1483 hk_1484)
          have hn_1585 : Ln S_1546 q_32 16 := hf_1548.ln (mem_old hm_1483) hn_1485
          have hm_1586 : q_362 ∈ hL S_1546 := hf_1548.mem (mem_old hm_1486)
          have hk_1587 : Kd S_1546 q_362 14 := hf_1548.kd (mem_old hm_1486) (kd_nO (k := 1) hq_1540 hm_1486 hk_1487)
          have hn_1588 : Ln S_1546 q_362 16 := hf_1548.ln (mem_old hm_1486) hn_1488
          have hm_1589 : q_436 ∈ hL S_1546 := hf_1548.mem (mem_old hm_1489)
          have hk_1590 : Kd S_1546 q_436 1 := hf_1548.kd (mem_old hm_1489) (kd_nO (k := 1) hq_1540 hm_1489 hk_1490)
          have hm_1591 : q_5 ∈ hL S_1546 := hf_1548.mem (mem_old hm_1491)
          have hk_1592 : Kd S_1546 q_5 14 := hf_1548.kd (mem_old hm_1491) (kd_nO (k := 1) hq_1540 hm_1491 hk_1492)
          have hn_1593 : Ln S_1546 q_5 20000 := hf_1548.ln (mem_old hm_1491) hn_1493
          have hm_1594 : q_514 ∈ hL S_1546 := hf_1548.mem (mem_old hm_1494)
          have hk_1595 : Kd S_1546 q_514 1 := hf_1548.kd (mem_old hm_1494) (kd_nO (k := 1) hq_1540 hm_1494 hk_1495)
          have hm_1596 : q_596 ∈ hL S_1546 := hf_1548.mem (mem_old hm_1496)
          have hk_1597 : Kd S_1546 q_596 18 := hf_1548.kd (mem_old hm_1496) (kd_nO (k := 1) hq_1540 hm_1496 hk_1497)
          have hn_1598 : Ln S_1546 q_596 3 := hf_1548.ln (mem_old hm_1496) hn_1498
          have hm_1599 : q_68 ∈ hL S_1546 := hf_1548.mem (mem_old hm_1499)
          have hk_1600 : Kd S_1546 q_68 8 := hf_1548.kd (mem_old hm_1499) (kd_nO (k := 1) hq_1540 hm_1499 hk_1500)
          have hm_1601 : q_682 ∈ hL S_1546 := hf_1548.mem (mem_old hm_1501)
          have hk_1602 : Kd S_1546 q_682 19 := hf_1548.kd (mem_old hm_1501) (kd_nO (k := 1) hq_1540 hm_1501 hk_1502)
          have hn_1603 : Ln S_1546 q_682 4 := hf_1548.ln (mem_old hm_1501) hn_1503
          have hm_1604 : q_73 ∈ hL S_1546 := hf_1548.mem (mem_old hm_1504)
          have hk_1605 : Kd S_1546 q_73 14 := hf_1548.kd (mem_old hm_1504) (kd_nO (k := 1) hq_1540 hm_1504 hk_1505)
          have hn_1606 : Ln S_1546 q_73 16 := hf_1548.ln (mem_old hm_1504) hn_1506
          have hm_1607 : q_772 ∈ hL S_1546 := hf_1548.mem (mem_old hm_1507)
          have hk_1608 : Kd S_1546 q_772 14 := hf_1548.kd (mem_old hm_1507) (kd_nO (k := 1) hq_1540 hm_1507 hk_1508)
          have hn_1609 : Ln S_1546 q_772 12 := hf_1548.ln (mem_old hm_1507) hn_1509
          have hv_1610 : hI S_1546 1000 q_163 = 1 := hf_1548.fi (mem_old hm_1466) (fun h9 => h9) (rd_nOI (k := 1) hq_1540 hm_1466 hv_1510)
          have hv_1611 : hI S_1546 1001 q_163 = 1 := hf_1548.fi (mem_old hm_1466) (fun h9 => h9) (rd_nOI (k := 1) hq_1540 hm_1466 hv_1511)
          have hv_1612 : hI S_1546 2 q_1 = 0 := hf_1548.fi (mem_old hm_1461) (fun h9 => h9) (rd_nOI (k := 1) hq_1540 hm_1461 hv_1512)
          have hv_1613 : hI S_1546 206 q_26 = 0 := hf_1548.fi (mem_old hm_1476) (fun h9 => h9) (rd_nOI (k := 1) hq_1540 hm_1476 hv_1513)
          have hv_1614 : hI S_1546 209 q_26 = 0 := hf_1548.fi (mem_old hm_1476) (fun h9 => h9) (rd_nOI (k := 1) hq_1540 hm_1476 hv_1514)
          have hv_1615 : hI S_1546 3 q_1 = 0 := hf_1548.fi (mem_old hm_1461) (fun h9 => h9) (rd_nOI (k := 1) hq_1540 hm_1461 hv_1515)
          have hv_1616 : hI S_1546 4 q_1 = 0 := hf_1548.fi (mem_old hm_1461) (fun h9 => h9) (rd_nOI (k := 1) hq_1540 hm_1461 hv_1516)
          have hv_1617 : hI S_1546 5 q_1 = 0 := hf_1548.fi (mem_old hm_1461) (fun h9 => h9) (rd_nOI (k := 1) hq_1540 hm_1461 hv_1517)
          have hv_1618 : hR S_1546 0 q_1 = (some q_5) := hf_1548.fr (mem_old hm_1461) (fun q9 => (fun e9 => absurd (((kd_nO (k := 1) hq_1540 hm_1461 hk_1462)).symm.trans ((congrArg (hK _) e9).trans (kd_nO' (k := 1)))) (by decide)) q9) (rd_nOR (k := 1) hq_1540 hm_1461 hv_1518)
          have hv_1619 : hR S_1546 1003 q_163 = (some q_167) := hf_1548.fr (mem_old hm_1466) (fun q9 => (fun e9 => absurd (((kd_nO (k := 1) hq_1540 hm_1466 hk_1467)).symm.trans ((congrArg (hK _) e9).trans (kd_nO' (k := 1)))) (by decide)) q9) (rd_nOR (k := 1) hq_1540 hm_1466 hv_1519)
          have hv_1620 : hR S_1546 200 q_26 = (some q_31) := hf_1548.fr (mem_old hm_1476) (fun q9 => (fun e9 => absurd (((kd_nO (k := 1) hq_1540 hm_1476 hk_1477)).symm.trans ((congrArg (hK _) e9).trans (kd_nO' (k := 1)))) (by decide)) q9) (rd_nOR (k := 1) hq_1540 hm_1476 hv_1520)
          have hv_1621 : hR S_1546 800 q_223 = (some q_228) := hf_1548.fr (mem_old hm_1471) (fun q9 => (fun e9 => absurd (((kd_nO (k := 1) hq_1540 hm_1471 hk_1472)).symm.trans ((congrArg (hK _) e9).trans (kd_nO' (k := 1)))) (by decide)) q9) (rd_nOR (k := 1) hq_1540 hm_1471 hv_1521)
          have hv_1622 : hR S_1546 800 q_31 = (some q_32) := hf_1548.fr (mem_old hm_1481) (fun q9 => (fun e9 => absurd (((kd_nO (k := 1) hq_1540 hm_1481 hk_1482)).symm.trans ((congrArg (hK _) e9).trans (kd_nO' (k := 1)))) (by decide)) q9) (rd_nOR (k := 1) hq_1540 hm_1481 hv_1522)
          have hv_1623 : hR S_1546 800 q_68 = (some q_73) := hf_1548.fr (mem_old hm_1499) (fun q9 => (fun e9 => absurd (((kd_nO (k := 1) hq_1540 hm_1499 hk_1500)).symm.trans ((congrArg (hK _) e9).trans (kd_nO' (k := 1)))) (by decide)) q9) (rd_nOR (k := 1) hq_1540 hm_1499 hv_1523)
          have hv_1624 : hR S_1546 900 h = (some s0) := hf_1548.fr (mem_old hm_1459) (fun q9 => (fun e9 => absurd (((kd_nO (k := 1) hq_1540 hm_1459 hk_1460)).symm.trans ((congrArg (hK _) e9).trans (kd_nO' (k := 1)))) (by decide)) q9) (rd_nOR (k := 1) hq_1540 hm_1459 hv_1524)
          have hv_1625 : hR S_1546 901 h = (some q_1) := hf_1548.fr (mem_old hm_1459) (fun q9 => (fun e9 => absurd (((kd_nO (k := 1) hq_1540 hm_1459 hk_1460)).symm.trans ((congrArg (hK _) e9).trans (kd_nO' (k := 1)))) (by decide)) q9) (rd_nOR (k := 1) hq_1540 hm_1459 hv_1525)
          have hv_1626 : hR S_1546 902 h = (some q_26) := hf_1548.fr (mem_old hm_1459) (fun q9 => (fun e9 => absurd (((kd_nO (k := 1) hq_1540 hm_1459 hk_1460)).symm.trans ((congrArg (hK _) e9).trans (kd_nO' (k := 1)))) (by decide)) q9) (rd_nOR (k := 1) hq_1540 hm_1459 hv_1526)
          have hv_1627 : hR S_1546 903 h = (some q_68) := hf_1548.fr (mem_old hm_1459) (fun q9 => (fun e9 => absurd (((kd_nO (k := 1) hq_1540 hm_1459 hk_1460)).symm.trans ((congrArg (hK _) e9).trans (kd_nO' (k := 1)))) (by decide)) q9) (rd_nOR (k := 1) hq_1540 hm_1459 hv_1527)
          have hv_1628 : hR S_1546 904 h = (some q_115) := hf_1548.fr (mem_old hm_1459) (fun q9 => (fun e9 => absurd (((kd_nO (k := 1) hq_1540 hm_1459 hk_1460)).symm.trans ((congrArg (hK _) e9).trans (kd_nO' (k := 1)))) (by decide)) q9) (rd_nOR (k := 1) hq_1540 hm_1459 hv_1528)
          have hv_1629 : hR S_1546 905 h = (some q_163) := hf_1548.fr (mem_old hm_1459) (fun q9 => (fun e9 => absurd (((kd_nO (k := 1) hq_1540 hm_1459 hk_1460)).symm.trans ((congrArg (hK _) e9).trans (kd_nO' (k := 1)))) (by decide)) q9) (rd_nOR (k := 1) hq_1540 hm_1459 hv_1529)
          have hv_1630 : hR S_1546 906 h = (some q_223) := hf_1548.fr (mem_old hm_1459) (fun q9 => (fun e9 => absurd (((kd_nO (k := 1) hq_1540 hm_1459 hk_1460)).symm.trans ((congrArg (hK _) e9).trans (kd_nO' (k := 1)))) (by decide)) q9) (rd_nOR (k := 1) hq_1540 hm_1459 hv_1530)
          have hv_1631 : hR S_1546 907 h = (some q_292) := hf_1548.fr (mem_old hm_1459) (fun q9 => (fun e9 => absurd (((kd_nO (k := 1) hq_1540 hm_1459 hk_1460)).symm.trans ((congrArg (hK _) e9).trans (kd_nO' (k := 1)))) (by decide)) q9) (rd_nOR (k := 1) hq_1540 hm_1459 hv_1531)
          have hv_1632 : hR S_1546 908 h = (some q_362) := hf_1548.fr (mem_old hm_1459) (fun q9 => (fun e9 => absurd (((kd_nO (k := 1) hq_1540 hm_1459 hk_1460)).symm.trans ((congrArg (hK _) e9).trans (kd_nO' (k := 1)))) (by decide)) q9) (rd_nOR (k := 1) hq_1540 hm_1459 hv_1532)
          have hv_1633 : hR S_1546 909 h = (some q_436) := hf_1548.fr (mem_old hm_1459) (fun q9 => (fun e9 => absurd (((kd_nO (k := 1) hq_1540 hm_1459 hk_1460)).symm.trans ((congrArg (hK _) e9).trans (kd_nO' (k := 1)))) (by decide)) q9) (rd_nOR (k := 1) hq_1540 hm_1459 hv_1533)
          have hv_1634 : hR S_1546 910 h = (some q_514) := hf_1548.fr (mem_old hm_1459) (fun q9 => (fun e9 => absurd (((kd_nO (k := 1) hq_1540 hm_1459 hk_1460)).symm.trans ((congrArg (hK _) e9).trans (kd_nO' (k := 1)))) (by decide)) q9) (rd_nOR (k := 1) hq_1540 hm_1459 hv_1534)
          have hv_1635 : hR S_1546 911 h = (some q_596) := hf_1548.fr (mem_old hm_1459) (fun q9 => (fun e9 => absurd (((kd_nO (k := 1) hq_1540 hm_1459 hk_1460)).symm.trans ((congrArg (hK _) e9).trans (kd_nO' (k := 1)))) (by decide)) q9) (rd_nOR (k := 1) hq_1540 hm_1459 hv_1535)
          have hv_1636 : hR S_1546 912 h = (some q_682) := hf_1548.fr (mem_old hm_1459) (fun q9 => (fun e9 => absurd (((kd_nO (k := 1) hq_1540 hm_1459 hk_1460)).symm.trans ((congrArg (hK _) e9).trans (kd_nO' (k := 1)))) (by decide)) q9) (rd_nOR (k := 1) hq_1540 hm_1459 hv_1536)
          have hv_1637 : hR S_1546 917 h = (some q_772) := hf_1548.fr (mem_old hm_1459) (fun q9 => (fun e9 => absurd (((kd_nO (k := 1) hq_1540 hm_1459 hk_1460)).symm.trans ((congrArg (hK _) e9).trans (kd_nO' (k := 1)))) (by decide)) q9) (rd_nOR (k := 1) hq_1540 hm_1459 hv_1537)
          have hf_1638 : Fm (fun _ _ => False) (fun f9 b9 => b9 = h) (fun _ => False) S S_1546 := hf_1543.then hf_1548 (fun a9 ha9 => ⟨(fun f9 h9 => h9.elim), (fun f9 h9 => (fun h8 => absurd (h8 ▸ ha9) hz_1541) h9), (fun h9 => h9.elim)⟩)
          have hf_1639 : Fm (fun _ _ => False) (fun _ _ => False) (fun b9 => b9 = q_596) S_869 S_1546 := hf_1544.then hf_1548 (fun a9 ha9 => ⟨(fun f9 h9 => h9.elim), (fun f9 h9 => (fun h8 => absurd (h8 ▸ ha9) hz_1542) h9), (fun h9 => h9.elim)⟩)
          refine j_aast (j := i2) (ci := 1) C 18  (by decide) rfl dX9_init_189 hm_1596 hk_1597 (inr_of (n := 3) hn_1598 (vp_in_nI (by omega) (by omega))) (nI_clamp (by omega)) hm_1564 hk_1565 rfl ?_
          refine j_iinc (q := 0) (v := nI (i2 + 1)) (lv' := [(2, .int (nI (i2 + 1))), (0, .ref h), (1, .ref s0)]) C dX9_init_190 rfl (by rw [show Int32.ofInt 1 = 1 by decide]; exact nI_add i2 1) (by rw [hn9]; decide) rfl ?_
          show J _ _ _ _ _ 193 _
          refine j_goto (tgt := 168) C dX9_init_193 (by decide) ?_
          refine J.sub [0, 1, 2] (lv' := [(2, .int (nI (i2 + 1))), (0, .ref h), (1, .ref s0)]) (by rfl) ?_
          refine J.widen (k' := (0 + 1 + 4 + 1 + 8 + 1 + 1 + 1 + 1 + 1 + 1 + 1 + 1 + 1 + 1 + 8 + 1 + 8 + 1 + 1 + 1 + 2 * i1) + 9 * (i2 + 1)) (n' := (0 + 15 + 20045 + 10 + 23174 + 1 + 16 + 16 + 4 + 16 + 1 + 16 + 24000 + 16 + 21 + 117 + 21 + 117 + 3 + 4 + 12 + 20 * i1) + 138 * (i2 + 1)) (by omega) (by omega) ?_
          exact ih_966 (i2 + 1) _  (by omega) (hf_1639.tR _ _ (fun _ => rfl)) 
      refine J.sub [0, 1, 2] (lv' := [(2, .int (nI 0)), (0, .ref h), (1, .ref s0)]) (by rw [nI_0]; rfl) ?_
      refine J.widen (k' := (0 + 1 + 4 + 1 + 8 + 1 + 1 + 1 + 1 + 1 + 1 + 1 + 1 + 1 + 1 + 8 + 1 + 8 + 1 + 1 + 1 + 2 * i1) + 9 * 0) (n' := (0 + 15 + 20045 + 10 + 23174 + 1 + 16 + 16 + 4 + 16 + 1 + 16 + 24000 + 16 + 21 + 117 + 21 + 117 + 3 + 4 + 12 + 20 * i1) + 138 * 0) (by omega) (by omega) ?_
      exact loop_967 3 0 _  (by omega) Fm.refl 
    | succ m9 ih_871 =>
      intro i1 S_869  hi_873 hl_870 
      have hz_1640 : ∀ j, aI S_869 q_228 j = 0 := fun j9 => (hl_870.ai hm_793 (fun q9 => (fun e9 => absurd ((hk_794).symm.trans ((congrArg (hK _) e9).trans hk_783)) (by decide)) q9) j9).trans (hz_796 j9)
      have hz_1641 : ∀ j, aI S_869 q_292 j = 0 := fun j9 => (hl_870.ai hm_799 (fun q9 => (fun e9 => absurd ((hk_800).symm.trans ((congrArg (hK _) e9).trans hk_783)) (by decide)) q9) j9).trans (hz_802 j9)
      have hz_1642 : ∀ j, aI S_869 q_32 j = 0 := fun j9 => (hl_870.ai hm_805 (fun q9 => (fun e9 => absurd ((hk_806).symm.trans ((congrArg (hK _) e9).trans hk_783)) (by decide)) q9) j9).trans (hz_808 j9)
      have hz_1643 : ∀ j, aI S_869 q_362 j = 0 := fun j9 => (hl_870.ai hm_809 (fun q9 => (fun e9 => absurd ((hk_810).symm.trans ((congrArg (hK _) e9).trans hk_783)) (by decide)) q9) j9).trans (hz_812 j9)
      have hz_1644 : ∀ j, aI S_869 q_5 j = 0 := fun j9 => (hl_870.ai hm_815 (fun q9 => (fun e9 => absurd ((hk_816).symm.trans ((congrArg (hK _) e9).trans hk_783)) (by decide)) q9) j9).trans (hz_818 j9)
      have hz_1645 : ∀ j, aI S_869 q_596 j = 0 := fun j9 => (hl_870.ai hm_821 (fun q9 => (fun e9 => absurd ((hk_822).symm.trans ((congrArg (hK _) e9).trans hk_783)) (by decide)) q9) j9).trans (hz_824 j9)
      have hz_1646 : ∀ j, aI S_869 q_682 j = 0 := fun j9 => (hl_870.ai hm_827 (fun q9 => (fun e9 => absurd ((hk_828).symm.trans ((congrArg (hK _) e9).trans hk_783)) (by decide)) q9) j9).trans (hz_830 j9)
      have hz_1647 : ∀ j, aI S_869 q_73 j = 0 := fun j9 => (hl_870.ai hm_831 (fun q9 => (fun e9 => absurd ((hk_832).symm.trans ((congrArg (hK _) e9).trans hk_783)) (by decide)) q9) j9).trans (hz_834 j9)
      have hz_1648 : ∀ j, aI S_869 q_772 j = 0 := fun j9 => (hl_870.ai hm_835 (fun q9 => (fun e9 => absurd ((hk_836).symm.trans ((congrArg (hK _) e9).trans hk_783)) (by decide)) q9) j9).trans (hz_838 j9)
      have hm_1649 : h ∈ hL S_869 := hl_870.mem hm_778
      have hk_1650 : Kd S_869 h 9 := hl_870.kd hm_778 hk_779
      have hm_1651 : q_1 ∈ hL S_869 := hl_870.mem hm_780
      have hk_1652 : Kd S_869 q_1 0 := hl_870.kd hm_780 hk_781
      have hm_1653 : q_115 ∈ hL S_869 := hl_870.mem hm_782
      have hk_1654 : Kd S_869 q_115 20 := hl_870.kd hm_782 hk_783
      have hn_1655 : Ln S_869 q_115 16 := hl_870.ln hm_782 hn_784
      have hm_1656 : q_163 ∈ hL S_869 := hl_870.mem hm_786
      have hk_1657 : Kd S_869 q_163 10 := hl_870.kd hm_786 hk_787
      have hm_1658 : q_167 ∈ hL S_869 := hl_870.mem hm_788
      have hk_1659 : Kd S_869 q_167 15 := hl_870.kd hm_788 hk_789
      have hn_1660 : Ln S_869 q_167 16 := hl_870.ln hm_788 hn_790
      have hm_1661 : q_223 ∈ hL S_869 := hl_870.mem hm_791
      have hk_1662 : Kd S_869 q_223 8 := hl_870.kd hm_791 hk_792
      have hm_1663 : q_228 ∈ hL S_869 := hl_870.mem hm_793
      have hk_1664 : Kd S_869 q_228 14 := hl_870.kd hm_793 hk_794
      have hn_1665 : Ln S_869 q_228 16 := hl_870.ln hm_793 hn_795
      have hm_1666 : q_26 ∈ hL S_869 := hl_870.mem hm_797
      have hk_1667 : Kd S_869 q_26 2 := hl_870.kd hm_797 hk_798
      have hm_1668 : q_292 ∈ hL S_869 := hl_870.mem hm_799
      have hk_1669 : Kd S_869 q_292 13 := hl_870.kd hm_799 hk_800
      have hn_1670 : Ln S_869 q_292 24000 := hl_870.ln hm_799 hn_801
      have hm_1671 : q_31 ∈ hL S_869 := hl_870.mem hm_803
      have hk_1672 : Kd S_869 q_31 8 := hl_870.kd hm_803 hk_804
      have hm_1673 : q_32 ∈ hL S_869 := hl_870.mem hm_805
      have hk_1674 : Kd S_869 q_32 14 := hl_870.kd hm_805 hk_806
      have hn_1675 : Ln S_869 q_32 16 := hl_870.ln hm_805 hn_807
      have hm_1676 : q_362 ∈ hL S_869 := hl_870.mem hm_809
      have hk_1677 : Kd S_869 q_362 14 := hl_870.kd hm_809 hk_810
      have hn_1678 : Ln S_869 q_362 16 := hl_870.ln hm_809 hn_811
      have hm_1679 : q_436 ∈ hL S_869 := hl_870.mem hm_813
      have hk_1680 : Kd S_869 q_436 1 := hl_870.kd hm_813 hk_814
      have hm_1681 : q_5 ∈ hL S_869 := hl_870.mem hm_815
      have hk_1682 : Kd S_869 q_5 14 := hl_870.kd hm_815 hk_816
      have hn_1683 : Ln S_869 q_5 20000 := hl_870.ln hm_815 hn_817
      have hm_1684 : q_514 ∈ hL S_869 := hl_870.mem hm_819
      have hk_1685 : Kd S_869 q_514 1 := hl_870.kd hm_819 hk_820
      have hm_1686 : q_596 ∈ hL S_869 := hl_870.mem hm_821
      have hk_1687 : Kd S_869 q_596 18 := hl_870.kd hm_821 hk_822
      have hn_1688 : Ln S_869 q_596 3 := hl_870.ln hm_821 hn_823
      have hm_1689 : q_68 ∈ hL S_869 := hl_870.mem hm_825
      have hk_1690 : Kd S_869 q_68 8 := hl_870.kd hm_825 hk_826
      have hm_1691 : q_682 ∈ hL S_869 := hl_870.mem hm_827
      have hk_1692 : Kd S_869 q_682 19 := hl_870.kd hm_827 hk_828
      have hn_1693 : Ln S_869 q_682 4 := hl_870.ln hm_827 hn_829
      have hm_1694 : q_73 ∈ hL S_869 := hl_870.mem hm_831
      have hk_1695 : Kd S_869 q_73 14 := hl_870.kd hm_831 hk_832
      have hn_1696 : Ln S_869 q_73 16 := hl_870.ln hm_831 hn_833
      have hm_1697 : q_772 ∈ hL S_869 := hl_870.mem hm_835
      have hk_1698 : Kd S_869 q_772 14 := hl_870.kd hm_835 hk_836
      have hn_1699 : Ln S_869 q_772 12 := hl_870.ln hm_835 hn_837
      have hv_1700 : hI S_869 1000 q_163 = 1 := hl_870.fi hm_786 (fun h9 => h9) hv_839
      have hv_1701 : hI S_869 1001 q_163 = 1 := hl_870.fi hm_786 (fun h9 => h9) hv_840
      have hv_1702 : hI S_869 2 q_1 = 0 := hl_870.fi hm_780 (fun h9 => h9) hv_841
      have hv_1703 : hI S_869 206 q_26 = 0 := hl_870.fi hm_797 (fun h9 => h9) hv_842
      have hv_1704 : hI S_869 209 q_26 = 0 := hl_870.fi hm_797 (fun h9 => h9) hv_843
      have hv_1705 : hI S_869 3 q_1 = 0 := hl_870.fi hm_780 (fun h9 => h9) hv_844
      have hv_1706 : hI S_869 4 q_1 = 0 := hl_870.fi hm_780 (fun h9 => h9) hv_845
      have hv_1707 : hI S_869 5 q_1 = 0 := hl_870.fi hm_780 (fun h9 => h9) hv_846
      have hv_1708 : hR S_869 0 q_1 = (some q_5) := hl_870.fr hm_780 (fun h9 => h9) hv_847
      have hv_1709 : hR S_869 1003 q_163 = (some q_167) := hl_870.fr hm_786 (fun h9 => h9) hv_848
      have hv_1710 : hR S_869 200 q_26 = (some q_31) := hl_870.fr hm_797 (fun h9 => h9) hv_849
      have hv_1711 : hR S_869 800 q_223 = (some q_228) := hl_870.fr hm_791 (fun h9 => h9) hv_850
      have hv_1712 : hR S_869 800 q_31 = (some q_32) := hl_870.fr hm_803 (fun h9 => h9) hv_851
      have hv_1713 : hR S_869 800 q_68 = (some q_73) := hl_870.fr hm_825 (fun h9 => h9) hv_852
      have hv_1714 : hR S_869 900 h = (some s0) := hl_870.fr hm_778 (fun h9 => h9) hv_853
      have hv_1715 : hR S_869 901 h = (some q_1) := hl_870.fr hm_778 (fun h9 => h9) hv_854
      have hv_1716 : hR S_869 902 h = (some q_26) := hl_870.fr hm_778 (fun h9 => h9) hv_855
      have hv_1717 : hR S_869 903 h = (some q_68) := hl_870.fr hm_778 (fun h9 => h9) hv_856
      have hv_1718 : hR S_869 904 h = (some q_115) := hl_870.fr hm_778 (fun h9 => h9) hv_857
      have hv_1719 : hR S_869 905 h = (some q_163) := hl_870.fr hm_778 (fun h9 => h9) hv_858
      have hv_1720 : hR S_869 906 h = (some q_223) := hl_870.fr hm_778 (fun h9 => h9) hv_859
      have hv_1721 : hR S_869 907 h = (some q_292) := hl_870.fr hm_778 (fun h9 => h9) hv_860
      have hv_1722 : hR S_869 908 h = (some q_362) := hl_870.fr hm_778 (fun h9 => h9) hv_861
      have hv_1723 : hR S_869 909 h = (some q_436) := hl_870.fr hm_778 (fun h9 => h9) hv_862
      have hv_1724 : hR S_869 910 h = (some q_514) := hl_870.fr hm_778 (fun h9 => h9) hv_863
      have hv_1725 : hR S_869 911 h = (some q_596) := hl_870.fr hm_778 (fun h9 => h9) hv_864
      have hv_1726 : hR S_869 912 h = (some q_682) := hl_870.fr hm_778 (fun h9 => h9) hv_865
      have hv_1727 : hR S_869 917 h = (some q_772) := hl_870.fr hm_778 (fun h9 => h9) hv_866
      have hf_1728 : Fm (fun _ _ => False) (fun f9 b9 => b9 = h) (fun _ => False) S S_869 := hf_867.then hl_870 (fun a9 ha9 => ⟨(fun f9 h9 => h9.elim), (fun f9 h9 => h9.elim), (fun h9 => (fun h8 => absurd (h8 ▸ ha9) hz_118) h9)⟩)
      refine j_iload_n C dX9_init_138 rfl 0 rfl ?_
      refine j_aload_n C dX9_init_139 rfl 1 rfl ?_
      refine j_getr (f := 904) (v := q_115) C flX9_34 dX9_init_140 hm_1649 hk_1650 (by decide) rfl hv_1718 ?_
      refine j_alen (v := 16) C dX9_init_143 hm_1653 hk_1654 (by decide) (by decide) (len_of (n := 16) hn_1655 (by decide)) ?_
      refine j_ic_ge (tgt := 166) C dX9_init_144 (by decide) (fun c_144 => absurd c_144 (nI_ge (b := 16) (by omega) (by omega))) (fun c_144 => ?_)
      refine j_aload_n C dX9_init_147 rfl 1 rfl ?_
      refine j_getr (f := 904) (v := q_115) C flX9_34 dX9_init_148 hm_1649 hk_1650 (by decide) rfl hv_1718 ?_
      refine j_iload_n C dX9_init_151 rfl 0 rfl ?_
      show J _ _ _ _ _ 152 _
      refine j_new (N := 4) C (ci := 10) rfl rfl klX9_32 knX10 kiX10 (M.cells (by omega)) (M.slots (by omega)) dX9_init_152 (fun q_1729 hq_1730 => ?_)
      have hz_1731 : q_1729 ∉ hL S := fun h9 => hq_1730 (hf_1728.mem h9)
      have hz_1732 : q_1729 ∉ hL S_775 := fun h9 => hq_1730 (hl_870.mem h9)
      refine j_dup C dX9_init_155 rfl ?_
      have hf_1733 : Fm (fun _ _ => False) (fun f9 b9 => b9 = h) (fun _ => False) S (nO S_869 q_1729 10) := (hf_1728.nO _ hq_1730)
      have hf_1734 : Fm (fun _ _ => False) (fun _ _ => False) (fun b9 => b9 = q_115) S_775 (nO S_869 q_1729 10) := (hl_870.nO _ hq_1730)
      refine j_callI C [] [.ref q_1729, .int (nI i1), .ref q_115] mlX9_38 mcX10_init (c_X10_init (nO S_869 q_1729 10) q_1729 mem_new (kd_nO' (k := 10))) (M.rm (by decide) (by decide) (by omega) (by omega)) rfl rfl (Nat.le_of_ble_eq_true rfl) dX9_init_156 (fun r_1743 S_1744 hp_1745 => ?_)
      obtain ⟨rfl, hf_1746, e_1736, e_1737, q_1735, e_1738, e_1739, e_1740, e_1741, e_1742⟩ := hp_1745
      refine J.eq (st' := [.ref q_1729, .int (nI i1), .ref q_115]) rfl rfl rfl ?_
      have hz_1747 : ∀ j, aI S_1744 q_228 j = 0 := fun j9 => (hf_1746.ai (mem_old hm_1663) (fun h9 => h9) j9).trans (hz_1640 j9)
      have hz_1748 : ∀ j, aI S_1744 q_292 j = 0 := fun j9 => (hf_1746.ai (mem_old hm_1668) (fun h9 => h9) j9).trans (hz_1641 j9)
      have hz_1749 : ∀ j, aI S_1744 q_32 j = 0 := fun j9 => (hf_1746.ai (mem_old hm_1673) (fun h9 => h9) j9).trans (hz_1642 j9)
      have hz_1750 : ∀ j, aI S_1744 q_362 j = 0 := fun j9 => (hf_1746.ai (mem_old hm_1676) (fun h9 => h9) j9).trans (hz_1643 j9)
      have hz_1751 : ∀ j, aI S_1744 q_5 j = 0 := fun j9 => (hf_1746.ai (mem_old hm_1681) (fun h9 => h9) j9).trans (hz_1644 j9)
      have hz_1752 : ∀ j, aI S_1744 q_596 j = 0 := fun j9 => (hf_1746.ai (mem_old hm_1686) (fun h9 => h9) j9).trans (hz_1645 j9)
      have hz_1753 : ∀ j, aI S_1744 q_682 j = 0 := fun j9 => (hf_1746.ai (mem_old hm_1691) (fun h9 => h9) j9).trans (hz_1646 j9)
      have hz_1754 : ∀ j, aI S_1744 q_73 j = 0 := fun j9 => (hf_1746.ai (mem_old hm_1694) (fun h9 => h9) j9).trans (hz_1647 j9)
      have hz_1755 : ∀ j, aI S_1744 q_772 j = 0 := fun j9 => (hf_1746.ai (mem_old hm_1697) (fun h9 => h9) j9).trans (hz_1648 j9)
      have hm_1756 : h ∈ hL S_1744 := hf_1746.mem (mem_old hm_1649)
      have hk_1757 : Kd S_1744 h 9 := hf_1746.kd (mem_old hm_1649) (kd_nO (k := 10) hq_1730 hm_1649 hk_1650)
      have hm_1758 : q_1 ∈ hL S_1744 := hf_1746.mem (mem_old hm_1651)
      have hk_1759 : Kd S_1744 q_1 0 := hf_1746.kd (mem_old hm_1651) (kd_nO (k := 10) hq_1730 hm_1651 hk_1652)
      have hm_1760 : q_115 ∈ hL S_1744 := hf_1746.mem (mem_old hm_1653)
      have hk_1761 : Kd S_1744 q_115 20 := hf_1746.kd (mem_old hm_1653) (kd_nO (k := 10) hq_1730 hm_1653 hk_1654)
      have hn_1762 : Ln S_1744 q_115 16 := hf_1746.ln (mem_old hm_1653) hn_1655
      have hm_1763 : q_163 ∈ hL S_1744 := hf_1746.mem (mem_old hm_1656)
      have hk_1764 : Kd S_1744 q_163 10 := hf_1746.kd (mem_old hm_1656) (kd_nO (k := 10) hq_1730 hm_1656 hk_1657)
      have hm_1765 : q_167 ∈ hL S_1744 := hf_1746.mem (mem_old hm_1658)
      have hk_1766 : Kd S_1744 q_167 15 := hf_1746.kd (mem_old hm_1658) (kd_nO (k := 10) hq_1730 hm_1658 hk_1659)
      have hn_1767 : Ln S_1744 q_167 16 := hf_1746.ln (mem_old hm_1658) hn_1660
      have hm_1768 : q_1729 ∈ hL S_1744 := hf_1746.mem mem_new
      have hk_1769 : Kd S_1744 q_1729 10 := hf_1746.kd mem_new (kd_nO' (k := 10))
      have hm_1770 : q_223 ∈ hL S_1744 := hf_1746.mem (mem_old hm_1661)
      have hk_1771 : Kd S_1744 q_223 8 := hf_1746.kd (mem_old hm_1661) (kd_nO (k := 10) hq_1730 hm_1661 hk_1662)
      have hm_1772 : q_228 ∈ hL S_1744 := hf_1746.mem (mem_old hm_1663)
      have hk_1773 : Kd S_1744 q_228 14 := hf_1746.kd (mem_old hm_1663) (kd_nO (k := 10) hq_1730 hm_1663 hk_1664)
      have hn_1774 : Ln S_1744 q_228 16 := hf_1746.ln (mem_old hm_1663) hn_1665
      have hm_1775 : q_26 ∈ hL S_1744 := hf_1746.mem (mem_old hm_1666)
      have hk_1776 : Kd S_1744 q_26 2 := hf_1746.kd (mem_old hm_1666) (kd_nO (k := 10) hq_1730 hm_1666 hk_1667)
      have hm_1777 : q_292 ∈ hL S_1744 := hf_1746.mem (mem_old hm_1668)
      have hk_1778 : Kd S_1744 q_292 13 := hf_1746.kd (mem_old hm_1668) (kd_nO (k := 10) hq_1730 hm_1668 hk_1669)
      have hn_1779 : Ln S_1744 q_292 24000 := hf_1746.ln (mem_old hm_1668) hn_1670
      have hm_1780 : q_31 ∈ hL S_1744 := hf_1746.mem (mem_old hm_1671)
      have hk_1781 : Kd S_1744 q_31 8 := hf_1746.kd (mem_old hm_1671) (kd_nO (k := 10) hq_1730 hm_1671 hk_1672)
      have hm_1782 : q_32 ∈ hL S_1744 := hf_1746.mem (mem_old hm_1673)
      have hk_1783 : Kd S_1744 q_32 14 := hf_1746.kd (mem_old hm_1673) (kd_nO (k := 10) hq_1730 hm_1673 hk_1674)
      have hn_1784 : Ln S_1744 q_32 16 := hf_1746.ln (mem_old hm_1673) hn_1675
      have hm_1785 : q_362 ∈ hL S_1744 := hf_1746.mem (mem_old hm_1676)
      have hk_1786 : Kd S_1744 q_362 14 := hf_1746.kd (mem_old hm_1676) (kd_nO (k := 10) hq_1730 hm_1676 hk_1677)
      have hn_1787 : Ln S_1744 q_362 16 := hf_1746.ln (mem_old hm_1676) hn_1678
      have hm_1788 : q_436 ∈ hL S_1744 := hf_1746.mem (mem_old hm_1679)
      have hk_1789 : Kd S_1744 q_436 1 := hf_1746.kd (mem_old hm_1679) (kd_nO (k := 10) hq_1730 hm_1679 hk_1680)
      have hm_1790 : q_5 ∈ hL S_1744 := hf_1746.mem (mem_old hm_1681)
      have hk_1791 : Kd S_1744 q_5 14 := hf_1746.kd (mem_old hm_1681) (kd_nO (k := 10) hq_1730 hm_1681 hk_1682)
      have hn_1792 : Ln S_1744 q_5 20000 := hf_1746.ln (mem_old hm_1681) hn_1683
      have hm_1793 : q_514 ∈ hL S_1744 := hf_1746.mem (mem_old hm_1684)
      have hk_1794 : Kd S_1744 q_514 1 := hf_1746.kd (mem_old hm_1684) (kd_nO (k := 10) hq_1730 hm_1684 hk_1685)
      have hm_1795 : q_596 ∈ hL S_1744 := hf_1746.mem (mem_old hm_1686)
      have hk_1796 : Kd S_1744 q_596 18 := hf_1746.kd (mem_old hm_1686) (kd_nO (k := 10) hq_1730 hm_1686 hk_1687)
      have hn_1797 : Ln S_1744 q_596 3 := hf_1746.ln (mem_old hm_1686) hn_1688
      have hm_1798 : q_68 ∈ hL S_1744 := hf_1746.mem (mem_old hm_1689)
      have hk_1799 : Kd S_1744 q_68 8 := hf_1746.kd (mem_old hm_1689) (kd_nO (k := 10) hq_1730 hm_1689 hk_1690)
      have hm_1800 : q_682 ∈ hL S_1744 := hf_1746.mem (mem_old hm_1691)
      have hk_1801 : Kd S_1744 q_682 19 := hf_1746.kd (mem_old hm_1691) (kd_nO (k := 10) hq_1730 hm_1691 hk_1692)
      have hn_1802 : Ln S_1744 q_682 4 := hf_1746.ln (mem_old hm_1691) hn_1693
      have hm_1803 : q_73 ∈ hL S_1744 := hf_1746.mem (mem_old hm_1694)
      have hk_1804 : Kd S_1744 q_73 14 := hf_1746.kd (mem_old hm_1694) (kd_nO (k := 10) hq_1730 hm_1694 hk_1695)
      have hn_1805 : Ln S_1744 q_73 16 := hf_1746.ln (mem_old hm_1694) hn_1696
      have hm_1806 : q_772 ∈ hL S_1744 := hf_1746.mem (mem_old hm_1697)
      have hk_1807 : Kd S_1744 q_772 14 := hf_1746.kd (mem_old hm_1697) (kd_nO (k := 10) hq_1730 hm_1697 hk_1698)
      have hn_1808 : Ln S_1744 q_772 12 := hf_1746.ln (mem_old hm_1697) hn_1699
      have hv_1809 : hI S_1744 1000 q_163 = 1 := hf_1746.fi (mem_old hm_1656) (fun h9 => h9.elim (fun q9 => (ne_of_nin hq_1730 hm_1656) q9.2) (fun q9 => absurd q9.1 (by decide))) (rd_nOI (k := 10) hq_1730 hm_1656 hv_1700)
      have hv_1810 : hI S_1744 1001 q_163 = 1 := hf_1746.fi (mem_old hm_1656) (fun h9 => h9.elim (fun q9 => absurd q9.1 (by decide)) (fun q9 => (ne_of_nin hq_1730 hm_1656) q9.2)) (rd_nOI (k := 10) hq_1730 hm_1656 hv_1701)
      have hv_1811 : hI S_1744 2 q_1 = 0 := hf_1746.fi (mem_old hm_1651) (fun h9 => h9.elim (fun q9 => absurd q9.1 (by decide)) (fun q9 => absurd q9.1 (by decide))) (rd_nOI (k := 10) hq_1730 hm_1651 hv_1702)
      have hv_1812 : hI S_1744 206 q_26 = 0 := hf_1746.fi (mem_old hm_1666) (fun h9 => h9.elim (fun q9 => absurd q9.1 (by decide)) (fun q9 => absurd q9.1 (by decide))) (rd_nOI (k := 10) hq_1730 hm_1666 hv_1703)
      have hv_1813 : hI S_1744 209 q_26 = 0 := hf_1746.fi (mem_old hm_1666) (fun h9 => h9.elim (fun q9 => absurd q9.1 (by decide)) (fun q9 => absurd q9.1 (by decide))) (rd_nOI (k := 10) hq_1730 hm_1666 hv_1704)
      have hv_1814 : hI S_1744 3 q_1 = 0 := hf_1746.fi (mem_old hm_1651) (fun h9 => h9.elim (fun q9 => absurd q9.1 (by decide)) (fun q9 => absurd q9.1 (by decide))) (rd_nOI (k := 10) hq_1730 hm_1651 hv_1705)
      have hv_1815 : hI S_1744 4 q_1 = 0 := hf_1746.fi (mem_old hm_1651) (fun h9 => h9.elim (fun q9 => absurd q9.1 (by decide)) (fun q9 => absurd q9.1 (by decide))) (rd_nOI (k := 10) hq_1730 hm_1651 hv_1706)
      have hv_1816 : hI S_1744 5 q_1 = 0 := hf_1746.fi (mem_old hm_1651) (fun h9 => h9.elim (fun q9 => absurd q9.1 (by decide)) (fun q9 => absurd q9.1 (by decide))) (rd_nOI (k := 10) hq_1730 hm_1651 hv_1707)
      have hv_1817 : hR S_1744 0 q_1 = (some q_5) := hf_1746.fr (mem_old hm_1651) (fun q9 => (fun e9 => absurd (((kd_nO (k := 10) hq_1730 hm_1651 hk_1652)).symm.trans ((congrArg (hK _) e9).trans (kd_nO' (k := 10)))) (by decide)) q9) (rd_nOR (k := 10) hq_1730 hm_1651 hv_1708)
      have hv_1818 : hR S_1744 1003 q_163 = (some q_167) := hf_1746.fr (mem_old hm_1656) (fun q9 => (ne_of_nin hq_1730 hm_1656) q9) (rd_nOR (k := 10) hq_1730 hm_1656 hv_1709)
      have hv_1819 : hR S_1744 200 q_26 = (some q_31) := hf_1746.fr (mem_old hm_1666) (fun q9 => (fun e9 => absurd (((kd_nO (k := 10) hq_1730 hm_1666 hk_1667)).symm.trans ((congrArg (hK _) e9).trans (kd_nO' (k := 10)))) (by decide)) q9) (rd_nOR (k := 10) hq_1730 hm_1666 hv_1710)
      have hv_1820 : hR S_1744 800 q_223 = (some q_228) := hf_1746.fr (mem_old hm_1661) (fun q9 => (fun e9 => absurd (((kd_nO (k := 10) hq_1730 hm_1661 hk_1662)).symm.trans ((congrArg (hK _) e9).trans (kd_nO' (k := 10)))) (by decide)) q9) (rd_nOR (k := 10) hq_1730 hm_1661 hv_1711)
      have hv_1821 : hR S_1744 800 q_31 = (some q_32) := hf_1746.fr (mem_old hm_1671) (fun q9 => (fun e9 => absurd (((kd_nO (k := 10) hq_1730 hm_1671 hk_1672)).symm.trans ((congrArg (hK _) e9).trans (kd_nO' (k := 10)))) (by decide)) q9) (rd_nOR (k := 10) hq_1730 hm_1671 hv_1712)
      have hv_1822 : hR S_1744 800 q_68 = (some q_73) := hf_1746.fr (mem_old hm_1689) (fun q9 => (fun e9 => absurd (((kd_nO (k := 10) hq_1730 hm_1689 hk_1690)).symm.trans ((congrArg (hK _) e9).trans (kd_nO' (k := 10)))) (by decide)) q9) (rd_nOR (k := 10) hq_1730 hm_1689 hv_1713)
      have hv_1823 : hR S_1744 900 h = (some s0) := hf_1746.fr (mem_old hm_1649) (fun q9 => (fun e9 => absurd (((kd_nO (k := 10) hq_1730 hm_1649 hk_1650)).symm.trans ((congrArg (hK _) e9).trans (kd_nO' (k := 10)))) (by decide)) q9) (rd_nOR (k := 10) hq_1730 hm_1649 hv_1714)
      have hv_1824 : hR S_1744 901 h = (some q_1) := hf_1746.fr (mem_old hm_1649) (fun q9 => (fun e9 => absurd (((kd_nO (k := 10) hq_1730 hm_1649 hk_1650)).symm.trans ((congrArg (hK _) e9).trans (kd_nO' (k := 10)))) (by decide)) q9) (rd_nOR (k := 10) hq_1730 hm_1649 hv_1715)
      have hv_1825 : hR S_1744 902 h = (some q_26) := hf_1746.fr (mem_old hm_1649) (fun q9 => (fun e9 => absurd (((kd_nO (k := 10) hq_1730 hm_1649 hk_1650)).symm.trans ((congrArg (hK _) e9).trans (kd_nO' (k := 10)))) (by decide)) q9) (rd_nOR (k := 10) hq_1730 hm_1649 hv_1716)
      have hv_1826 : hR S_1744 903 h = (some q_68) := hf_1746.fr (mem_old hm_1649) (fun q9 => (fun e9 => absurd (((kd_nO (k := 10) hq_1730 hm_1649 hk_1650)).symm.trans ((congrArg (hK _) e9).trans (kd_nO' (k := 10)))) (by decide)) q9) (rd_nOR (k := 10) hq_1730 hm_1649 hv_1717)
      have hv_1827 : hR S_1744 904 h = (some q_115) := hf_1746.fr (mem_old hm_1649) (fun q9 => (fun e9 => absurd (((kd_nO (k := 10) hq_1730 hm_1649 hk_1650)).symm.trans ((congrArg (hK _) e9).trans (kd_nO' (k := 10)))) (by decide)) q9) (rd_nOR (k := 10) hq_1730 hm_1649 hv_1718)
      have hv_1828 : hR S_1744 905 h = (some q_163) := hf_1746.fr (mem_old hm_1649) (fun q9 => (fun e9 => absurd (((kd_nO (k := 10) hq_1730 hm_1649 hk_1650)).symm.trans ((congrArg (hK _) e9).trans (kd_nO' (k := 10)))) (by decide)) q9) (rd_nOR (k := 10) hq_1730 hm_1649 hv_1719)
      have hv_1829 : hR S_1744 906 h = (some q_223) := hf_1746.fr (mem_old hm_1649) (fun q9 => (fun e9 => absurd (((kd_nO (k := 10) hq_1730 hm_1649 hk_1650)).symm.trans ((congrArg (hK _) e9).trans (kd_nO' (k := 10)))) (by decide)) q9) (rd_nOR (k := 10) hq_1730 hm_1649 hv_1720)
      have hv_1830 : hR S_1744 907 h = (some q_292) := hf_1746.fr (mem_old hm_1649) (fun q9 => (fun e9 => absurd (((kd_nO (k := 10) hq_1730 hm_1649 hk_1650)).symm.trans ((congrArg (hK _) e9).trans (kd_nO' (k := 10)))) (by decide)) q9) (rd_nOR (k := 10) hq_1730 hm_1649 hv_1721)
      have hv_1831 : hR S_1744 908 h = (some q_362) := hf_1746.fr (mem_old hm_1649) (fun q9 => (fun e9 => absurd (((kd_nO (k := 10) hq_1730 hm_1649 hk_1650)).symm.trans ((congrArg (hK _) e9).trans (kd_nO' (k := 10)))) (by decide)) q9) (rd_nOR (k := 10) hq_1730 hm_1649 hv_1722)
      have hv_1832 : hR S_1744 909 h = (some q_436) := hf_1746.fr (mem_old hm_1649) (fun q9 => (fun e9 => absurd (((kd_nO (k := 10) hq_1730 hm_1649 hk_1650)).symm.trans ((congrArg (hK _) e9).trans (kd_nO' (k := 10)))) (by decide)) q9) (rd_nOR (k := 10) hq_1730 hm_1649 hv_1723)
      have hv_1833 : hR S_1744 910 h = (some q_514) := hf_1746.fr (mem_old hm_1649) (fun q9 => (fun e9 => absurd (((kd_nO (k := 10) hq_1730 hm_1649 hk_1650)).symm.trans ((congrArg (hK _) e9).trans (kd_nO' (k := 10)))) (by decide)) q9) (rd_nOR (k := 10) hq_1730 hm_1649 hv_1724)
      have hv_1834 : hR S_1744 911 h = (some q_596) := hf_1746.fr (mem_old hm_1649) (fun q9 => (fun e9 => absurd (((kd_nO (k := 10) hq_1730 hm_1649 hk_1650)).symm.trans ((congrArg (hK _) e9).trans (kd_nO' (k := 10)))) (by decide)) q9) (rd_nOR (k := 10) hq_1730 hm_1649 hv_1725)
      have hv_1835 : hR S_1744 912 h = (some q_682) := hf_1746.fr (mem_old hm_1649) (fun q9 => (fun e9 => absurd (((kd_nO (k := 10) hq_1730 hm_1649 hk_1650)).symm.trans ((congrArg (hK _) e9).trans (kd_nO' (k := 10)))) (by decide)) q9) (rd_nOR (k := 10) hq_1730 hm_1649 hv_1726)
      have hv_1836 : hR S_1744 917 h = (some q_772) := hf_1746.fr (mem_old hm_1649) (fun q9 => (fun e9 => absurd (((kd_nO (k := 10) hq_1730 hm_1649 hk_1650)).symm.trans ((congrArg (hK _) e9).trans (kd_nO' (k := 10)))) (by decide)) q9) (rd_nOR (k := 10) hq_1730 hm_1649 hv_1727)
      have hf_1837 : Fm (fun _ _ => False) (fun f9 b9 => b9 = h) (fun _ => False) S S_1744 := hf_1733.then hf_1746 (fun a9 ha9 => ⟨(fun f9 h9 => (fun h9 => h9.elim (fun h8 => absurd (h8.2 ▸ ha9) hz_1731) (fun h8 => absurd (h8.2 ▸ ha9) hz_1731)) h9), (fun f9 h9 => (fun h8 => absurd (h8 ▸ ha9) hz_1731) h9), (fun h9 => h9.elim)⟩)
      have hf_1838 : Fm (fun _ _ => False) (fun _ _ => False) (fun b9 => b9 = q_115) S_775 S_1744 := hf_1734.then hf_1746 (fun a9 ha9 => ⟨(fun f9 h9 => (fun h9 => h9.elim (fun h8 => absurd (h8.2 ▸ ha9) hz_1732) (fun h8 => absurd (h8.2 ▸ ha9) hz_1732)) h9), (fun f9 h9 => (fun h8 => absurd (h8 ▸ ha9) hz_1732) h9), (fun h9 => h9.elim)⟩)
      have hz_1839 : q_1735 ∉ hL S := fun h9 => e_1738 (hf_1733.mem h9)
      have hz_1840 : q_1735 ∉ hL S_775 := fun h9 => e_1738 (hf_1734.mem h9)
      refine j_aast (j := i1) (ci := 10) C 20  (by decide) rfl dX9_init_159 hm_1760 hk_1761 (inr_of (n := 16) hn_1762 (vp_in_nI (by omega) (by omega))) (nI_clamp (by omega)) hm_1768 hk_1769 rfl ?_
      refine j_iinc (q := 0) (v := nI (i1 + 1)) (lv' := [(2, .int (nI (i1 + 1))), (0, .ref h), (1, .ref s0)]) C dX9_init_160 rfl (by rw [show Int32.ofInt 1 = 1 by decide]; exact nI_add i1 1) (by rw [hn9]; decide) rfl ?_
      refine j_goto (tgt := 138) C dX9_init_163 (by decide) ?_
      refine J.sub [0, 1, 2] (lv' := [(2, .int (nI (i1 + 1))), (0, .ref h), (1, .ref s0)]) (by rfl) ?_
      refine J.widen (k' := 0 + 1 + 4 + 1 + 8 + 1 + 1 + 1 + 1 + 1 + 1 + 1 + 1 + 1 + 1 + 8 + 1 + 8 + 1 + 1 + 1 + 2 * (i1 + 1)) (n' := 0 + 15 + 20045 + 10 + 23174 + 1 + 16 + 16 + 4 + 16 + 1 + 16 + 24000 + 16 + 21 + 117 + 21 + 117 + 3 + 4 + 12 + 20 * (i1 + 1)) (by omega) (by omega) ?_
      exact ih_871 (i1 + 1) _  (by omega) (hf_1838.tR _ _ (fun _ => rfl)) 
  refine J.sub [0, 1, 2] (lv' := [(2, .int (nI 0)), (0, .ref h), (1, .ref s0)]) (by rw [nI_0]; rfl) ?_
  refine J.widen (k' := 0 + 1 + 4 + 1 + 8 + 1 + 1 + 1 + 1 + 1 + 1 + 1 + 1 + 1 + 1 + 8 + 1 + 8 + 1 + 1 + 1 + 2 * 0) (n' := 0 + 15 + 20045 + 10 + 23174 + 1 + 16 + 16 + 4 + 16 + 1 + 16 + 24000 + 16 + 21 + 117 + 21 + 117 + 3 + 4 + 12 + 20 * 0) (by omega) (by omega) ?_
  exact loop_872 16 0 _  (by omega) Fm.refl 
