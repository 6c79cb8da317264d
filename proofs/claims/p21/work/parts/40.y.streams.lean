theorem dX9_init_0 : decode cX9_init 0 = .ok (.aload_n 0, 1) := by decide +kernel
theorem dX9_init_1 : decode cX9_init 1 = .ok (.invokespecial 3, 3) := by decide +kernel
theorem dX9_init_4 : decode cX9_init 4 = .ok (.aload_n 0, 1) := by decide +kernel
theorem dX9_init_5 : decode cX9_init 5 = .ok (.new 9, 3) := by decide +kernel
theorem dX9_init_8 : decode cX9_init 8 = .ok (.dup, 1) := by decide +kernel
theorem dX9_init_9 : decode cX9_init 9 = .ok (.invokespecial 11, 3) := by decide +kernel
theorem dX9_init_12 : decode cX9_init 12 = .ok (.putfield 12, 3) := by decide +kernel
theorem dX9_init_15 : decode cX9_init 15 = .ok (.aload_n 0, 1) := by decide +kernel
theorem dX9_init_16 : decode cX9_init 16 = .ok (.new 18, 3) := by decide +kernel
theorem dX9_init_19 : decode cX9_init 19 = .ok (.dup, 1) := by decide +kernel
theorem dX9_init_20 : decode cX9_init 20 = .ok (.invokespecial 20, 3) := by decide +kernel
theorem dX9_init_23 : decode cX9_init 23 = .ok (.putfield 21, 3) := by decide +kernel
theorem dX9_init_26 : decode cX9_init 26 = .ok (.aload_n 0, 1) := by decide +kernel
theorem dX9_init_27 : decode cX9_init 27 = .ok (.new 25, 3) := by decide +kernel
theorem dX9_init_30 : decode cX9_init 30 = .ok (.dup, 1) := by decide +kernel
theorem dX9_init_31 : decode cX9_init 31 = .ok (.invokespecial 27, 3) := by decide +kernel
theorem dX9_init_34 : decode cX9_init 34 = .ok (.putfield 28, 3) := by decide +kernel
theorem dX9_init_37 : decode cX9_init 37 = .ok (.aload_n 0, 1) := by decide +kernel
theorem dX9_init_38 : decode cX9_init 38 = .ok (.bipush 16, 2) := by decide +kernel
theorem dX9_init_40 : decode cX9_init 40 = .ok (.anewarray 32, 3) := by decide +kernel
theorem dX9_init_43 : decode cX9_init 43 = .ok (.putfield 34, 3) := by decide +kernel
theorem dX9_init_46 : decode cX9_init 46 = .ok (.aload_n 0, 1) := by decide +kernel
theorem dX9_init_47 : decode cX9_init 47 = .ok (.new 32, 3) := by decide +kernel
theorem dX9_init_50 : decode cX9_init 50 = .ok (.dup, 1) := by decide +kernel
theorem dX9_init_51 : decode cX9_init 51 = .ok (.invokespecial 38, 3) := by decide +kernel
theorem dX9_init_54 : decode cX9_init 54 = .ok (.putfield 39, 3) := by decide +kernel
theorem dX9_init_57 : decode cX9_init 57 = .ok (.aload_n 0, 1) := by decide +kernel
theorem dX9_init_58 : decode cX9_init 58 = .ok (.new 25, 3) := by decide +kernel
theorem dX9_init_61 : decode cX9_init 61 = .ok (.dup, 1) := by decide +kernel
theorem dX9_init_62 : decode cX9_init 62 = .ok (.invokespecial 27, 3) := by decide +kernel
theorem dX9_init_65 : decode cX9_init 65 = .ok (.putfield 43, 3) := by decide +kernel
theorem dX9_init_68 : decode cX9_init 68 = .ok (.aload_n 0, 1) := by decide +kernel
theorem dX9_init_69 : decode cX9_init 69 = .ok (.sipush 24000, 3) := by decide +kernel
theorem dX9_init_72 : decode cX9_init 72 = .ok (.newarray .byte, 2) := by decide +kernel
theorem dX9_init_74 : decode cX9_init 74 = .ok (.putfield 46, 3) := by decide +kernel
theorem dX9_init_77 : decode cX9_init 77 = .ok (.aload_n 0, 1) := by decide +kernel
theorem dX9_init_78 : decode cX9_init 78 = .ok (.bipush 16, 2) := by decide +kernel
theorem dX9_init_80 : decode cX9_init 80 = .ok (.newarray .int, 2) := by decide +kernel
theorem dX9_init_82 : decode cX9_init 82 = .ok (.putfield 50, 3) := by decide +kernel
theorem dX9_init_85 : decode cX9_init 85 = .ok (.aload_n 0, 1) := by decide +kernel
theorem dX9_init_86 : decode cX9_init 86 = .ok (.new 54, 3) := by decide +kernel
theorem dX9_init_89 : decode cX9_init 89 = .ok (.dup, 1) := by decide +kernel
theorem dX9_init_90 : decode cX9_init 90 = .ok (.invokespecial 56, 3) := by decide +kernel
theorem dX9_init_93 : decode cX9_init 93 = .ok (.putfield 57, 3) := by decide +kernel
theorem dX9_init_96 : decode cX9_init 96 = .ok (.aload_n 0, 1) := by decide +kernel
theorem dX9_init_97 : decode cX9_init 97 = .ok (.new 54, 3) := by decide +kernel
theorem dX9_init_100 : decode cX9_init 100 = .ok (.dup, 1) := by decide +kernel
theorem dX9_init_101 : decode cX9_init 101 = .ok (.invokespecial 56, 3) := by decide +kernel
theorem dX9_init_104 : decode cX9_init 104 = .ok (.putfield 61, 3) := by decide +kernel
theorem dX9_init_107 : decode cX9_init 107 = .ok (.aload_n 0, 1) := by decide +kernel
theorem dX9_init_108 : decode cX9_init 108 = .ok (.iconst 3, 1) := by decide +kernel
theorem dX9_init_109 : decode cX9_init 109 = .ok (.anewarray 54, 3) := by decide +kernel
theorem dX9_init_112 : decode cX9_init 112 = .ok (.putfield 64, 3) := by decide +kernel
theorem dX9_init_115 : decode cX9_init 115 = .ok (.aload_n 0, 1) := by decide +kernel
theorem dX9_init_116 : decode cX9_init 116 = .ok (.iconst 4, 1) := by decide +kernel
theorem dX9_init_117 : decode cX9_init 117 = .ok (.anewarray 68, 3) := by decide +kernel
theorem dX9_init_120 : decode cX9_init 120 = .ok (.putfield 70, 3) := by decide +kernel
theorem dX9_init_123 : decode cX9_init 123 = .ok (.aload_n 0, 1) := by decide +kernel
theorem dX9_init_124 : decode cX9_init 124 = .ok (.bipush 12, 2) := by decide +kernel
theorem dX9_init_126 : decode cX9_init 126 = .ok (.newarray .int, 2) := by decide +kernel
theorem dX9_init_128 : decode cX9_init 128 = .ok (.putfield 74, 3) := by decide +kernel
theorem dX9_init_131 : decode cX9_init 131 = .ok (.aload_n 0, 1) := by decide +kernel
theorem dX9_init_132 : decode cX9_init 132 = .ok (.aload_n 1, 1) := by decide +kernel
theorem dX9_init_133 : decode cX9_init 133 = .ok (.putfield 77, 3) := by decide +kernel
theorem dX9_init_136 : decode cX9_init 136 = .ok (.iconst 0, 1) := by decide +kernel
theorem dX9_init_137 : decode cX9_init 137 = .ok (.istore_n 2, 1) := by decide +kernel
theorem dX9_init_138 : decode cX9_init 138 = .ok (.iload_n 2, 1) := by decide +kernel
theorem dX9_init_139 : decode cX9_init 139 = .ok (.aload_n 0, 1) := by decide +kernel
theorem dX9_init_140 : decode cX9_init 140 = .ok (.getfield 34, 3) := by decide +kernel
theorem dX9_init_143 : decode cX9_init 143 = .ok (.arraylength, 1) := by decide +kernel
theorem dX9_init_144 : decode cX9_init 144 = .ok (.if_icmp .ge 22, 3) := by decide +kernel
theorem dX9_init_147 : decode cX9_init 147 = .ok (.aload_n 0, 1) := by decide +kernel
theorem dX9_init_148 : decode cX9_init 148 = .ok (.getfield 34, 3) := by decide +kernel
theorem dX9_init_151 : decode cX9_init 151 = .ok (.iload_n 2, 1) := by decide +kernel
theorem dX9_init_152 : decode cX9_init 152 = .ok (.new 32, 3) := by decide +kernel
theorem dX9_init_155 : decode cX9_init 155 = .ok (.dup, 1) := by decide +kernel
theorem dX9_init_156 : decode cX9_init 156 = .ok (.invokespecial 38, 3) := by decide +kernel
theorem dX9_init_159 : decode cX9_init 159 = .ok (.aastore, 1) := by decide +kernel
theorem dX9_init_160 : decode cX9_init 160 = .ok (.iinc 2 1, 3) := by decide +kernel
theorem dX9_init_163 : decode cX9_init 163 = .ok (.goto (-25), 3) := by decide +kernel
theorem dX9_init_166 : decode cX9_init 166 = .ok (.iconst 0, 1) := by decide +kernel
theorem dX9_init_167 : decode cX9_init 167 = .ok (.istore_n 2, 1) := by decide +kernel
theorem dX9_init_168 : decode cX9_init 168 = .ok (.iload_n 2, 1) := by decide +kernel
theorem dX9_init_169 : decode cX9_init 169 = .ok (.aload_n 0, 1) := by decide +kernel
theorem dX9_init_170 : decode cX9_init 170 = .ok (.getfield 64, 3) := by decide +kernel
theorem dX9_init_173 : decode cX9_init 173 = .ok (.arraylength, 1) := by decide +kernel
theorem dX9_init_174 : decode cX9_init 174 = .ok (.if_icmp .ge 22, 3) := by decide +kernel
theorem dX9_init_177 : decode cX9_init 177 = .ok (.aload_n 0, 1) := by decide +kernel
theorem dX9_init_178 : decode cX9_init 178 = .ok (.getfield 64, 3) := by decide +kernel
theorem dX9_init_181 : decode cX9_init 181 = .ok (.iload_n 2, 1) := by decide +kernel
theorem dX9_init_182 : decode cX9_init 182 = .ok (.new 54, 3) := by decide +kernel
theorem dX9_init_185 : decode cX9_init 185 = .ok (.dup, 1) := by decide +kernel
theorem dX9_init_186 : decode cX9_init 186 = .ok (.invokespecial 56, 3) := by decide +kernel
theorem dX9_init_189 : decode cX9_init 189 = .ok (.aastore, 1) := by decide +kernel
theorem dX9_init_190 : decode cX9_init 190 = .ok (.iinc 2 1, 3) := by decide +kernel
theorem dX9_init_193 : decode cX9_init 193 = .ok (.goto (-25), 3) := by decide +kernel
theorem dX9_init_196 : decode cX9_init 196 = .ok (.iconst 0, 1) := by decide +kernel
theorem dX9_init_197 : decode cX9_init 197 = .ok (.istore_n 2, 1) := by decide +kernel
theorem dX9_init_198 : decode cX9_init 198 = .ok (.iload_n 2, 1) := by decide +kernel
theorem dX9_init_199 : decode cX9_init 199 = .ok (.aload_n 0, 1) := by decide +kernel
theorem dX9_init_200 : decode cX9_init 200 = .ok (.getfield 70, 3) := by decide +kernel
theorem dX9_init_203 : decode cX9_init 203 = .ok (.arraylength, 1) := by decide +kernel
theorem dX9_init_204 : decode cX9_init 204 = .ok (.if_icmp .ge 22, 3) := by decide +kernel
theorem dX9_init_207 : decode cX9_init 207 = .ok (.aload_n 0, 1) := by decide +kernel
theorem dX9_init_208 : decode cX9_init 208 = .ok (.getfield 70, 3) := by decide +kernel
theorem dX9_init_211 : decode cX9_init 211 = .ok (.iload_n 2, 1) := by decide +kernel
theorem dX9_init_212 : decode cX9_init 212 = .ok (.new 68, 3) := by decide +kernel
theorem dX9_init_215 : decode cX9_init 215 = .ok (.dup, 1) := by decide +kernel
theorem dX9_init_216 : decode cX9_init 216 = .ok (.invokespecial 81, 3) := by decide +kernel
theorem dX9_init_219 : decode cX9_init 219 = .ok (.aastore, 1) := by decide +kernel
theorem dX9_init_220 : decode cX9_init 220 = .ok (.iinc 2 1, 3) := by decide +kernel
theorem dX9_init_223 : decode cX9_init 223 = .ok (.goto (-25), 3) := by decide +kernel
theorem dX9_init_226 : decode cX9_init 226 = .ok (.aload_n 0, 1) := by decide +kernel
theorem dX9_init_227 : decode cX9_init 227 = .ok (.new 68, 3) := by decide +kernel
theorem dX9_init_230 : decode cX9_init 230 = .ok (.dup, 1) := by decide +kernel
theorem dX9_init_231 : decode cX9_init 231 = .ok (.invokespecial 81, 3) := by decide +kernel
theorem dX9_init_234 : decode cX9_init 234 = .ok (.putfield 82, 3) := by decide +kernel
theorem dX9_init_237 : decode cX9_init 237 = .ok (.return_, 1) := by decide +kernel

set_option maxRecDepth 100000 in
set_option maxHeartbeats 4000000 in
theorem c_X9_init (S : Hp) (h : Nat) (hm : h ∈ hL S) (hk : hK S h = 9) (s0 : Nat) : Ct 4 yX9_init cX9_init 3 none 113 68424 [.ref h, .ref s0] S (fun r S' => r = none ∧ Fm (fun _ _ => False) (fun f9 b9 => b9 = h) (fun _ => False) S S' ∧ hR S' 900 h = some s0 ∧ ∃ o_c o_cd o_cl o_f o_fs o_fss o_fn o_fa o_ts o_tss o_bt o_btr o_ms o_mss o_e o_es o_er o_err o_ep o_epr o_e1 o_e2 o_ra o_ls o_r0 : Nat, o_c ∉ hL S ∧ o_c ∈ hL S' ∧ Kd S' o_c 0 ∧ hR S' 901 h = some o_c ∧ o_cd ∉ hL S ∧ o_cd ∈ hL S' ∧ Kd S' o_cd 14 ∧ Ln S' o_cd 20000 ∧ hR S' 0 o_c = some o_cd ∧ o_cl ∉ hL S ∧ o_cl ∈ hL S' ∧ Kd S' o_cl 14 ∧ Ln S' o_cl 25 ∧ hR S' 1 o_c = some o_cl ∧ o_f ∉ hL S ∧ o_f ∈ hL S' ∧ Kd S' o_f 2 ∧ hR S' 902 h = some o_f ∧ o_fs ∉ hL S ∧ o_fs ∈ hL S' ∧ Kd S' o_fs 8 ∧ hR S' 200 o_f = some o_fs ∧ o_fss ∉ hL S ∧ o_fss ∈ hL S' ∧ Kd S' o_fss 14 ∧ Ln S' o_fss 16 ∧ hR S' 800 o_fs = some o_fss ∧ (∀ j, aI S' o_fss j = 0) ∧ o_fn ∉ hL S ∧ o_fn ∈ hL S' ∧ Kd S' o_fn 14 ∧ Ln S' o_fn 119 ∧ hR S' 201 o_f = some o_fn ∧ o_fa ∉ hL S ∧ o_fa ∈ hL S' ∧ Kd S' o_fa 14 ∧ Ln S' o_fa 8 ∧ hR S' 207 o_f = some o_fa ∧ o_ts ∉ hL S ∧ o_ts ∈ hL S' ∧ Kd S' o_ts 8 ∧ hR S' 903 h = some o_ts ∧ o_tss ∉ hL S ∧ o_tss ∈ hL S' ∧ Kd S' o_tss 14 ∧ Ln S' o_tss 16 ∧ hR S' 800 o_ts = some o_tss ∧ (∀ j, aI S' o_tss j = 0) ∧ o_bt ∉ hL S ∧ o_bt ∈ hL S' ∧ Kd S' o_bt 10 ∧ hR S' 905 h = some o_bt ∧ o_btr ∉ hL S ∧ o_btr ∈ hL S' ∧ Kd S' o_btr 15 ∧ Ln S' o_btr 16 ∧ hR S' 1003 o_bt = some o_btr ∧ o_ms ∉ hL S ∧ o_ms ∈ hL S' ∧ Kd S' o_ms 8 ∧ hR S' 906 h = some o_ms ∧ o_mss ∉ hL S ∧ o_mss ∈ hL S' ∧ Kd S' o_mss 14 ∧ Ln S' o_mss 16 ∧ hR S' 800 o_ms = some o_mss ∧ (∀ j, aI S' o_mss j = 0) ∧ o_e ∉ hL S ∧ o_e ∈ hL S' ∧ Kd S' o_e 1 ∧ hR S' 909 h = some o_e ∧ o_es ∉ hL S ∧ o_es ∈ hL S' ∧ Kd S' o_es 7 ∧ hR S' 100 o_e = some o_es ∧ o_er ∉ hL S ∧ o_er ∈ hL S' ∧ Kd S' o_er 4 ∧ hR S' 101 o_e = some o_er ∧ o_err ∉ hL S ∧ o_err ∈ hL S' ∧ Kd S' o_err 14 ∧ Ln S' o_err 20 ∧ hR S' 407 o_er = some o_err ∧ o_ep ∉ hL S ∧ o_ep ∈ hL S' ∧ Kd S' o_ep 10 ∧ hR S' 102 o_e = some o_ep ∧ o_epr ∉ hL S ∧ o_epr ∈ hL S' ∧ Kd S' o_epr 15 ∧ Ln S' o_epr 16 ∧ hR S' 1003 o_ep = some o_epr ∧ o_e1 ∉ hL S ∧ o_e1 ∈ hL S' ∧ Kd S' o_e1 14 ∧ Ln S' o_e1 8 ∧ hR S' 103 o_e = some o_e1 ∧ o_e2 ∉ hL S ∧ o_e2 ∈ hL S' ∧ Kd S' o_e2 14 ∧ Ln S' o_e2 8 ∧ hR S' 104 o_e = some o_e2 ∧ o_ra ∉ hL S ∧ o_ra ∈ hL S' ∧ Kd S' o_ra 19 ∧ Ln S' o_ra 4 ∧ hR S' 912 h = some o_ra ∧ o_ls ∉ hL S ∧ o_ls ∈ hL S' ∧ Kd S' o_ls 14 ∧ Ln S' o_ls 12 ∧ hR S' 917 h = some o_ls ∧ o_r0 ∉ hL S ∧ o_r0 ∈ hL S' ∧ Kd S' o_r0 5 ∧ aR S' o_ra 0 = some o_r0 ∧ hI S' 209 o_f = 0 ∧ NL S [o_c, o_cd, o_cl, o_f, o_fs, o_fss, o_fn, o_fa, o_ts, o_tss, o_bt, o_btr, o_ms, o_mss, o_e, o_es, o_er, o_err, o_ep, o_epr, o_e1, o_e2, o_ra, o_ls, o_r0] S') := by
  refine ct_of (by decide) (Nat.le_of_ble_eq_true rfl) fun x hn9 C M hm9 => ?_
  have C : CB x RX9 cX9_init := C
  refine J.eq (lv' := [(0, .ref h), (1, .ref s0)]) rfl rfl rfl ?_
  refine j_aload_n C dX9_init_0 rfl 0 rfl ?_
  refine j_objInit C mlX9_3 nst_oi (M.fl (by decide)) dX9_init_1 ?_
  refine j_aload_n C dX9_init_4 rfl 0 rfl ?_
  refine j_new (N := 15) C (ci := 0) rfl rfl klX9_9 knX0 kiX0 (M.cells (by decide)) (M.slots (by decide)) dX9_init_5 (fun q_1 hq_2 => ?_)
  have hz_3 : q_1 ∉ hL S := hq_2
  refine j_dup C dX9_init_8 rfl ?_
  have hf_4 : Fm (fun _ _ => False) (fun f9 b9 => b9 = h) (fun _ => False) S (nO S q_1 0) := ((Fm.refl (WI := (fun _ _ => False)) (WR := (fun f9 b9 => b9 = h)) (WA := (fun _ => False))).nO _ hq_2)
  refine j_callI C [] [.ref q_1, .ref h] mlX9_11 mcX0_init (c_X0_init (nO S q_1 0) q_1 mem_new (kd_nO' (k := 0))) (M.rm (by decide) (by decide) (Nat.le_of_ble_eq_true rfl) (Nat.le_of_ble_eq_true rfl)) rfl rfl (Nat.le_of_ble_eq_true rfl) dX9_init_9 (fun r_18 S_19 hp_20 => ?_)
  obtain ⟨rfl, hf_21, q_5, q_6, e_7, e_8, e_9, e_10, e_11, e_12, e_13, e_14, e_15, e_16, hNl_17⟩ := hp_20
  refine J.eq (st' := [.ref q_1, .ref h]) rfl rfl rfl ?_
  have hm_22 : h ∈ hL S_19 := hf_21.mem (mem_old hm)
  have hk_23 : Kd S_19 h 9 := hf_21.kd (mem_old hm) (kd_nO (k := 0) hq_2 hm hk)
  have hm_24 : q_1 ∈ hL S_19 := hf_21.mem mem_new
  have hk_25 : Kd S_19 q_1 0 := hf_21.kd mem_new (kd_nO' (k := 0))
  have hv_26 : hI S_19 2 q_1 = 0 := hf_21.fi mem_new (fun h9 => h9) (rd_nOI' (k := 0))
  have hv_27 : hI S_19 3 q_1 = 0 := hf_21.fi mem_new (fun h9 => h9) (rd_nOI' (k := 0))
  have hv_28 : hI S_19 4 q_1 = 0 := hf_21.fi mem_new (fun h9 => h9) (rd_nOI' (k := 0))
  have hv_29 : hI S_19 5 q_1 = 0 := hf_21.fi mem_new (fun h9 => h9) (rd_nOI' (k := 0))
  have hf_30 : Fm (fun _ _ => False) (fun f9 b9 => b9 = h) (fun _ => False) S S_19 := hf_4.then hf_21 (fun a9 ha9 => ⟨(fun f9 h9 => h9.elim), (fun f9 h9 => (fun h8 => absurd (h8 ▸ ha9) hz_3) h9), (fun h9 => h9.elim)⟩)
  have hN_31 : NL S [q_1] S_19 := NL.mono (show NL S [q_1] (nO S q_1 0) from NL.nO (NL.nil : NL S [] S) hq_2 hz_3) (fun a9 h9 => hf_21.mem h9)
  have hz_32 : q_5 ∉ hL S := fun h9 => e_7 (hf_4.mem h9)
  have hz_33 : q_6 ∉ hL S := fun h9 => e_12 (hf_4.mem h9)
  have hN_34 : NL S [q_1, q_5, q_6] S_19 := NL.app (show NL S [q_1] (nO S q_1 0) from NL.nO (NL.nil : NL S [] S) hq_2 hz_3) hNl_17 (fun a9 h9 => hf_21.mem h9) (fun a9 h9 => hf_4.mem h9)
  refine j_putrF (f := 901) C hm9 flX9_12o (by decide) rfl rfl dX9_init_12 hm_22 hk_23 rfl ?_
  refine j_aload_n C dX9_init_15 rfl 0 rfl ?_
  show J _ _ _ _ _ 16 _
  have hf_37 : Fm (fun _ _ => False) (fun f9 b9 => b9 = h) (fun _ => False) S (sR S_19 901 h (some q_1)) := (hf_30.sR _ (fun _ => rfl))
  refine j_new (N := 10) C (ci := 2) rfl rfl klX9_18 knX2 kiX2 (M.cells (by decide)) (M.slots (by decide)) dX9_init_16 (fun q_35 hq_36 => ?_)
  have hz_38 : q_35 ∉ hL S := fun h9 => hq_36 (hf_37.mem h9)
  refine j_dup C dX9_init_19 rfl ?_
  have hf_39 : Fm (fun _ _ => False) (fun f9 b9 => b9 = h) (fun _ => False) S (nO (sR S_19 901 h (some q_1)) q_35 2) := (hf_37.nO _ hq_36)
  refine j_callI C [] [.ref q_35, .ref h] mlX9_20 mcX2_init (c_X2_init (nO (sR S_19 901 h (some q_1)) q_35 2) q_35 mem_new (kd_nO' (k := 2))) (M.rm (by decide) (by decide) (Nat.le_of_ble_eq_true rfl) (Nat.le_of_ble_eq_true rfl)) rfl rfl (Nat.le_of_ble_eq_true rfl) dX9_init_20 (fun r_65 S_66 hp_67 => ?_)
  obtain ⟨rfl, hf_68, q_40, q_41, q_42, q_43, e_44, e_45, e_46, e_47, e_48, e_49, e_50, e_51, e_52, e_53, e_54, e_55, e_56, e_57, e_58, e_59, e_60, e_61, e_62, e_63, hNl_64⟩ := hp_67
  refine J.eq (st' := [.ref q_35, .ref h]) rfl rfl rfl ?_
  have hm_69 : h ∈ hL S_66 := hf_68.mem (mem_old hm_22)
  have hk_70 : Kd S_66 h 9 := hf_68.kd (mem_old hm_22) (kd_nO (k := 2) hq_36 hm_22 hk_23)
  have hm_71 : q_1 ∈ hL S_66 := hf_68.mem (mem_old hm_24)
  have hk_72 : Kd S_66 q_1 0 := hf_68.kd (mem_old hm_24) (kd_nO (k := 2) hq_36 hm_24 hk_25)
  have hm_73 : q_35 ∈ hL S_66 := hf_68.mem mem_new
  have hk_74 : Kd S_66 q_35 2 := hf_68.kd mem_new (kd_nO' (k := 2))
  have hm_75 : q_5 ∈ hL S_66 := hf_68.mem (mem_old e_8)
  have hk_76 : Kd S_66 q_5 14 := hf_68.kd (mem_old e_8) (kd_nO (k := 2) hq_36 e_8 e_9)
  have hn_77 : Ln S_66 q_5 20000 := hf_68.ln (mem_old e_8) e_10
  have hm_78 : q_6 ∈ hL S_66 := hf_68.mem (mem_old e_13)
  have hk_79 : Kd S_66 q_6 14 := hf_68.kd (mem_old e_13) (kd_nO (k := 2) hq_36 e_13 e_14)
  have hn_80 : Ln S_66 q_6 25 := hf_68.ln (mem_old e_13) e_15
  have hv_81 : hI S_66 2 q_1 = 0 := hf_68.fi (mem_old hm_24) (fun h9 => h9) (rd_nOI (k := 2) hq_36 hm_24 hv_26)
  have hv_82 : hI S_66 206 q_35 = 0 := hf_68.fi mem_new (fun h9 => h9) (rd_nOI' (k := 2))
  have hv_83 : hI S_66 209 q_35 = 0 := hf_68.fi mem_new (fun h9 => h9) (rd_nOI' (k := 2))
  have hv_84 : hI S_66 3 q_1 = 0 := hf_68.fi (mem_old hm_24) (fun h9 => h9) (rd_nOI (k := 2) hq_36 hm_24 hv_27)
  have hv_85 : hI S_66 4 q_1 = 0 := hf_68.fi (mem_old hm_24) (fun h9 => h9) (rd_nOI (k := 2) hq_36 hm_24 hv_28)
  have hv_86 : hI S_66 5 q_1 = 0 := hf_68.fi (mem_old hm_24) (fun h9 => h9) (rd_nOI (k := 2) hq_36 hm_24 hv_29)
  have hv_87 : hR S_66 0 q_1 = (some q_5) := hf_68.fr (mem_old hm_24) (fun q9 => (fun e9 => absurd (((kd_nO (k := 2) hq_36 hm_24 hk_25)).symm.trans ((congrArg (hK _) e9).trans (kd_nO' (k := 2)))) (by decide)) q9) (rd_nOR (k := 2) hq_36 hm_24 (rd_sRf (S := S_19) (g := 901) (a := h) (v := (some q_1)) (by decide) e_11))
  have hv_88 : hR S_66 1 q_1 = (some q_6) := hf_68.fr (mem_old hm_24) (fun q9 => (fun e9 => absurd (((kd_nO (k := 2) hq_36 hm_24 hk_25)).symm.trans ((congrArg (hK _) e9).trans (kd_nO' (k := 2)))) (by decide)) q9) (rd_nOR (k := 2) hq_36 hm_24 (rd_sRf (S := S_19) (g := 901) (a := h) (v := (some q_1)) (by decide) e_16))
  have hv_89 : hR S_66 901 h = (some q_1) := hf_68.fr (mem_old hm_22) (fun q9 => (fun e9 => absurd (((kd_nO (k := 2) hq_36 hm_22 hk_23)).symm.trans ((congrArg (hK _) e9).trans (kd_nO' (k := 2)))) (by decide)) q9) (rd_nOR (k := 2) hq_36 hm_22 (rd_sR (S := S_19) (g := 901) (a := h) (v := (some q_1))))
  have hf_90 : Fm (fun _ _ => False) (fun f9 b9 => b9 = h) (fun _ => False) S S_66 := hf_39.then hf_68 (fun a9 ha9 => ⟨(fun f9 h9 => h9.elim), (fun f9 h9 => (fun h8 => absurd (h8 ▸ ha9) hz_38) h9), (fun h9 => h9.elim)⟩)
  have hN_91 : NL S [q_1, q_5, q_6, q_35] S_66 := NL.mono (show NL S [q_1, q_5, q_6, q_35] (nO (sR S_19 901 h (some q_1)) q_35 2) from NL.nO (NL.sR (S := S_19) hN_34) hq_36 hz_38) (fun a9 h9 => hf_68.mem h9)
  have hz_92 : q_40 ∉ hL S := fun h9 => e_44 (hf_39.mem h9)
  have hz_93 : q_41 ∉ hL S := fun h9 => e_48 (hf_39.mem h9)
  have hz_94 : q_42 ∉ hL S := fun h9 => e_54 (hf_39.mem h9)
  have hz_95 : q_43 ∉ hL S := fun h9 => e_59 (hf_39.mem h9)
  have hN_96 : NL S [q_1, q_5, q_6, q_35, q_40, q_41, q_42, q_43] S_66 := NL.app (show NL S [q_1, q_5, q_6, q_35] (nO (sR S_19 901 h (some q_1)) q_35 2) from NL.nO (NL.sR (S := S_19) hN_34) hq_36 hz_38) hNl_64 (fun a9 h9 => hf_68.mem h9) (fun a9 h9 => hf_39.mem h9)
  refine j_putrF (f := 902) C hm9 flX9_21o (by decide) rfl rfl dX9_init_23 hm_69 hk_70 rfl ?_
  refine j_aload_n C dX9_init_26 rfl 0 rfl ?_
  have hf_99 : Fm (fun _ _ => False) (fun f9 b9 => b9 = h) (fun _ => False) S (sR S_66 902 h (some q_35)) := (hf_90.sR _ (fun _ => rfl))
  refine j_new (N := 1) C (ci := 8) rfl rfl klX9_25 knX8 kiX8 (M.cells (by decide)) (M.slots (by decide)) dX9_init_27 (fun q_97 hq_98 => ?_)
  have hz_100 : q_97 ∉ hL S := fun h9 => hq_98 (hf_99.mem h9)
  refine j_dup C dX9_init_30 rfl ?_
  have hf_101 : Fm (fun _ _ => False) (fun f9 b9 => b9 = h) (fun _ => False) S (nO (sR S_66 902 h (some q_35)) q_97 8) := (hf_99.nO _ hq_98)
  refine j_callI C [] [.ref q_97, .ref h] mlX9_27 mcX8_init (c_X8_init (nO (sR S_66 902 h (some q_35)) q_97 8) q_97 mem_new (kd_nO' (k := 8))) (M.rm (by decide) (by decide) (Nat.le_of_ble_eq_true rfl) (Nat.le_of_ble_eq_true rfl)) rfl rfl (Nat.le_of_ble_eq_true rfl) dX9_init_31 (fun r_110 S_111 hp_112 => ?_)
  obtain ⟨rfl, hf_113, q_102, e_103, e_104, e_105, e_106, e_107, e_108, hNl_109⟩ := hp_112
  refine J.eq (st' := [.ref q_97, .ref h]) rfl rfl rfl ?_
  have hz_114 : ∀ j, aI S_111 q_41 j = 0 := fun j9 => (hf_113.ai (mem_old e_49) (fun h9 => h9) j9).trans (e_53 j9)
  have hm_115 : h ∈ hL S_111 := hf_113.mem (mem_old hm_69)
  have hk_116 : Kd S_111 h 9 := hf_113.kd (mem_old hm_69) (kd_nO (k := 8) hq_98 hm_69 hk_70)
  have hm_117 : q_1 ∈ hL S_111 := hf_113.mem (mem_old hm_71)
  have hk_118 : Kd S_111 q_1 0 := hf_113.kd (mem_old hm_71) (kd_nO (k := 8) hq_98 hm_71 hk_72)
  have hm_119 : q_35 ∈ hL S_111 := hf_113.mem (mem_old hm_73)
  have hk_120 : Kd S_111 q_35 2 := hf_113.kd (mem_old hm_73) (kd_nO (k := 8) hq_98 hm_73 hk_74)
  have hm_121 : q_40 ∈ hL S_111 := hf_113.mem (mem_old e_45)
  have hk_122 : Kd S_111 q_40 8 := hf_113.kd (mem_old e_45) (kd_nO (k := 8) hq_98 e_45 e_46)
  have hm_123 : q_41 ∈ hL S_111 := hf_113.mem (mem_old e_49)
  have hk_124 : Kd S_111 q_41 14 := hf_113.kd (mem_old e_49) (kd_nO (k := 8) hq_98 e_49 e_50)
  have hn_125 : Ln S_111 q_41 16 := hf_113.ln (mem_old e_49) e_51
  have hm_126 : q_42 ∈ hL S_111 := hf_113.mem (mem_old e_55)
  have hk_127 : Kd S_111 q_42 14 := hf_113.kd (mem_old e_55) (kd_nO (k := 8) hq_98 e_55 e_56)
  have hn_128 : Ln S_111 q_42 119 := hf_113.ln (mem_old e_55) e_57
  have hm_129 : q_43 ∈ hL S_111 := hf_113.mem (mem_old e_60)
  have hk_130 : Kd S_111 q_43 14 := hf_113.kd (mem_old e_60) (kd_nO (k := 8) hq_98 e_60 e_61)
  have hn_131 : Ln S_111 q_43 8 := hf_113.ln (mem_old e_60) e_62
  have hm_132 : q_5 ∈ hL S_111 := hf_113.mem (mem_old hm_75)
  have hk_133 : Kd S_111 q_5 14 := hf_113.kd (mem_old hm_75) (kd_nO (k := 8) hq_98 hm_75 hk_76)
  have hn_134 : Ln S_111 q_5 20000 := hf_113.ln (mem_old hm_75) hn_77
  have hm_135 : q_6 ∈ hL S_111 := hf_113.mem (mem_old hm_78)
  have hk_136 : Kd S_111 q_6 14 := hf_113.kd (mem_old hm_78) (kd_nO (k := 8) hq_98 hm_78 hk_79)
  have hn_137 : Ln S_111 q_6 25 := hf_113.ln (mem_old hm_78) hn_80
  have hm_138 : q_97 ∈ hL S_111 := hf_113.mem mem_new
  have hk_139 : Kd S_111 q_97 8 := hf_113.kd mem_new (kd_nO' (k := 8))
  have hv_140 : hI S_111 2 q_1 = 0 := hf_113.fi (mem_old hm_71) (fun h9 => h9) (rd_nOI (k := 8) hq_98 hm_71 hv_81)
  have hv_141 : hI S_111 206 q_35 = 0 := hf_113.fi (mem_old hm_73) (fun h9 => h9) (rd_nOI (k := 8) hq_98 hm_73 hv_82)
  have hv_142 : hI S_111 209 q_35 = 0 := hf_113.fi (mem_old hm_73) (fun h9 => h9) (rd_nOI (k := 8) hq_98 hm_73 hv_83)
  have hv_143 : hI S_111 3 q_1 = 0 := hf_113.fi (mem_old hm_71) (fun h9 => h9) (rd_nOI (k := 8) hq_98 hm_71 hv_84)
  have hv_144 : hI S_111 4 q_1 = 0 := hf_113.fi (mem_old hm_71) (fun h9 => h9) (rd_nOI (k := 8) hq_98 hm_71 hv_85)
  have hv_145 : hI S_111 5 q_1 = 0 := hf_113.fi (mem_old hm_71) (fun h9 => h9) (rd_nOI (k := 8) hq_98 hm_71 hv_86)
  have hv_146 : hR S_111 0 q_1 = (some q_5) := hf_113.fr (mem_old hm_71) (fun q9 => (fun e9 => absurd (((kd_nO (k := 8) hq_98 hm_71 hk_72)).symm.trans ((congrArg (hK _) e9).trans (kd_nO' (k := 8)))) (by decide)) q9) (rd_nOR (k := 8) hq_98 hm_71 (rd_sRf (S := S_66) (g := 902) (a := h) (v := (some q_35)) (by decide) hv_87))
  have hv_147 : hR S_111 1 q_1 = (some q_6) := hf_113.fr (mem_old hm_71) (fun q9 => (fun e9 => absurd (((kd_nO (k := 8) hq_98 hm_71 hk_72)).symm.trans ((congrArg (hK _) e9).trans (kd_nO' (k := 8)))) (by decide)) q9) (rd_nOR (k := 8) hq_98 hm_71 (rd_sRf (S := S_66) (g := 902) (a := h) (v := (some q_35)) (by decide) hv_88))
  have hv_148 : hR S_111 200 q_35 = (some q_40) := hf_113.fr (mem_old hm_73) (fun q9 => (fun e9 => absurd (((kd_nO (k := 8) hq_98 hm_73 hk_74)).symm.trans ((congrArg (hK _) e9).trans (kd_nO' (k := 8)))) (by decide)) q9) (rd_nOR (k := 8) hq_98 hm_73 (rd_sRf (S := S_66) (g := 902) (a := h) (v := (some q_35)) (by decide) e_47))
  have hv_149 : hR S_111 201 q_35 = (some q_42) := hf_113.fr (mem_old hm_73) (fun q9 => (fun e9 => absurd (((kd_nO (k := 8) hq_98 hm_73 hk_74)).symm.trans ((congrArg (hK _) e9).trans (kd_nO' (k := 8)))) (by decide)) q9) (rd_nOR (k := 8) hq_98 hm_73 (rd_sRf (S := S_66) (g := 902) (a := h) (v := (some q_35)) (by decide) e_58))
  have hv_150 : hR S_111 207 q_35 = (some q_43) := hf_113.fr (mem_old hm_73) (fun q9 => (fun e9 => absurd (((kd_nO (k := 8) hq_98 hm_73 hk_74)).symm.trans ((congrArg (hK _) e9).trans (kd_nO' (k := 8)))) (by decide)) q9) (rd_nOR (k := 8) hq_98 hm_73 (rd_sRf (S := S_66) (g := 902) (a := h) (v := (some q_35)) (by decide) e_63))
  have hv_151 : hR S_111 800 q_40 = (some q_41) := hf_113.fr (mem_old e_45) (fun q9 => (ne_of_nin hq_98 e_45) q9) (rd_nOR (k := 8) hq_98 e_45 (rd_sRf (S := S_66) (g := 902) (a := h) (v := (some q_35)) (by decide) e_52))
  have hv_152 : hR S_111 901 h = (some q_1) := hf_113.fr (mem_old hm_69) (fun q9 => (fun e9 => absurd (((kd_nO (k := 8) hq_98 hm_69 hk_70)).symm.trans ((congrArg (hK _) e9).trans (kd_nO' (k := 8)))) (by decide)) q9) (rd_nOR (k := 8) hq_98 hm_69 (rd_sRf (S := S_66) (g := 902) (a := h) (v := (some q_35)) (by decide) hv_89))
  have hv_153 : hR S_111 902 h = (some q_35) := hf_113.fr (mem_old hm_69) (fun q9 => (fun e9 => absurd (((kd_nO (k := 8) hq_98 hm_69 hk_70)).symm.trans ((congrArg (hK _) e9).trans (kd_nO' (k := 8)))) (by decide)) q9) (rd_nOR (k := 8) hq_98 hm_69 (rd_sR (S := S_66) (g := 902) (a := h) (v := (some q_35))))
  have hf_154 : Fm (fun _ _ => False) (fun f9 b9 => b9 = h) (fun _ => False) S S_111 := hf_101.then hf_113 (fun a9 ha9 => ⟨(fun f9 h9 => h9.elim), (fun f9 h9 => (fun h8 => absurd (h8 ▸ ha9) hz_100) h9), (fun h9 => h9.elim)⟩)
  have hN_155 : NL S [q_1, q_5, q_6, q_35, q_40, q_41, q_42, q_43, q_97] S_111 := NL.mono (show NL S [q_1, q_5, q_6, q_35, q_40, q_41, q_42, q_43, q_97] (nO (sR S_66 902 h (some q_35)) q_97 8) from NL.nO (NL.sR (S := S_66) hN_96) hq_98 hz_100) (fun a9 h9 => hf_113.mem h9)
  have hz_156 : q_102 ∉ hL S := fun h9 => e_103 (hf_101.mem h9)
  have hN_157 : NL S [q_1, q_5, q_6, q_35, q_40, q_41, q_42, q_43, q_97, q_102] S_111 := NL.app (show NL S [q_1, q_5, q_6, q_35, q_40, q_41, q_42, q_43, q_97] (nO (sR S_66 902 h (some q_35)) q_97 8) from NL.nO (NL.sR (S := S_66) hN_96) hq_98 hz_100) hNl_109 (fun a9 h9 => hf_113.mem h9) (fun a9 h9 => hf_101.mem h9)
  show J _ _ _ _ _ 34 _
  refine j_putrF (f := 903) C hm9 flX9_28o (by decide) rfl rfl dX9_init_34 hm_115 hk_116 rfl ?_
  refine j_aload_n C dX9_init_37 rfl 0 rfl ?_
  refine j_bipush (v := 16) C dX9_init_38 (by decide) ?_
  have hf_160 : Fm (fun _ _ => False) (fun f9 b9 => b9 = h) (fun _ => False) S (sR S_111 903 h (some q_97)) := (hf_154.sR _ (fun _ => rfl))
  refine j_newQ (N := 16) C 20 (by decide) rfl klX9_32 (gx_Tile C) (by decide) (by decide) (by decide) (M.cells (by decide)) (M.slots (by decide)) dX9_init_40 (fun q_158 hq_159 => ?_)
  have hz_161 : q_158 ∉ hL S := fun h9 => hq_159 (hf_160.mem h9)
  refine j_putrF (f := 904) C hm9 flX9_34o (by decide) rfl rfl dX9_init_43 (mem_old hm_115) (kd_nA (k := 20) (n := 16) hq_159 hm_115 hk_116) rfl ?_
  refine j_aload_n C dX9_init_46 rfl 0 rfl ?_
  have hf_164 : Fm (fun _ _ => False) (fun f9 b9 => b9 = h) (fun _ => False) S (sR (nA (sR S_111 903 h (some q_97)) q_158 20 16) 904 h (some q_158)) := ((hf_160.nA _ _ hq_159).sR _ (fun _ => rfl))
  obtain ⟨S_162, eS_163⟩ : ∃ S9 : Hp, S9 = (sR (nA (sR S_111 903 h (some q_97)) q_158 20 16) 904 h (some q_158)) := ⟨_, rfl⟩
  refine J.eq (S' := S_162) eS_163.symm rfl rfl ?_
  have hm_165 : h ∈ hL S_162 := by rw [eS_163]; exact (mem_old hm_115)
  have hk_166 : Kd S_162 h 9 := by rw [eS_163]; exact (kd_nA (k := 20) (n := 16) hq_159 hm_115 hk_116)
  have hm_167 : q_1 ∈ hL S_162 := by rw [eS_163]; exact (mem_old hm_117)
  have hk_168 : Kd S_162 q_1 0 := by rw [eS_163]; exact (kd_nA (k := 20) (n := 16) hq_159 hm_117 hk_118)
  have hm_169 : q_102 ∈ hL S_162 := by rw [eS_163]; exact (mem_old e_104)
  have hk_170 : Kd S_162 q_102 14 := by rw [eS_163]; exact (kd_nA (k := 20) (n := 16) hq_159 e_104 e_105)
  have hn_171 : Ln S_162 q_102 16 := by rw [eS_163]; exact (ln_nA (k := 20) hq_159 e_104 e_106)
  have hz_172 : ∀ j, aI S_162 q_102 j = 0 := by rw [eS_163]; exact (fun j9 => rd_nAI (k := 20) (n := 16) hq_159 e_104 (e_108 j9))
  have hm_173 : q_158 ∈ hL S_162 := by rw [eS_163]; exact mem_new
  have hk_174 : Kd S_162 q_158 20 := by rw [eS_163]; exact (kd_nA' (k := 20) (n := 16))
  have hn_175 : Ln S_162 q_158 16 := by rw [eS_163]; exact (ln_nA' (k := 20))
  have hz_176 : ∀ j, aI S_162 q_158 j = 0 := by rw [eS_163]; exact (fun j9 => rd_nAI' (k := 20) (n := 16))
  have hm_177 : q_35 ∈ hL S_162 := by rw [eS_163]; exact (mem_old hm_119)
  have hk_178 : Kd S_162 q_35 2 := by rw [eS_163]; exact (kd_nA (k := 20) (n := 16) hq_159 hm_119 hk_120)
  have hm_179 : q_40 ∈ hL S_162 := by rw [eS_163]; exact (mem_old hm_121)
  have hk_180 : Kd S_162 q_40 8 := by rw [eS_163]; exact (kd_nA (k := 20) (n := 16) hq_159 hm_121 hk_122)
  have hm_181 : q_41 ∈ hL S_162 := by rw [eS_163]; exact (mem_old hm_123)
  have hk_182 : Kd S_162 q_41 14 := by rw [eS_163]; exact (kd_nA (k := 20) (n := 16) hq_159 hm_123 hk_124)
  have hn_183 : Ln S_162 q_41 16 := by rw [eS_163]; exact (ln_nA (k := 20) hq_159 hm_123 hn_125)
  have hz_184 : ∀ j, aI S_162 q_41 j = 0 := by rw [eS_163]; exact (fun j9 => rd_nAI (k := 20) (n := 16) hq_159 hm_123 (hz_114 j9))
  have hm_185 : q_42 ∈ hL S_162 := by rw [eS_163]; exact (mem_old hm_126)
  have hk_186 : Kd S_162 q_42 14 := by rw [eS_163]; exact (kd_nA (k := 20) (n := 16) hq_159 hm_126 hk_127)
  have hn_187 : Ln S_162 q_42 119 := by rw [eS_163]; exact (ln_nA (k := 20) hq_159 hm_126 hn_128)
  have hm_188 : q_43 ∈ hL S_162 := by rw [eS_163]; exact (mem_old hm_129)
  have hk_189 : Kd S_162 q_43 14 := by rw [eS_163]; exact (kd_nA (k := 20) (n := 16) hq_159 hm_129 hk_130)
  have hn_190 : Ln S_162 q_43 8 := by rw [eS_163]; exact (ln_nA (k := 20) hq_159 hm_129 hn_131)
  have hm_191 : q_5 ∈ hL S_162 := by rw [eS_163]; exact (mem_old hm_132)
  have hk_192 : Kd S_162 q_5 14 := by rw [eS_163]; exact (kd_nA (k := 20) (n := 16) hq_159 hm_132 hk_133)
  have hn_193 : Ln S_162 q_5 20000 := by rw [eS_163]; exact (ln_nA (k := 20) hq_159 hm_132 hn_134)
  have hm_194 : q_6 ∈ hL S_162 := by rw [eS_163]; exact (mem_old hm_135)
  have hk_195 : Kd S_162 q_6 14 := by rw [eS_163]; exact (kd_nA (k := 20) (n := 16) hq_159 hm_135 hk_136)
  have hn_196 : Ln S_162 q_6 25 := by rw [eS_163]; exact (ln_nA (k := 20) hq_159 hm_135 hn_137)
  have hm_197 : q_97 ∈ hL S_162 := by rw [eS_163]; exact (mem_old hm_138)
  have hk_198 : Kd S_162 q_97 8 := by rw [eS_163]; exact (kd_nA (k := 20) (n := 16) hq_159 hm_138 hk_139)
  have hv_199 : hI S_162 2 q_1 = 0 := by rw [eS_163]; exact hv_140
  have hv_200 : hI S_162 206 q_35 = 0 := by rw [eS_163]; exact hv_141
  have hv_201 : hI S_162 209 q_35 = 0 := by rw [eS_163]; exact hv_142
  have hv_202 : hI S_162 3 q_1 = 0 := by rw [eS_163]; exact hv_143
  have hv_203 : hI S_162 4 q_1 = 0 := by rw [eS_163]; exact hv_144
  have hv_204 : hI S_162 5 q_1 = 0 := by rw [eS_163]; exact hv_145
  have hv_205 : hR S_162 0 q_1 = (some q_5) := by rw [eS_163]; exact (rd_sRf (S := (nA (sR S_111 903 h (some q_97)) q_158 20 16)) (g := 904) (a := h) (v := (some q_158)) (by decide) (rd_sRf (S := S_111) (g := 903) (a := h) (v := (some q_97)) (by decide) hv_146))
  have hv_206 : hR S_162 1 q_1 = (some q_6) := by rw [eS_163]; exact (rd_sRf (S := (nA (sR S_111 903 h (some q_97)) q_158 20 16)) (g := 904) (a := h) (v := (some q_158)) (by decide) (rd_sRf (S := S_111) (g := 903) (a := h) (v := (some q_97)) (by decide) hv_147))
  have hv_207 : hR S_162 200 q_35 = (some q_40) := by rw [eS_163]; exact (rd_sRf (S := (nA (sR S_111 903 h (some q_97)) q_158 20 16)) (g := 904) (a := h) (v := (some q_158)) (by decide) (rd_sRf (S := S_111) (g := 903) (a := h) (v := (some q_97)) (by decide) hv_148))
  have hv_208 : hR S_162 201 q_35 = (some q_42) := by rw [eS_163]; exact (rd_sRf (S := (nA (sR S_111 903 h (some q_97)) q_158 20 16)) (g := 904) (a := h) (v := (some q_158)) (by decide) (rd_sRf (S := S_111) (g := 903) (a := h) (v := (some q_97)) (by decide) hv_149))
  have hv_209 : hR S_162 207 q_35 = (some q_43) := by rw [eS_163]; exact (rd_sRf (S := (nA (sR S_111 903 h (some q_97)) q_158 20 16)) (g := 904) (a := h) (v := (some q_158)) (by decide) (rd_sRf (S := S_111) (g := 903) (a := h) (v := (some q_97)) (by decide) hv_150))
  have hv_210 : hR S_162 800 q_40 = (some q_41) := by rw [eS_163]; exact (rd_sRf (S := (nA (sR S_111 903 h (some q_97)) q_158 20 16)) (g := 904) (a := h) (v := (some q_158)) (by decide) (rd_sRf (S := S_111) (g := 903) (a := h) (v := (some q_97)) (by decide) hv_151))
  have hv_211 : hR S_162 800 q_97 = (some q_102) := by rw [eS_163]; exact (rd_sRf (S := (nA (sR S_111 903 h (some q_97)) q_158 20 16)) (g := 904) (a := h) (v := (some q_158)) (by decide) (rd_sRf (S := S_111) (g := 903) (a := h) (v := (some q_97)) (by decide) e_107))
  have hv_212 : hR S_162 901 h = (some q_1) := by rw [eS_163]; exact (rd_sRf (S := (nA (sR S_111 903 h (some q_97)) q_158 20 16)) (g := 904) (a := h) (v := (some q_158)) (by decide) (rd_sRf (S := S_111) (g := 903) (a := h) (v := (some q_97)) (by decide) hv_152))
  have hv_213 : hR S_162 902 h = (some q_35) := by rw [eS_163]; exact (rd_sRf (S := (nA (sR S_111 903 h (some q_97)) q_158 20 16)) (g := 904) (a := h) (v := (some q_158)) (by decide) (rd_sRf (S := S_111) (g := 903) (a := h) (v := (some q_97)) (by decide) hv_153))
  have hv_214 : hR S_162 903 h = (some q_97) := by rw [eS_163]; exact (rd_sRf (S := (nA (sR S_111 903 h (some q_97)) q_158 20 16)) (g := 904) (a := h) (v := (some q_158)) (by decide) (rd_sR (S := S_111) (g := 903) (a := h) (v := (some q_97))))
  have hv_215 : hR S_162 904 h = (some q_158) := by rw [eS_163]; exact (rd_sR (S := (nA (sR S_111 903 h (some q_97)) q_158 20 16)) (g := 904) (a := h) (v := (some q_158)))
  have hf_216 : Fm (fun _ _ => False) (fun f9 b9 => b9 = h) (fun _ => False) S S_162 := by rw [eS_163]; exact hf_164
  have hN_217 : NL S [q_1, q_5, q_6, q_35, q_40, q_41, q_42, q_43, q_97, q_102] S_162 := by rw [eS_163]; exact (NL.sR (S := (nA (sR S_111 903 h (some q_97)) q_158 20 16)) (show NL S [q_1, q_5, q_6, q_35, q_40, q_41, q_42, q_43, q_97, q_102] (nA (sR S_111 903 h (some q_97)) q_158 20 16) from NL.oldA (NL.sR (S := S_111) hN_157)))
  refine j_new (N := 4) C (ci := 10) rfl rfl klX9_32 knX10 kiX10 (M.cells (by decide)) (M.slots (by decide)) dX9_init_47 (fun q_218 hq_219 => ?_)
  have hz_220 : q_218 ∉ hL S := fun h9 => hq_219 (hf_216.mem h9)
  refine j_dup C dX9_init_50 rfl ?_
  show J _ _ _ _ _ 51 _
  have hf_221 : Fm (fun _ _ => False) (fun f9 b9 => b9 = h) (fun _ => False) S (nO S_162 q_218 10) := (hf_216.nO _ hq_219)
  refine j_callI C [] [.ref q_218, .ref h] mlX9_38 mcX10_init (c_X10_init (nO S_162 q_218 10) q_218 mem_new (kd_nO' (k := 10))) (M.rm (by decide) (by decide) (Nat.le_of_ble_eq_true rfl) (Nat.le_of_ble_eq_true rfl)) rfl rfl (Nat.le_of_ble_eq_true rfl) dX9_init_51 (fun r_231 S_232 hp_233 => ?_)
  obtain ⟨rfl, hf_234, e_223, e_224, q_222, e_225, e_226, e_227, e_228, e_229, hNl_230⟩ := hp_233
  refine J.eq (st' := [.ref q_218, .ref h]) rfl rfl rfl ?_
  have hz_235 : ∀ j, aI S_232 q_102 j = 0 := fun j9 => (hf_234.ai (mem_old hm_169) (fun h9 => h9) j9).trans (hz_172 j9)
  have hz_236 : ∀ j, aI S_232 q_158 j = 0 := fun j9 => (hf_234.ai (mem_old hm_173) (fun h9 => h9) j9).trans (hz_176 j9)
  have hz_237 : ∀ j, aI S_232 q_41 j = 0 := fun j9 => (hf_234.ai (mem_old hm_181) (fun h9 => h9) j9).trans (hz_184 j9)
  have hm_238 : h ∈ hL S_232 := hf_234.mem (mem_old hm_165)
  have hk_239 : Kd S_232 h 9 := hf_234.kd (mem_old hm_165) (kd_nO (k := 10) hq_219 hm_165 hk_166)
  have hm_240 : q_1 ∈ hL S_232 := hf_234.mem (mem_old hm_167)
  have hk_241 : Kd S_232 q_1 0 := hf_234.kd (mem_old hm_167) (kd_nO (k := 10) hq_219 hm_167 hk_168)
  have hm_242 : q_102 ∈ hL S_232 := hf_234.mem (mem_old hm_169)
  have hk_243 : Kd S_232 q_102 14 := hf_234.kd (mem_old hm_169) (kd_nO (k := 10) hq_219 hm_169 hk_170)
  have hn_244 : Ln S_232 q_102 16 := hf_234.ln (mem_old hm_169) hn_171
  have hm_245 : q_158 ∈ hL S_232 := hf_234.mem (mem_old hm_173)
  have hk_246 : Kd S_232 q_158 20 := hf_234.kd (mem_old hm_173) (kd_nO (k := 10) hq_219 hm_173 hk_174)
  have hn_247 : Ln S_232 q_158 16 := hf_234.ln (mem_old hm_173) hn_175
  have hm_248 : q_218 ∈ hL S_232 := hf_234.mem mem_new
  have hk_249 : Kd S_232 q_218 10 := hf_234.kd mem_new (kd_nO' (k := 10))
  have hm_250 : q_35 ∈ hL S_232 := hf_234.mem (mem_old hm_177)
  have hk_251 : Kd S_232 q_35 2 := hf_234.kd (mem_old hm_177) (kd_nO (k := 10) hq_219 hm_177 hk_178)
  have hm_252 : q_40 ∈ hL S_232 := hf_234.mem (mem_old hm_179)
  have hk_253 : Kd S_232 q_40 8 := hf_234.kd (mem_old hm_179) (kd_nO (k := 10) hq_219 hm_179 hk_180)
  have hm_254 : q_41 ∈ hL S_232 := hf_234.mem (mem_old hm_181)
  have hk_255 : Kd S_232 q_41 14 := hf_234.kd (mem_old hm_181) (kd_nO (k := 10) hq_219 hm_181 hk_182)
  have hn_256 : Ln S_232 q_41 16 := hf_234.ln (mem_old hm_181) hn_183
  have hm_257 : q_42 ∈ hL S_232 := hf_234.mem (mem_old hm_185)
  have hk_258 : Kd S_232 q_42 14 := hf_234.kd (mem_old hm_185) (kd_nO (k := 10) hq_219 hm_185 hk_186)
  have hn_259 : Ln S_232 q_42 119 := hf_234.ln (mem_old hm_185) hn_187
  have hm_260 : q_43 ∈ hL S_232 := hf_234.mem (mem_old hm_188)
  have hk_261 : Kd S_232 q_43 14 := hf_234.kd (mem_old hm_188) (kd_nO (k := 10) hq_219 hm_188 hk_189)
  have hn_262 : Ln S_232 q_43 8 := hf_234.ln (mem_old hm_188) hn_190
  have hm_263 : q_5 ∈ hL S_232 := hf_234.mem (mem_old hm_191)
  have hk_264 : Kd S_232 q_5 14 := hf_234.kd (mem_old hm_191) (kd_nO (k := 10) hq_219 hm_191 hk_192)
  have hn_265 : Ln S_232 q_5 20000 := hf_234.ln (mem_old hm_191) hn_193
  have hm_266 : q_6 ∈ hL S_232 := hf_234.mem (mem_old hm_194)
  have hk_267 : Kd S_232 q_6 14 := hf_234.kd (mem_old hm_194) (kd_nO (k := 10) hq_219 hm_194 hk_195)
  have hn_268 : Ln S_232 q_6 25 := hf_234.ln (mem_old hm_194) hn_196
  have hm_269 : q_97 ∈ hL S_232 := hf_234.mem (mem_old hm_197)
  have hk_270 : Kd S_232 q_97 8 := hf_234.kd (mem_old hm_197) (kd_nO (k := 10) hq_219 hm_197 hk_198)
  have hv_271 : hI S_232 2 q_1 = 0 := hf_234.fi (mem_old hm_167) (fun h9 => h9.elim (fun q9 => absurd q9.1 (by decide)) (fun q9 => absurd q9.1 (by decide))) (rd_nOI (k := 10) hq_219 hm_167 hv_199)
  have hv_272 : hI S_232 206 q_35 = 0 := hf_234.fi (mem_old hm_177) (fun h9 => h9.elim (fun q9 => absurd q9.1 (by decide)) (fun q9 => absurd q9.1 (by decide))) (rd_nOI (k := 10) hq_219 hm_177 hv_200)
  have hv_273 : hI S_232 209 q_35 = 0 := hf_234.fi (mem_old hm_177) (fun h9 => h9.elim (fun q9 => absurd q9.1 (by decide)) (fun q9 => absurd q9.1 (by decide))) (rd_nOI (k := 10) hq_219 hm_177 hv_201)
  have hv_274 : hI S_232 3 q_1 = 0 := hf_234.fi (mem_old hm_167) (fun h9 => h9.elim (fun q9 => absurd q9.1 (by decide)) (fun q9 => absurd q9.1 (by decide))) (rd_nOI (k := 10) hq_219 hm_167 hv_202)
  have hv_275 : hI S_232 4 q_1 = 0 := hf_234.fi (mem_old hm_167) (fun h9 => h9.elim (fun q9 => absurd q9.1 (by decide)) (fun q9 => absurd q9.1 (by decide))) (rd_nOI (k := 10) hq_219 hm_167 hv_203)
  have hv_276 : hI S_232 5 q_1 = 0 := hf_234.fi (mem_old hm_167) (fun h9 => h9.elim (fun q9 => absurd q9.1 (by decide)) (fun q9 => absurd q9.1 (by decide))) (rd_nOI (k := 10) hq_219 hm_167 hv_204)
  have hv_277 : hR S_232 0 q_1 = (some q_5) := hf_234.fr (mem_old hm_167) (fun q9 => (fun e9 => absurd (((kd_nO (k := 10) hq_219 hm_167 hk_168)).symm.trans ((congrArg (hK _) e9).trans (kd_nO' (k := 10)))) (by decide)) q9) (rd_nOR (k := 10) hq_219 hm_167 hv_205)
  have hv_278 : hR S_232 1 q_1 = (some q_6) := hf_234.fr (mem_old hm_167) (fun q9 => (fun e9 => absurd (((kd_nO (k := 10) hq_219 hm_167 hk_168)).symm.trans ((congrArg (hK _) e9).trans (kd_nO' (k := 10)))) (by decide)) q9) (rd_nOR (k := 10) hq_219 hm_167 hv_206)
  have hv_279 : hR S_232 200 q_35 = (some q_40) := hf_234.fr (mem_old hm_177) (fun q9 => (fun e9 => absurd (((kd_nO (k := 10) hq_219 hm_177 hk_178)).symm.trans ((congrArg (hK _) e9).trans (kd_nO' (k := 10)))) (by decide)) q9) (rd_nOR (k := 10) hq_219 hm_177 hv_207)
  have hv_280 : hR S_232 201 q_35 = (some q_42) := hf_234.fr (mem_old hm_177) (fun q9 => (fun e9 => absurd (((kd_nO (k := 10) hq_219 hm_177 hk_178)).symm.trans ((congrArg (hK _) e9).trans (kd_nO' (k := 10)))) (by decide)) q9) (rd_nOR (k := 10) hq_219 hm_177 hv_208)
  have hv_281 : hR S_232 207 q_35 = (some q_43) := hf_234.fr (mem_old hm_177) (fun q9 => (fun e9 => absurd (((kd_nO (k := 10) hq_219 hm_177 hk_178)).symm.trans ((congrArg (hK _) e9).trans (kd_nO' (k := 10)))) (by decide)) q9) (rd_nOR (k := 10) hq_219 hm_177 hv_209)
  have hv_282 : hR S_232 800 q_40 = (some q_41) := hf_234.fr (mem_old hm_179) (fun q9 => (fun e9 => absurd (((kd_nO (k := 10) hq_219 hm_179 hk_180)).symm.trans ((congrArg (hK _) e9).trans (kd_nO' (k := 10)))) (by decide)) q9) (rd_nOR (k := 10) hq_219 hm_179 hv_210)
  have hv_283 : hR S_232 800 q_97 = (some q_102) := hf_234.fr (mem_old hm_197) (fun q9 => (fun e9 => absurd (((kd_nO (k := 10) hq_219 hm_197 hk_198)).symm.trans ((congrArg (hK _) e9).trans (kd_nO' (k := 10)))) (by decide)) q9) (rd_nOR (k := 10) hq_219 hm_197 hv_211)
  have hv_284 : hR S_232 901 h = (some q_1) := hf_234.fr (mem_old hm_165) (fun q9 => (fun e9 => absurd (((kd_nO (k := 10) hq_219 hm_165 hk_166)).symm.trans ((congrArg (hK _) e9).trans (kd_nO' (k := 10)))) (by decide)) q9) (rd_nOR (k := 10) hq_219 hm_165 hv_212)
  have hv_285 : hR S_232 902 h = (some q_35) := hf_234.fr (mem_old hm_165) (fun q9 => (fun e9 => absurd (((kd_nO (k := 10) hq_219 hm_165 hk_166)).symm.trans ((congrArg (hK _) e9).trans (kd_nO' (k := 10)))) (by decide)) q9) (rd_nOR (k := 10) hq_219 hm_165 hv_213)
  have hv_286 : hR S_232 903 h = (some q_97) := hf_234.fr (mem_old hm_165) (fun q9 => (fun e9 => absurd (((kd_nO (k := 10) hq_219 hm_165 hk_166)).symm.trans ((congrArg (hK _) e9).trans (kd_nO' (k := 10)))) (by decide)) q9) (rd_nOR (k := 10) hq_219 hm_165 hv_214)
  have hv_287 : hR S_232 904 h = (some q_158) := hf_234.fr (mem_old hm_165) (fun q9 => (fun e9 => absurd (((kd_nO (k := 10) hq_219 hm_165 hk_166)).symm.trans ((congrArg (hK _) e9).trans (kd_nO' (k := 10)))) (by decide)) q9) (rd_nOR (k := 10) hq_219 hm_165 hv_215)
  have hf_288 : Fm (fun _ _ => False) (fun f9 b9 => b9 = h) (fun _ => False) S S_232 := hf_221.then hf_234 (fun a9 ha9 => ⟨(fun f9 h9 => (fun h9 => h9.elim (fun h8 => absurd (h8.2 ▸ ha9) hz_220) (fun h8 => absurd (h8.2 ▸ ha9) hz_220)) h9), (fun f9 h9 => (fun h8 => absurd (h8 ▸ ha9) hz_220) h9), (fun h9 => h9.elim)⟩)
  have hN_289 : NL S [q_1, q_5, q_6, q_35, q_40, q_41, q_42, q_43, q_97, q_102, q_218] S_232 := NL.mono (show NL S [q_1, q_5, q_6, q_35, q_40, q_41, q_42, q_43, q_97, q_102, q_218] (nO S_162 q_218 10) from NL.nO hN_217 hq_219 hz_220) (fun a9 h9 => hf_234.mem h9)
  have hz_290 : q_222 ∉ hL S := fun h9 => e_225 (hf_221.mem h9)
  have hN_291 : NL S [q_1, q_5, q_6, q_35, q_40, q_41, q_42, q_43, q_97, q_102, q_218, q_222] S_232 := NL.app (show NL S [q_1, q_5, q_6, q_35, q_40, q_41, q_42, q_43, q_97, q_102, q_218] (nO S_162 q_218 10) from NL.nO hN_217 hq_219 hz_220) hNl_230 (fun a9 h9 => hf_234.mem h9) (fun a9 h9 => hf_221.mem h9)
  refine j_putrF (f := 905) C hm9 flX9_39o (by decide) rfl rfl dX9_init_54 hm_238 hk_239 rfl ?_
  refine j_aload_n C dX9_init_57 rfl 0 rfl ?_
  have hf_294 : Fm (fun _ _ => False) (fun f9 b9 => b9 = h) (fun _ => False) S (sR S_232 905 h (some q_218)) := (hf_288.sR _ (fun _ => rfl))
  refine j_new (N := 1) C (ci := 8) rfl rfl klX9_25 knX8 kiX8 (M.cells (by decide)) (M.slots (by decide)) dX9_init_58 (fun q_292 hq_293 => ?_)
  have hz_295 : q_292 ∉ hL S := fun h9 => hq_293 (hf_294.mem h9)
  refine j_dup C dX9_init_61 rfl ?_
  have hf_296 : Fm (fun _ _ => False) (fun f9 b9 => b9 = h) (fun _ => False) S (nO (sR S_232 905 h (some q_218)) q_292 8) := (hf_294.nO _ hq_293)
  refine j_callI C [] [.ref q_292, .ref h] mlX9_27 mcX8_init (c_X8_init (nO (sR S_232 905 h (some q_218)) q_292 8) q_292 mem_new (kd_nO' (k := 8))) (M.rm (by decide) (by decide) (Nat.le_of_ble_eq_true rfl) (Nat.le_of_ble_eq_true rfl)) rfl rfl (Nat.le_of_ble_eq_true rfl) dX9_init_62 (fun r_305 S_306 hp_307 => ?_)
  obtain ⟨rfl, hf_308, q_297, e_298, e_299, e_300, e_301, e_302, e_303, hNl_304⟩ := hp_307
  refine J.eq (st' := [.ref q_292, .ref h]) rfl rfl rfl ?_
  have hz_309 : ∀ j, aI S_306 q_102 j = 0 := fun j9 => (hf_308.ai (mem_old hm_242) (fun h9 => h9) j9).trans (hz_235 j9)
  have hz_310 : ∀ j, aI S_306 q_158 j = 0 := fun j9 => (hf_308.ai (mem_old hm_245) (fun h9 => h9) j9).trans (hz_236 j9)
  have hz_311 : ∀ j, aI S_306 q_41 j = 0 := fun j9 => (hf_308.ai (mem_old hm_254) (fun h9 => h9) j9).trans (hz_237 j9)
  have hm_312 : h ∈ hL S_306 := hf_308.mem (mem_old hm_238)
  have hk_313 : Kd S_306 h 9 := hf_308.kd (mem_old hm_238) (kd_nO (k := 8) hq_293 hm_238 hk_239)
  have hm_314 : q_1 ∈ hL S_306 := hf_308.mem (mem_old hm_240)
  have hk_315 : Kd S_306 q_1 0 := hf_308.kd (mem_old hm_240) (kd_nO (k := 8) hq_293 hm_240 hk_241)
  have hm_316 : q_102 ∈ hL S_306 := hf_308.mem (mem_old hm_242)
  have hk_317 : Kd S_306 q_102 14 := hf_308.kd (mem_old hm_242) (kd_nO (k := 8) hq_293 hm_242 hk_243)
  have hn_318 : Ln S_306 q_102 16 := hf_308.ln (mem_old hm_242) hn_244
  have hm_319 : q_158 ∈ hL S_306 := hf_308.mem (mem_old hm_245)
  have hk_320 : Kd S_306 q_158 20 := hf_308.kd (mem_old hm_245) (kd_nO (k := 8) hq_293 hm_245 hk_246)
  have hn_321 : Ln S_306 q_158 16 := hf_308.ln (mem_old hm_245) hn_247
  have hm_322 : q_218 ∈ hL S_306 := hf_308.mem (mem_old hm_248)
  have hk_323 : Kd S_306 q_218 10 := hf_308.kd (mem_old hm_248) (kd_nO (k := 8) hq_293 hm_248 hk_249)
  have hm_324 : q_222 ∈ hL S_306 := hf_308.mem (mem_old e_226)
  have hk_325 : Kd S_306 q_222 15 := hf_308.kd (mem_old e_226) (kd_nO (k := 8) hq_293 e_226 e_227)
  have hn_326 : Ln S_306 q_222 16 := hf_308.ln (mem_old e_226) e_228
  have hm_327 : q_292 ∈ hL S_306 := hf_308.mem mem_new
  have hk_328 : Kd S_306 q_292 8 := hf_308.kd mem_new (kd_nO' (k := 8))
  have hm_329 : q_35 ∈ hL S_306 := hf_308.mem (mem_old hm_250)
  have hk_330 : Kd S_306 q_35 2 := hf_308.kd (mem_old hm_250) (kd_nO (k := 8) hq_293 hm_250 hk_251)
  have hm_331 : q_40 ∈ hL S_306 := hf_308.mem (mem_old hm_252)
  have hk_332 : Kd S_306 q_40 8 := hf_308.kd (mem_old hm_252) (kd_nO (k := 8) hq_293 hm_252 hk_253)
  have hm_333 : q_41 ∈ hL S_306 := hf_308.mem (mem_old hm_254)
  have hk_334 : Kd S_306 q_41 14 := hf_308.kd (mem_old hm_254) (kd_nO (k := 8) hq_293 hm_254 hk_255)
  have hn_335 : Ln S_306 q_41 16 := hf_308.ln (mem_old hm_254) hn_256
  have hm_336 : q_42 ∈ hL S_306 := hf_308.mem (mem_old hm_257)
  have hk_337 : Kd S_306 q_42 14 := hf_308.kd (mem_old hm_257) (kd_nO (k := 8) hq_293 hm_257 hk_258)
  have hn_338 : Ln S_306 q_42 119 := hf_308.ln (mem_old hm_257) hn_259
  have hm_339 : q_43 ∈ hL S_306 := hf_308.mem (mem_old hm_260)
  have hk_340 : Kd S_306 q_43 14 := hf_308.kd (mem_old hm_260) (kd_nO (k := 8) hq_293 hm_260 hk_261)
  have hn_341 : Ln S_306 q_43 8 := hf_308.ln (mem_old hm_260) hn_262
  have hm_342 : q_5 ∈ hL S_306 := hf_308.mem (mem_old hm_263)
  have hk_343 : Kd S_306 q_5 14 := hf_308.kd (mem_old hm_263) (kd_nO (k := 8) hq_293 hm_263 hk_264)
  have hn_344 : Ln S_306 q_5 20000 := hf_308.ln (mem_old hm_263) hn_265
  have hm_345 : q_6 ∈ hL S_306 := hf_308.mem (mem_old hm_266)
  have hk_346 : Kd S_306 q_6 14 := hf_308.kd (mem_old hm_266) (kd_nO (k := 8) hq_293 hm_266 hk_267)
  have hn_347 : Ln S_306 q_6 25 := hf_308.ln (mem_old hm_266) hn_268
  have hm_348 : q_97 ∈ hL S_306 := hf_308.mem (mem_old hm_269)
  have hk_349 : Kd S_306 q_97 8 := hf_308.kd (mem_old hm_269) (kd_nO (k := 8) hq_293 hm_269 hk_270)
  have hv_350 : hI S_306 1000 q_218 = 1 := hf_308.fi (mem_old hm_248) (fun h9 => h9) (rd_nOI (k := 8) hq_293 hm_248 e_223)
  have hv_351 : hI S_306 1001 q_218 = 1 := hf_308.fi (mem_old hm_248) (fun h9 => h9) (rd_nOI (k := 8) hq_293 hm_248 e_224)
  have hv_352 : hI S_306 2 q_1 = 0 := hf_308.fi (mem_old hm_240) (fun h9 => h9) (rd_nOI (k := 8) hq_293 hm_240 hv_271)
  have hv_353 : hI S_306 206 q_35 = 0 := hf_308.fi (mem_old hm_250) (fun h9 => h9) (rd_nOI (k := 8) hq_293 hm_250 hv_272)
  have hv_354 : hI S_306 209 q_35 = 0 := hf_308.fi (mem_old hm_250) (fun h9 => h9) (rd_nOI (k := 8) hq_293 hm_250 hv_273)
  have hv_355 : hI S_306 3 q_1 = 0 := hf_308.fi (mem_old hm_240) (fun h9 => h9) (rd_nOI (k := 8) hq_293 hm_240 hv_274)
  have hv_356 : hI S_306 4 q_1 = 0 := hf_308.fi (mem_old hm_240) (fun h9 => h9) (rd_nOI (k := 8) hq_293 hm_240 hv_275)
  have hv_357 : hI S_306 5 q_1 = 0 := hf_308.fi (mem_old hm_240) (fun h9 => h9) (rd_nOI (k := 8) hq_293 hm_240 hv_276)
  have hv_358 : hR S_306 0 q_1 = (some q_5) := hf_308.fr (mem_old hm_240) (fun q9 => (fun e9 => absurd (((kd_nO (k := 8) hq_293 hm_240 hk_241)).symm.trans ((congrArg (hK _) e9).trans (kd_nO' (k := 8)))) (by decide)) q9) (rd_nOR (k := 8) hq_293 hm_240 (rd_sRf (S := S_232) (g := 905) (a := h) (v := (some q_218)) (by decide) hv_277))
  have hv_359 : hR S_306 1 q_1 = (some q_6) := hf_308.fr (mem_old hm_240) (fun q9 => (fun e9 => absurd (((kd_nO (k := 8) hq_293 hm_240 hk_241)).symm.trans ((congrArg (hK _) e9).trans (kd_nO' (k := 8)))) (by decide)) q9) (rd_nOR (k := 8) hq_293 hm_240 (rd_sRf (S := S_232) (g := 905) (a := h) (v := (some q_218)) (by decide) hv_278))
  have hv_360 : hR S_306 1003 q_218 = (some q_222) := hf_308.fr (mem_old hm_248) (fun q9 => (fun e9 => absurd (((kd_nO (k := 8) hq_293 hm_248 hk_249)).symm.trans ((congrArg (hK _) e9).trans (kd_nO' (k := 8)))) (by decide)) q9) (rd_nOR (k := 8) hq_293 hm_248 (rd_sRf (S := S_232) (g := 905) (a := h) (v := (some q_218)) (by decide) e_229))
  have hv_361 : hR S_306 200 q_35 = (some q_40) := hf_308.fr (mem_old hm_250) (fun q9 => (fun e9 => absurd (((kd_nO (k := 8) hq_293 hm_250 hk_251)).symm.trans ((congrArg (hK _) e9).trans (kd_nO' (k := 8)))) (by decide)) q9) (rd_nOR (k := 8) hq_293 hm_250 (rd_sRf (S := S_232) (g := 905) (a := h) (v := (some q_218)) (by decide) hv_279))
  have hv_362 : hR S_306 201 q_35 = (some q_42) := hf_308.fr (mem_old hm_250) (fun q9 => (fun e9 => absurd (((kd_nO (k := 8) hq_293 hm_250 hk_251)).symm.trans ((congrArg (hK _) e9).trans (kd_nO' (k := 8)))) (by decide)) q9) (rd_nOR (k := 8) hq_293 hm_250 (rd_sRf (S := S_232) (g := 905) (a := h) (v := (some q_218)) (by decide) hv_280))
  have hv_363 : hR S_306 207 q_35 = (some q_43) := hf_308.fr (mem_old hm_250) (fun q9 => (fun e9 => absurd (((kd_nO (k := 8) hq_293 hm_250 hk_251)).symm.trans ((congrArg (hK _) e9).trans (kd_nO' (k := 8)))) (by decide)) q9) (rd_nOR (k := 8) hq_293 hm_250 (rd_sRf (S := S_232) (g := 905) (a := h) (v := (some q_218)) (by decide) hv_281))
  have hv_364 : hR S_306 800 q_40 = (some q_41) := hf_308.fr (mem_old hm_252) (fun q9 => (ne_of_nin hq_293 hm_252) q9) (rd_nOR (k := 8) hq_293 hm_252 (rd_sRf (S := S_232) (g := 905) (a := h) (v := (some q_218)) (by decide) hv_282))
  have hv_365 : hR S_306 800 q_97 = (some q_102) := hf_308.fr (mem_old hm_269) (fun q9 => (ne_of_nin hq_293 hm_269) q9) (rd_nOR (k := 8) hq_293 hm_269 (rd_sRf (S := S_232) (g := 905) (a := h) (v := (some q_218)) (by decide) hv_283))
  have hv_366 : hR S_306 901 h = (some q_1) := hf_308.fr (mem_old hm_238) (fun q9 => (fun e9 => absurd (((kd_nO (k := 8) hq_293 hm_238 hk_239)).symm.trans ((congrArg (hK _) e9).trans (kd_nO' (k := 8)))) (by decide)) q9) (rd_nOR (k := 8) hq_293 hm_238 (rd_sRf (S := S_232) (g := 905) (a := h) (v := (some q_218)) (by decide) hv_284))
  have hv_367 : hR S_306 902 h = (some q_35) := hf_308.fr (mem_old hm_238) (fun q9 => (fun e9 => absurd (((kd_nO (k := 8) hq_293 hm_238 hk_239)).symm.trans ((congrArg (hK _) e9).trans (kd_nO' (k := 8)))) (by decide)) q9) (rd_nOR (k := 8) hq_293 hm_238 (rd_sRf (S := S_232) (g := 905) (a := h) (v := (some q_218)) (by decide) hv_285))
  have hv_368 : hR S_306 903 h = (some q_97) := hf_308.fr (mem_old hm_238) (fun q9 => (fun e9 => absurd (((kd_nO (k := 8) hq_293 hm_238 hk_239)).symm.trans ((congrArg (hK _) e9).trans (kd_nO' (k := 8)))) (by decide)) q9) (rd_nOR (k := 8) hq_293 hm_238 (rd_sRf (S := S_232) (g := 905) (a := h) (v := (some q_218)) (by decide) hv_286))
  have hv_369 : hR S_306 904 h = (some q_158) := hf_308.fr (mem_old hm_238) (fun q9 => (fun e9 => absurd (((kd_nO (k := 8) hq_293 hm_238 hk_239)).symm.trans ((congrArg (hK _) e9).trans (kd_nO' (k := 8)))) (by decide)) q9) (rd_nOR (k := 8) hq_293 hm_238 (rd_sRf (S := S_232) (g := 905) (a := h) (v := (some q_218)) (by decide) hv_287))
  have hv_370 : hR S_306 905 h = (some q_218) := hf_308.fr (mem_old hm_238) (fun q9 => (fun e9 => absurd (((kd_nO (k := 8) hq_293 hm_238 hk_239)).symm.trans ((congrArg (hK _) e9).trans (kd_nO' (k := 8)))) (by decide)) q9) (rd_nOR (k := 8) hq_293 hm_238 (rd_sR (S := S_232) (g := 905) (a := h) (v := (some q_218))))
  have hf_371 : Fm (fun _ _ => False) (fun f9 b9 => b9 = h) (fun _ => False) S S_306 := hf_296.then hf_308 (fun a9 ha9 => ⟨(fun f9 h9 => h9.elim), (fun f9 h9 => (fun h8 => absurd (h8 ▸ ha9) hz_295) h9), (fun h9 => h9.elim)⟩)
  have hN_372 : NL S [q_1, q_5, q_6, q_35, q_40, q_41, q_42, q_43, q_97, q_102, q_218, q_222, q_292] S_306 := NL.mono (show NL S [q_1, q_5, q_6, q_35, q_40, q_41, q_42, q_43, q_97, q_102, q_218, q_222, q_292] (nO (sR S_232 905 h (some q_218)) q_292 8) from NL.nO (NL.sR (S := S_232) hN_291) hq_293 hz_295) (fun a9 h9 => hf_308.mem h9)
  have hz_373 : q_297 ∉ hL S := fun h9 => e_298 (hf_296.mem h9)
  have hN_374 : NL S [q_1, q_5, q_6, q_35, q_40, q_41, q_42, q_43, q_97, q_102, q_218, q_222, q_292, q_297] S_306 := NL.app (show NL S [q_1, q_5, q_6, q_35, q_40, q_41, q_42, q_43, q_97, q_102, q_218, q_222, q_292] (nO (sR S_232 905 h (some q_218)) q_292 8) from NL.nO (NL.sR (S := S_232) hN_291) hq_293 hz_295) hNl_304 (fun a9 h9 => hf_308.mem h9) (fun a9 h9 => hf_296.mem h9)
  refine j_putrF (f := 906) C hm9 flX9_43o (by decide) rfl rfl dX9_init_65 hm_312 hk_313 rfl ?_
  refine j_aload_n C dX9_init_68 rfl 0 rfl ?_
  show J _ _ _ _ _ 69 _
  refine j_sipush (v := 24000) C dX9_init_69 (by decide) ?_
  have hf_377 : Fm (fun _ _ => False) (fun f9 b9 => b9 = h) (fun _ => False) S (sR S_306 906 h (some q_292)) := (hf_371.sR _ (fun _ => rfl))
  refine j_newB (N := 24000) C ka_byte (by decide) (by decide) (Nat.le_of_ble_eq_true rfl) (M.cells (by decide)) (M.slots (Nat.le_of_ble_eq_true rfl)) dX9_init_72 (fun q_375 hq_376 => ?_)
  have hz_378 : q_375 ∉ hL S := fun h9 => hq_376 (hf_377.mem h9)
  refine j_putrF (f := 907) C hm9 flX9_46o (by decide) rfl rfl dX9_init_74 (mem_old hm_312) (kd_nA (k := 13) (n := 24000) hq_376 hm_312 hk_313) rfl ?_
  refine j_aload_n C dX9_init_77 rfl 0 rfl ?_
  refine j_bipush (v := 16) C dX9_init_78 (by decide) ?_
  have hf_381 : Fm (fun _ _ => False) (fun f9 b9 => b9 = h) (fun _ => False) S (sR (nA (sR S_306 906 h (some q_292)) q_375 13 24000) 907 h (some q_375)) := ((hf_377.nA _ _ hq_376).sR _ (fun _ => rfl))
  obtain ⟨S_379, eS_380⟩ : ∃ S9 : Hp, S9 = (sR (nA (sR S_306 906 h (some q_292)) q_375 13 24000) 907 h (some q_375)) := ⟨_, rfl⟩
  refine J.eq (S' := S_379) eS_380.symm rfl rfl ?_
  have hm_382 : h ∈ hL S_379 := by rw [eS_380]; exact (mem_old hm_312)
  have hk_383 : Kd S_379 h 9 := by rw [eS_380]; exact (kd_nA (k := 13) (n := 24000) hq_376 hm_312 hk_313)
  have hm_384 : q_1 ∈ hL S_379 := by rw [eS_380]; exact (mem_old hm_314)
  have hk_385 : Kd S_379 q_1 0 := by rw [eS_380]; exact (kd_nA (k := 13) (n := 24000) hq_376 hm_314 hk_315)
  have hm_386 : q_102 ∈ hL S_379 := by rw [eS_380]; exact (mem_old hm_316)
  have hk_387 : Kd S_379 q_102 14 := by rw [eS_380]; exact (kd_nA (k := 13) (n := 24000) hq_376 hm_316 hk_317)
  have hn_388 : Ln S_379 q_102 16 := by rw [eS_380]; exact (ln_nA (k := 13) hq_376 hm_316 hn_318)
  have hz_389 : ∀ j, aI S_379 q_102 j = 0 := by rw [eS_380]; exact (fun j9 => rd_nAI (k := 13) (n := 24000) hq_376 hm_316 (hz_309 j9))
  have hm_390 : q_158 ∈ hL S_379 := by rw [eS_380]; exact (mem_old hm_319)
  have hk_391 : Kd S_379 q_158 20 := by rw [eS_380]; exact (kd_nA (k := 13) (n := 24000) hq_376 hm_319 hk_320)
  have hn_392 : Ln S_379 q_158 16 := by rw [eS_380]; exact (ln_nA (k := 13) hq_376 hm_319 hn_321)
  have hz_393 : ∀ j, aI S_379 q_158 j = 0 := by rw [eS_380]; exact (fun j9 => rd_nAI (k := 13) (n := 24000) hq_376 hm_319 (hz_310 j9))
  have hm_394 : q_218 ∈ hL S_379 := by rw [eS_380]; exact (mem_old hm_322)
  have hk_395 : Kd S_379 q_218 10 := by rw [eS_380]; exact (kd_nA (k := 13) (n := 24000) hq_376 hm_322 hk_323)
  have hm_396 : q_222 ∈ hL S_379 := by rw [eS_380]; exact (mem_old hm_324)
  have hk_397 : Kd S_379 q_222 15 := by rw [eS_380]; exact (kd_nA (k := 13) (n := 24000) hq_376 hm_324 hk_325)
  have hn_398 : Ln S_379 q_222 16 := by rw [eS_380]; exact (ln_nA (k := 13) hq_376 hm_324 hn_326)
  have hm_399 : q_292 ∈ hL S_379 := by rw [eS_380]; exact (mem_old hm_327)
  have hk_400 : Kd S_379 q_292 8 := by rw [eS_380]; exact (kd_nA (k := 13) (n := 24000) hq_376 hm_327 hk_328)
  have hm_401 : q_297 ∈ hL S_379 := by rw [eS_380]; exact (mem_old e_299)
  have hk_402 : Kd S_379 q_297 14 := by rw [eS_380]; exact (kd_nA (k := 13) (n := 24000) hq_376 e_299 e_300)
  have hn_403 : Ln S_379 q_297 16 := by rw [eS_380]; exact (ln_nA (k := 13) hq_376 e_299 e_301)
  have hz_404 : ∀ j, aI S_379 q_297 j = 0 := by rw [eS_380]; exact (fun j9 => rd_nAI (k := 13) (n := 24000) hq_376 e_299 (e_303 j9))
  have hm_405 : q_35 ∈ hL S_379 := by rw [eS_380]; exact (mem_old hm_329)
  have hk_406 : Kd S_379 q_35 2 := by rw [eS_380]; exact (kd_nA (k := 13) (n := 24000) hq_376 hm_329 hk_330)
  have hm_407 : q_375 ∈ hL S_379 := by rw [eS_380]; exact mem_new
  have hk_408 : Kd S_379 q_375 13 := by rw [eS_380]; exact (kd_nA' (k := 13) (n := 24000))
  have hn_409 : Ln S_379 q_375 24000 := by rw [eS_380]; exact (ln_nA' (k := 13))
  have hz_410 : ∀ j, aI S_379 q_375 j = 0 := by rw [eS_380]; exact (fun j9 => rd_nAI' (k := 13) (n := 24000))
  have hm_411 : q_40 ∈ hL S_379 := by rw [eS_380]; exact (mem_old hm_331)
  have hk_412 : Kd S_379 q_40 8 := by rw [eS_380]; exact (kd_nA (k := 13) (n := 24000) hq_376 hm_331 hk_332)
  have hm_413 : q_41 ∈ hL S_379 := by rw [eS_380]; exact (mem_old hm_333)
  have hk_414 : Kd S_379 q_41 14 := by rw [eS_380]; exact (kd_nA (k := 13) (n := 24000) hq_376 hm_333 hk_334)
  have hn_415 : Ln S_379 q_41 16 := by rw [eS_380]; exact (ln_nA (k := 13) hq_376 hm_333 hn_335)
  have hz_416 : ∀ j, aI S_379 q_41 j = 0 := by rw [eS_380]; exact (fun j9 => rd_nAI (k := 13) (n := 24000) hq_376 hm_333 (hz_311 j9))
  have hm_417 : q_42 ∈ hL S_379 := by rw [eS_380]; exact (mem_old hm_336)
  have hk_418 : Kd S_379 q_42 14 := by rw [eS_380]; exact (kd_nA (k := 13) (n := 24000) hq_376 hm_336 hk_337)
  have hn_419 : Ln S_379 q_42 119 := by rw [eS_380]; exact (ln_nA (k := 13) hq_376 hm_336 hn_338)
  have hm_420 : q_43 ∈ hL S_379 := by rw [eS_380]; exact (mem_old hm_339)
  have hk_421 : Kd S_379 q_43 14 := by rw [eS_380]; exact (kd_nA (k := 13) (n := 24000) hq_376 hm_339 hk_340)
  have hn_422 : Ln S_379 q_43 8 := by rw [eS_380]; exact (ln_nA (k := 13) hq_376 hm_339 hn_341)
  have hm_423 : q_5 ∈ hL S_379 := by rw [eS_380]; exact (mem_old hm_342)
  have hk_424 : Kd S_379 q_5 14 := by rw [eS_380]; exact (kd_nA (k := 13) (n := 24000) hq_376 hm_342 hk_343)
  have hn_425 : Ln S_379 q_5 20000 := by rw [eS_380]; exact (ln_nA (k := 13) hq_376 hm_342 hn_344)
  have hm_426 : q_6 ∈ hL S_379 := by rw [eS_380]; exact (mem_old hm_345)
  have hk_427 : Kd S_379 q_6 14 := by rw [eS_380]; exact (kd_nA (k := 13) (n := 24000) hq_376 hm_345 hk_346)
  have hn_428 : Ln S_379 q_6 25 := by rw [eS_380]; exact (ln_nA (k := 13) hq_376 hm_345 hn_347)
  have hm_429 : q_97 ∈ hL S_379 := by rw [eS_380]; exact (mem_old hm_348)
  have hk_430 : Kd S_379 q_97 8 := by rw [eS_380]; exact (kd_nA (k := 13) (n := 24000) hq_376 hm_348 hk_349)
  have hv_431 : hI S_379 1000 q_218 = 1 := by rw [eS_380]; exact hv_350
  have hv_432 : hI S_379 1001 q_218 = 1 := by rw [eS_380]; exact hv_351
  have hv_433 : hI S_379 2 q_1 = 0 := by rw [eS_380]; exact hv_352
  have hv_434 : hI S_379 206 q_35 = 0 := by rw [eS_380]; exact hv_353
  have hv_435 : hI S_379 209 q_35 = 0 := by rw [eS_380]; exact hv_354
  have hv_436 : hI S_379 3 q_1 = 0 := by rw [eS_380]; exact hv_355
  have hv_437 : hI S_379 4 q_1 = 0 := by rw [eS_380]; exact hv_356
  have hv_438 : hI S_379 5 q_1 = 0 := by rw [eS_380]; exact hv_357
  have hv_439 : hR S_379 0 q_1 = (some q_5) := by rw [eS_380]; exact (rd_sRf (S := (nA (sR S_306 906 h (some q_292)) q_375 13 24000)) (g := 907) (a := h) (v := (some q_375)) (by decide) (rd_sRf (S := S_306) (g := 906) (a := h) (v := (some q_292)) (by decide) hv_358))
  have hv_440 : hR S_379 1 q_1 = (some q_6) := by rw [eS_380]; exact (rd_sRf (S := (nA (sR S_306 906 h (some q_292)) q_375 13 24000)) (g := 907) (a := h) (v := (some q_375)) (by decide) (rd_sRf (S := S_306) (g := 906) (a := h) (v := (some q_292)) (by decide) hv_359))
  have hv_441 : hR S_379 1003 q_218 = (some q_222) := by rw [eS_380]; exact (rd_sRf (S := (nA (sR S_306 906 h (some q_292)) q_375 13 24000)) (g := 907) (a := h) (v := (some q_375)) (by decide) (rd_sRf (S := S_306) (g := 906) (a := h) (v := (some q_292)) (by decide) hv_360))
  have hv_442 : hR S_379 200 q_35 = (some q_40) := by rw [eS_380]; exact (rd_sRf (S := (nA (sR S_306 906 h (some q_292)) q_375 13 24000)) (g := 907) (a := h) (v := (some q_375)) (by decide) (rd_sRf (S := S_306) (g := 906) (a := h) (v := (some q_292)) (by decide) hv_361))
  have hv_443 : hR S_379 201 q_35 = (some q_42) := by rw [eS_380]; exact (rd_sRf (S := (nA (sR S_306 906 h (some q_292)) q_375 13 24000)) (g := 907) (a := h) (v := (some q_375)) (by decide) (rd_sRf (S := S_306) (g := 906) (a := h) (v := (some q_292)) (by decide) hv_362))
  have hv_444 : hR S_379 207 q_35 = (some q_43) := by rw [eS_380]; exact (rd_sRf (S := (nA (sR S_306 906 h (some q_292)) q_375 13 24000)) (g := 907) (a := h) (v := (some q_375)) (by decide) (rd_sRf (S := S_306) (g := 906) (a := h) (v := (some q_292)) (by decide) hv_363))
  have hv_445 : hR S_379 800 q_292 = (some q_297) := by rw [eS_380]; exact (rd_sRf (S := (nA (sR S_306 906 h (some q_292)) q_375 13 24000)) (g := 907) (a := h) (v := (some q_375)) (by decide) (rd_sRf (S := S_306) (g := 906) (a := h) (v := (some q_292)) (by decide) e_302))
  have hv_446 : hR S_379 800 q_40 = (some q_41) := by rw [eS_380]; exact (rd_sRf (S := (nA (sR S_306 906 h (some q_292)) q_375 13 24000)) (g := 907) (a := h) (v := (some q_375)) (by decide) (rd_sRf (S := S_306) (g := 906) (a := h) (v := (some q_292)) (by decide) hv_364))
  have hv_447 : hR S_379 800 q_97 = (some q_102) := by rw [eS_380]; exact (rd_sRf (S := (nA (sR S_306 906 h (some q_292)) q_375 13 24000)) (g := 907) (a := h) (v := (some q_375)) (by decide) (rd_sRf (S := S_306) (g := 906) (a := h) (v := (some q_292)) (by decide) hv_365))
  have hv_448 : hR S_379 901 h = (some q_1) := by rw [eS_380]; exact (rd_sRf (S := (nA (sR S_306 906 h (some q_292)) q_375 13 24000)) (g := 907) (a := h) (v := (some q_375)) (by decide) (rd_sRf (S := S_306) (g := 906) (a := h) (v := (some q_292)) (by decide) hv_366))
  have hv_449 : hR S_379 902 h = (some q_35) := by rw [eS_380]; exact (rd_sRf (S := (nA (sR S_306 906 h (some q_292)) q_375 13 24000)) (g := 907) (a := h) (v := (some q_375)) (by decide) (rd_sRf (S := S_306) (g := 906) (a := h) (v := (some q_292)) (by decide) hv_367))
  have hv_450 : hR S_379 903 h = (some q_97) := by rw [eS_380]; exact (rd_sRf (S := (nA (sR S_306 906 h (some q_292)) q_375 13 24000)) (g := 907) (a := h) (v := (some q_375)) (by decide) (rd_sRf (S := S_306) (g := 906) (a := h) (v := (some q_292)) (by decide) hv_368))
  have hv_451 : hR S_379 904 h = (some q_158) := by rw [eS_380]; exact (rd_sRf (S := (nA (sR S_306 906 h (some q_292)) q_375 13 24000)) (g := 907) (a := h) (v := (some q_375)) (by decide) (rd_sRf (S := S_306) (g := 906) (a := h) (v := (some q_292)) (by decide) hv_369))
  have hv_452 : hR S_379 905 h = (some q_218) := by rw [eS_380]; exact (rd_sRf (S := (nA (sR S_306 906 h (some q_292)) q_375 13 24000)) (g := 907) (a := h) (v := (some q_375)) (by decide) (rd_sRf (S := S_306) (g := 906) (a := h) (v := (some q_292)) (by decide) hv_370))
  have hv_453 : hR S_379 906 h = (some q_292) := by rw [eS_380]; exact (rd_sRf (S := (nA (sR S_306 906 h (some q_292)) q_375 13 24000)) (g := 907) (a := h) (v := (some q_375)) (by decide) (rd_sR (S := S_306) (g := 906) (a := h) (v := (some q_292))))
  have hv_454 : hR S_379 907 h = (some q_375) := by rw [eS_380]; exact (rd_sR (S := (nA (sR S_306 906 h (some q_292)) q_375 13 24000)) (g := 907) (a := h) (v := (some q_375)))
  have hf_455 : Fm (fun _ _ => False) (fun f9 b9 => b9 = h) (fun _ => False) S S_379 := by rw [eS_380]; exact hf_381
  have hN_456 : NL S [q_1, q_5, q_6, q_35, q_40, q_41, q_42, q_43, q_97, q_102, q_218, q_222, q_292, q_297] S_379 := by rw [eS_380]; exact (NL.sR (S := (nA (sR S_306 906 h (some q_292)) q_375 13 24000)) (show NL S [q_1, q_5, q_6, q_35, q_40, q_41, q_42, q_43, q_97, q_102, q_218, q_222, q_292, q_297] (nA (sR S_306 906 h (some q_292)) q_375 13 24000) from NL.oldA (NL.sR (S := S_306) hN_374)))
  refine j_newI (N := 16) C ka_int (by decide) (by decide) (Nat.le_of_ble_eq_true rfl) (M.cells (by decide)) (M.slots (Nat.le_of_ble_eq_true rfl)) dX9_init_80 (fun q_457 hq_458 => ?_)
  have hz_459 : q_457 ∉ hL S := fun h9 => hq_458 (hf_455.mem h9)
  refine j_putrF (f := 908) C hm9 flX9_50o (by decide) rfl rfl dX9_init_82 (mem_old hm_382) (kd_nA (k := 14) (n := 16) hq_458 hm_382 hk_383) rfl ?_
  refine j_aload_n C dX9_init_85 rfl 0 rfl ?_
  show J _ _ _ _ _ 86 _
  have hf_462 : Fm (fun _ _ => False) (fun f9 b9 => b9 = h) (fun _ => False) S (sR (nA S_379 q_457 14 16) 908 h (some q_457)) := ((hf_455.nA _ _ hq_458).sR _ (fun _ => rfl))
  obtain ⟨S_460, eS_461⟩ : ∃ S9 : Hp, S9 = (sR (nA S_379 q_457 14 16) 908 h (some q_457)) := ⟨_, rfl⟩
  refine J.eq (S' := S_460) eS_461.symm rfl rfl ?_
  have hm_463 : h ∈ hL S_460 := by rw [eS_461]; exact (mem_old hm_382)
  have hk_464 : Kd S_460 h 9 := by rw [eS_461]; exact (kd_nA (k := 14) (n := 16) hq_458 hm_382 hk_383)
  have hm_465 : q_1 ∈ hL S_460 := by rw [eS_461]; exact (mem_old hm_384)
  have hk_466 : Kd S_460 q_1 0 := by rw [eS_461]; exact (kd_nA (k := 14) (n := 16) hq_458 hm_384 hk_385)
  have hm_467 : q_102 ∈ hL S_460 := by rw [eS_461]; exact (mem_old hm_386)
  have hk_468 : Kd S_460 q_102 14 := by rw [eS_461]; exact (kd_nA (k := 14) (n := 16) hq_458 hm_386 hk_387)
  have hn_469 : Ln S_460 q_102 16 := by rw [eS_461]; exact (ln_nA (k := 14) hq_458 hm_386 hn_388)
  have hz_470 : ∀ j, aI S_460 q_102 j = 0 := by rw [eS_461]; exact (fun j9 => rd_nAI (k := 14) (n := 16) hq_458 hm_386 (hz_389 j9))
  have hm_471 : q_158 ∈ hL S_460 := by rw [eS_461]; exact (mem_old hm_390)
  have hk_472 : Kd S_460 q_158 20 := by rw [eS_461]; exact (kd_nA (k := 14) (n := 16) hq_458 hm_390 hk_391)
  have hn_473 : Ln S_460 q_158 16 := by rw [eS_461]; exact (ln_nA (k := 14) hq_458 hm_390 hn_392)
  have hz_474 : ∀ j, aI S_460 q_158 j = 0 := by rw [eS_461]; exact (fun j9 => rd_nAI (k := 14) (n := 16) hq_458 hm_390 (hz_393 j9))
  have hm_475 : q_218 ∈ hL S_460 := by rw [eS_461]; exact (mem_old hm_394)
  have hk_476 : Kd S_460 q_218 10 := by rw [eS_461]; exact (kd_nA (k := 14) (n := 16) hq_458 hm_394 hk_395)
  have hm_477 : q_222 ∈ hL S_460 := by rw [eS_461]; exact (mem_old hm_396)
  have hk_478 : Kd S_460 q_222 15 := by rw [eS_461]; exact (kd_nA (k := 14) (n := 16) hq_458 hm_396 hk_397)
  have hn_479 : Ln S_460 q_222 16 := by rw [eS_461]; exact (ln_nA (k := 14) hq_458 hm_396 hn_398)
  have hm_480 : q_292 ∈ hL S_460 := by rw [eS_461]; exact (mem_old hm_399)
  have hk_481 : Kd S_460 q_292 8 := by rw [eS_461]; exact (kd_nA (k := 14) (n := 16) hq_458 hm_399 hk_400)
  have hm_482 : q_297 ∈ hL S_460 := by rw [eS_461]; exact (mem_old hm_401)
  have hk_483 : Kd S_460 q_297 14 := by rw [eS_461]; exact (kd_nA (k := 14) (n := 16) hq_458 hm_401 hk_402)
  have hn_484 : Ln S_460 q_297 16 := by rw [eS_461]; exact (ln_nA (k := 14) hq_458 hm_401 hn_403)
  have hz_485 : ∀ j, aI S_460 q_297 j = 0 := by rw [eS_461]; exact (fun j9 => rd_nAI (k := 14) (n := 16) hq_458 hm_401 (hz_404 j9))
  have hm_486 : q_35 ∈ hL S_460 := by rw [eS_461]; exact (mem_old hm_405)
  have hk_487 : Kd S_460 q_35 2 := by rw [eS_461]; exact (kd_nA (k := 14) (n := 16) hq_458 hm_405 hk_406)
  have hm_488 : q_375 ∈ hL S_460 := by rw [eS_461]; exact (mem_old hm_407)
  have hk_489 : Kd S_460 q_375 13 := by rw [eS_461]; exact (kd_nA (k := 14) (n := 16) hq_458 hm_407 hk_408)
  have hn_490 : Ln S_460 q_375 24000 := by rw [eS_461]; exact (ln_nA (k := 14) hq_458 hm_407 hn_409)
  have hz_491 : ∀ j, aI S_460 q_375 j = 0 := by rw [eS_461]; exact (fun j9 => rd_nAI (k := 14) (n := 16) hq_458 hm_407 (hz_410 j9))
  have hm_492 : q_40 ∈ hL S_460 := by rw [eS_461]; exact (mem_old hm_411)
  have hk_493 : Kd S_460 q_40 8 := by rw [eS_461]; exact (kd_nA (k := 14) (n := 16) hq_458 hm_411 hk_412)
  have hm_494 : q_41 ∈ hL S_460 := by rw [eS_461]; exact (mem_old hm_413)
  have hk_495 : Kd S_460 q_41 14 := by rw [eS_461]; exact (kd_nA (k := 14) (n := 16) hq_458 hm_413 hk_414)
  have hn_496 : Ln S_460 q_41 16 := by rw [eS_461]; exact (ln_nA (k := 14) hq_458 hm_413 hn_415)
  have hz_497 : ∀ j, aI S_460 q_41 j = 0 := by rw [eS_461]; exact (fun j9 => rd_nAI (k := 14) (n := 16) hq_458 hm_413 (hz_416 j9))
  have hm_498 : q_42 ∈ hL S_460 := by rw [eS_461]; exact (mem_old hm_417)
  have hk_499 : Kd S_460 q_42 14 := by rw [eS_461]; exact (kd_nA (k := 14) (n := 16) hq_458 hm_417 hk_418)
  have hn_500 : Ln S_460 q_42 119 := by rw [eS_461]; exact (ln_nA (k := 14) hq_458 hm_417 hn_419)
  have hm_501 : q_43 ∈ hL S_460 := by rw [eS_461]; exact (mem_old hm_420)
  have hk_502 : Kd S_460 q_43 14 := by rw [eS_461]; exact (kd_nA (k := 14) (n := 16) hq_458 hm_420 hk_421)
  have hn_503 : Ln S_460 q_43 8 := by rw [eS_461]; exact (ln_nA (k := 14) hq_458 hm_420 hn_422)
  have hm_504 : q_457 ∈ hL S_460 := by rw [eS_461]; exact mem_new
  have hk_505 : Kd S_460 q_457 14 := by rw [eS_461]; exact (kd_nA' (k := 14) (n := 16))
  have hn_506 : Ln S_460 q_457 16 := by rw [eS_461]; exact (ln_nA' (k := 14))
  have hz_507 : ∀ j, aI S_460 q_457 j = 0 := by rw [eS_461]; exact (fun j9 => rd_nAI' (k := 14) (n := 16))
  have hm_508 : q_5 ∈ hL S_460 := by rw [eS_461]; exact (mem_old hm_423)
  have hk_509 : Kd S_460 q_5 14 := by rw [eS_461]; exact (kd_nA (k := 14) (n := 16) hq_458 hm_423 hk_424)
  have hn_510 : Ln S_460 q_5 20000 := by rw [eS_461]; exact (ln_nA (k := 14) hq_458 hm_423 hn_425)
  have hm_511 : q_6 ∈ hL S_460 := by rw [eS_461]; exact (mem_old hm_426)
  have hk_512 : Kd S_460 q_6 14 := by rw [eS_461]; exact (kd_nA (k := 14) (n := 16) hq_458 hm_426 hk_427)
  have hn_513 : Ln S_460 q_6 25 := by rw [eS_461]; exact (ln_nA (k := 14) hq_458 hm_426 hn_428)
  have hm_514 : q_97 ∈ hL S_460 := by rw [eS_461]; exact (mem_old hm_429)
  have hk_515 : Kd S_460 q_97 8 := by rw [eS_461]; exact (kd_nA (k := 14) (n := 16) hq_458 hm_429 hk_430)
  have hv_516 : hI S_460 1000 q_218 = 1 := by rw [eS_461]; exact hv_431
  have hv_517 : hI S_460 1001 q_218 = 1 := by rw [eS_461]; exact hv_432
  have hv_518 : hI S_460 2 q_1 = 0 := by rw [eS_461]; exact hv_433
  have hv_519 : hI S_460 206 q_35 = 0 := by rw [eS_461]; exact hv_434
  have hv_520 : hI S_460 209 q_35 = 0 := by rw [eS_461]; exact hv_435
  have hv_521 : hI S_460 3 q_1 = 0 := by rw [eS_461]; exact hv_436
  have hv_522 : hI S_460 4 q_1 = 0 := by rw [eS_461]; exact hv_437
  have hv_523 : hI S_460 5 q_1 = 0 := by rw [eS_461]; exact hv_438
  have hv_524 : hR S_460 0 q_1 = (some q_5) := by rw [eS_461]; exact (rd_sRf (S := (nA S_379 q_457 14 16)) (g := 908) (a := h) (v := (some q_457)) (by decide) hv_439)
  have hv_525 : hR S_460 1 q_1 = (some q_6) := by rw [eS_461]; exact (rd_sRf (S := (nA S_379 q_457 14 16)) (g := 908) (a := h) (v := (some q_457)) (by decide) hv_440)
  have hv_526 : hR S_460 1003 q_218 = (some q_222) := by rw [eS_461]; exact (rd_sRf (S := (nA S_379 q_457 14 16)) (g := 908) (a := h) (v := (some q_457)) (by decide) hv_441)
  have hv_527 : hR S_460 200 q_35 = (some q_40) := by rw [eS_461]; exact (rd_sRf (S := (nA S_379 q_457 14 16)) (g := 908) (a := h) (v := (some q_457)) (by decide) hv_442)
  have hv_528 : hR S_460 201 q_35 = (some q_42) := by rw [eS_461]; exact (rd_sRf (S := (nA S_379 q_457 14 16)) (g := 908) (a := h) (v := (some q_457)) (by decide) hv_443)
  have hv_529 : hR S_460 207 q_35 = (some q_43) := by rw [eS_461]; exact (rd_sRf (S := (nA S_379 q_457 14 16)) (g := 908) (a := h) (v := (some q_457)) (by decide) hv_444)
  have hv_530 : hR S_460 800 q_292 = (some q_297) := by rw [eS_461]; exact (rd_sRf (S := (nA S_379 q_457 14 16)) (g := 908) (a := h) (v := (some q_457)) (by decide) hv_445)
  have hv_531 : hR S_460 800 q_40 = (some q_41) := by rw [eS_461]; exact (rd_sRf (S := (nA S_379 q_457 14 16)) (g := 908) (a := h) (v := (some q_457)) (by decide) hv_446)
  have hv_532 : hR S_460 800 q_97 = (some q_102) := by rw [eS_461]; exact (rd_sRf (S := (nA S_379 q_457 14 16)) (g := 908) (a := h) (v := (some q_457)) (by decide) hv_447)
  have hv_533 : hR S_460 901 h = (some q_1) := by rw [eS_461]; exact (rd_sRf (S := (nA S_379 q_457 14 16)) (g := 908) (a := h) (v := (some q_457)) (by decide) hv_448)
  have hv_534 : hR S_460 902 h = (some q_35) := by rw [eS_461]; exact (rd_sRf (S := (nA S_379 q_457 14 16)) (g := 908) (a := h) (v := (some q_457)) (by decide) hv_449)
  have hv_535 : hR S_460 903 h = (some q_97) := by rw [eS_461]; exact (rd_sRf (S := (nA S_379 q_457 14 16)) (g := 908) (a := h) (v := (some q_457)) (by decide) hv_450)
  have hv_536 : hR S_460 904 h = (some q_158) := by rw [eS_461]; exact (rd_sRf (S := (nA S_379 q_457 14 16)) (g := 908) (a := h) (v := (some q_457)) (by decide) hv_451)
  have hv_537 : hR S_460 905 h = (some q_218) := by rw [eS_461]; exact (rd_sRf (S := (nA S_379 q_457 14 16)) (g := 908) (a := h) (v := (some q_457)) (by decide) hv_452)
  have hv_538 : hR S_460 906 h = (some q_292) := by rw [eS_461]; exact (rd_sRf (S := (nA S_379 q_457 14 16)) (g := 908) (a := h) (v := (some q_457)) (by decide) hv_453)
  have hv_539 : hR S_460 907 h = (some q_375) := by rw [eS_461]; exact (rd_sRf (S := (nA S_379 q_457 14 16)) (g := 908) (a := h) (v := (some q_457)) (by decide) hv_454)
  have hv_540 : hR S_460 908 h = (some q_457) := by rw [eS_461]; exact (rd_sR (S := (nA S_379 q_457 14 16)) (g := 908) (a := h) (v := (some q_457)))
  have hf_541 : Fm (fun _ _ => False) (fun f9 b9 => b9 = h) (fun _ => False) S S_460 := by rw [eS_461]; exact hf_462
  have hN_542 : NL S [q_1, q_5, q_6, q_35, q_40, q_41, q_42, q_43, q_97, q_102, q_218, q_222, q_292, q_297] S_460 := by rw [eS_461]; exact (NL.sR (S := (nA S_379 q_457 14 16)) (show NL S [q_1, q_5, q_6, q_35, q_40, q_41, q_42, q_43, q_97, q_102, q_218, q_222, q_292, q_297] (nA S_379 q_457 14 16) from NL.oldA hN_456))
  refine j_new (N := 21) C (ci := 1) rfl rfl klX9_54 knX1 kiX1 (M.cells (by decide)) (M.slots (by decide)) dX9_init_86 (fun q_543 hq_544 => ?_)
  have hz_545 : q_543 ∉ hL S := fun h9 => hq_544 (hf_541.mem h9)
  refine j_dup C dX9_init_89 rfl ?_
  have hf_546 : Fm (fun _ _ => False) (fun f9 b9 => b9 = h) (fun _ => False) S (nO S_460 q_543 1) := (hf_541.nO _ hq_544)
  refine j_callI C [] [.ref q_543, .ref h] mlX9_56 mcX1_init (c_X1_init (nO S_460 q_543 1) q_543 mem_new (kd_nO' (k := 1))) (M.rm (by decide) (by decide) (Nat.le_of_ble_eq_true rfl) (Nat.le_of_ble_eq_true rfl)) rfl rfl (Nat.le_of_ble_eq_true rfl) dX9_init_90 (fun r_587 S_588 hp_589 => ?_)
  obtain ⟨rfl, hf_590, q_547, q_548, q_549, q_550, q_551, q_552, q_553, e_554, e_555, e_556, e_557, e_558, e_559, e_560, e_561, e_562, e_563, e_564, e_565, e_566, e_567, e_568, e_569, e_570, e_571, e_572, e_573, e_574, e_575, e_576, e_577, e_578, e_579, e_580, e_581, e_582, e_583, e_584, e_585, hNl_586⟩ := hp_589
  refine J.eq (st' := [.ref q_543, .ref h]) rfl rfl rfl ?_
  have hz_591 : ∀ j, aI S_588 q_102 j = 0 := fun j9 => (hf_590.ai (mem_old hm_467) (fun h9 => h9) j9).trans (hz_470 j9)
  have hz_592 : ∀ j, aI S_588 q_158 j = 0 := fun j9 => (hf_590.ai (mem_old hm_471) (fun h9 => h9) j9).trans (hz_474 j9)
  have hz_593 : ∀ j, aI S_588 q_297 j = 0 := fun j9 => (hf_590.ai (mem_old hm_482) (fun h9 => h9) j9).trans (hz_485 j9)
  have hz_594 : ∀ j, aI S_588 q_375 j = 0 := fun j9 => (hf_590.ai (mem_old hm_488) (fun h9 => h9) j9).trans (hz_491 j9)
  have hz_595 : ∀ j, aI S_588 q_41 j = 0 := fun j9 => (hf_590.ai (mem_old hm_494) (fun h9 => h9) j9).trans (hz_497 j9)
  have hz_596 : ∀ j, aI S_588 q_457 j = 0 := fun j9 => (hf_590.ai (mem_old hm_504) (fun h9 => h9) j9).trans (hz_507 j9)
  have hm_597 : h ∈ hL S_588 := hf_590.mem (mem_old hm_463)
  have hk_598 : Kd S_588 h 9 := hf_590.kd (mem_old hm_463) (kd_nO (k := 1) hq_544 hm_463 hk_464)
  have hm_599 : q_1 ∈ hL S_588 := hf_590.mem (mem_old hm_465)
  have hk_600 : Kd S_588 q_1 0 := hf_590.kd (mem_old hm_465) (kd_nO (k := 1) hq_544 hm_465 hk_466)
  have hm_601 : q_102 ∈ hL S_588 := hf_590.mem (mem_old hm_467)
  have hk_602 : Kd S_588 q_102 14 := hf_590.kd (mem_old hm_467) (kd_nO (k := 1) hq_544 hm_467 hk_468)
  have hn_603 : Ln S_588 q_102 16 := hf_590.ln (mem_old hm_467) hn_469
  have hm_604 : q_158 ∈ hL S_588 := hf_590.mem (mem_old hm_471)
  have hk_605 : Kd S_588 q_158 20 := hf_590.kd (mem_old hm_471) (kd_nO (k := 1) hq_544 hm_471 hk_472)
  have hn_606 : Ln S_588 q_158 16 := hf_590.ln (mem_old hm_471) hn_473
  have hm_607 : q_218 ∈ hL S_588 := hf_590.mem (mem_old hm_475)
  have hk_608 : Kd S_588 q_218 10 := hf_590.kd (mem_old hm_475) (kd_nO (k := 1) hq_544 hm_475 hk_476)
  have hm_609 : q_222 ∈ hL S_588 := hf_590.mem (mem_old hm_477)
  have hk_610 : Kd S_588 q_222 15 := hf_590.kd (mem_old hm_477) (kd_nO (k := 1) hq_544 hm_477 hk_478)
  have hn_611 : Ln S_588 q_222 16 := hf_590.ln (mem_old hm_477) hn_479
  have hm_612 : q_292 ∈ hL S_588 := hf_590.mem (mem_old hm_480)
  have hk_613 : Kd S_588 q_292 8 := hf_590.kd (mem_old hm_480) (kd_nO (k := 1) hq_544 hm_480 hk_481)
  have hm_614 : q_297 ∈ hL S_588 := hf_590.mem (mem_old hm_482)
  have hk_615 : Kd S_588 q_297 14 := hf_590.kd (mem_old hm_482) (kd_nO (k := 1) hq_544 hm_482 hk_483)
  have hn_616 : Ln S_588 q_297 16 := hf_590.ln (mem_old hm_482) hn_484
  have hm_617 : q_35 ∈ hL S_588 := hf_590.mem (mem_old hm_486)
  have hk_618 : Kd S_588 q_35 2 := hf_590.kd (mem_old hm_486) (kd_nO (k := 1) hq_544 hm_486 hk_487)
  have hm_619 : q_375 ∈ hL S_588 := hf_590.mem (mem_old hm_488)
  have hk_620 : Kd S_588 q_375 13 := hf_590.kd (mem_old hm_488) (kd_nO (k := 1) hq_544 hm_488 hk_489)
  have hn_621 : Ln S_588 q_375 24000 := hf_590.ln (mem_old hm_488) hn_490
  have hm_622 : q_40 ∈ hL S_588 := hf_590.mem (mem_old hm_492)
  have hk_623 : Kd S_588 q_40 8 := hf_590.kd (mem_old hm_492) (kd_nO (k := 1) hq_544 hm_492 hk_493)
  have hm_624 : q_41 ∈ hL S_588 := hf_590.mem (mem_old hm_494)
  have hk_625 : Kd S_588 q_41 14 := hf_590.kd (mem_old hm_494) (kd_nO (k := 1) hq_544 hm_494 hk_495)
  have hn_626 : Ln S_588 q_41 16 := hf_590.ln (mem_old hm_494) hn_496
  have hm_627 : q_42 ∈ hL S_588 := hf_590.mem (mem_old hm_498)
  have hk_628 : Kd S_588 q_42 14 := hf_590.kd (mem_old hm_498) (kd_nO (k := 1) hq_544 hm_498 hk_499)
  have hn_629 : Ln S_588 q_42 119 := hf_590.ln (mem_old hm_498) hn_500
  have hm_630 : q_43 ∈ hL S_588 := hf_590.mem (mem_old hm_501)
  have hk_631 : Kd S_588 q_43 14 := hf_590.kd (mem_old hm_501) (kd_nO (k := 1) hq_544 hm_501 hk_502)
  have hn_632 : Ln S_588 q_43 8 := hf_590.ln (mem_old hm_501) hn_503
  have hm_633 : q_457 ∈ hL S_588 := hf_590.mem (mem_old hm_504)
  have hk_634 : Kd S_588 q_457 14 := hf_590.kd (mem_old hm_504) (kd_nO (k := 1) hq_544 hm_504 hk_505)
  have hn_635 : Ln S_588 q_457 16 := hf_590.ln (mem_old hm_504) hn_506
  have hm_636 : q_5 ∈ hL S_588 := hf_590.mem (mem_old hm_508)
  have hk_637 : Kd S_588 q_5 14 := hf_590.kd (mem_old hm_508) (kd_nO (k := 1) hq_544 hm_508 hk_509)
  have hn_638 : Ln S_588 q_5 20000 := hf_590.ln (mem_old hm_508) hn_510
  have hm_639 : q_543 ∈ hL S_588 := hf_590.mem mem_new
  have hk_640 : Kd S_588 q_543 1 := hf_590.kd mem_new (kd_nO' (k := 1))
  have hm_641 : q_6 ∈ hL S_588 := hf_590.mem (mem_old hm_511)
  have hk_642 : Kd S_588 q_6 14 := hf_590.kd (mem_old hm_511) (kd_nO (k := 1) hq_544 hm_511 hk_512)
  have hn_643 : Ln S_588 q_6 25 := hf_590.ln (mem_old hm_511) hn_513
  have hm_644 : q_97 ∈ hL S_588 := hf_590.mem (mem_old hm_514)
  have hk_645 : Kd S_588 q_97 8 := hf_590.kd (mem_old hm_514) (kd_nO (k := 1) hq_544 hm_514 hk_515)
  have hv_646 : hI S_588 1000 q_218 = 1 := hf_590.fi (mem_old hm_475) (fun h9 => h9) (rd_nOI (k := 1) hq_544 hm_475 hv_516)
  have hv_647 : hI S_588 1001 q_218 = 1 := hf_590.fi (mem_old hm_475) (fun h9 => h9) (rd_nOI (k := 1) hq_544 hm_475 hv_517)
  have hv_648 : hI S_588 2 q_1 = 0 := hf_590.fi (mem_old hm_465) (fun h9 => h9) (rd_nOI (k := 1) hq_544 hm_465 hv_518)
  have hv_649 : hI S_588 206 q_35 = 0 := hf_590.fi (mem_old hm_486) (fun h9 => h9) (rd_nOI (k := 1) hq_544 hm_486 hv_519)
  have hv_650 : hI S_588 209 q_35 = 0 := hf_590.fi (mem_old hm_486) (fun h9 => h9) (rd_nOI (k := 1) hq_544 hm_486 hv_520)
  have hv_651 : hI S_588 3 q_1 = 0 := hf_590.fi (mem_old hm_465) (fun h9 => h9) (rd_nOI (k := 1) hq_544 hm_465 hv_521)
  have hv_652 : hI S_588 4 q_1 = 0 := hf_590.fi (mem_old hm_465) (fun h9 => h9) (rd_nOI (k := 1) hq_544 hm_465 hv_522)
  have hv_653 : hI S_588 5 q_1 = 0 := hf_590.fi (mem_old hm_465) (fun h9 => h9) (rd_nOI (k := 1) hq_544 hm_465 hv_523)
  have hv_654 : hR S_588 0 q_1 = (some q_5) := hf_590.fr (mem_old hm_465) (fun q9 => (fun e9 => absurd (((kd_nO (k := 1) hq_544 hm_465 hk_466)).symm.trans ((congrArg (hK _) e9).trans (kd_nO' (k := 1)))) (by decide)) q9) (rd_nOR (k := 1) hq_544 hm_465 hv_524)
  have hv_655 : hR S_588 1 q_1 = (some q_6) := hf_590.fr (mem_old hm_465) (fun q9 => (fun e9 => absurd (((kd_nO (k := 1) hq_544 hm_465 hk_466)).symm.trans ((congrArg (hK _) e9).trans (kd_nO' (k := 1)))) (by decide)) q9) (rd_nOR (k := 1) hq_544 hm_465 hv_525)
  have hv_656 : hR S_588 1003 q_218 = (some q_222) := hf_590.fr (mem_old hm_475) (fun q9 => (fun e9 => absurd (((kd_nO (k := 1) hq_544 hm_475 hk_476)).symm.trans ((congrArg (hK _) e9).trans (kd_nO' (k := 1)))) (by decide)) q9) (rd_nOR (k := 1) hq_544 hm_475 hv_526)
  have hv_657 : hR S_588 200 q_35 = (some q_40) := hf_590.fr (mem_old hm_486) (fun q9 => (fun e9 => absurd (((kd_nO (k := 1) hq_544 hm_486 hk_487)).symm.trans ((congrArg (hK _) e9).trans (kd_nO' (k := 1)))) (by decide)) q9) (rd_nOR (k := 1) hq_544 hm_486 hv_527)
  have hv_658 : hR S_588 201 q_35 = (some q_42) := hf_590.fr (mem_old hm_486) (fun q9 => (fun e9 => absurd (((kd_nO (k := 1) hq_544 hm_486 hk_487)).symm.trans ((congrArg (hK _) e9).trans (kd_nO' (k := 1)))) (by decide)) q9) (rd_nOR (k := 1) hq_544 hm_486 hv_528)
  have hv_659 : hR S_588 207 q_35 = (some q_43) := hf_590.fr (mem_old hm_486) (fun q9 => (fun e9 => absurd (((kd_nO (k := 1) hq_544 hm_486 hk_487)).symm.trans ((congrArg (hK _) e9).trans (kd_nO' (k := 1)))) (by decide)) q9) (rd_nOR (k := 1) hq_544 hm_486 hv_529)
  have hv_660 : hR S_588 800 q_292 = (some q_297) := hf_590.fr (mem_old hm_480) (fun q9 => (fun e9 => absurd (((kd_nO (k := 1) hq_544 hm_480 hk_481)).symm.trans ((congrArg (hK _) e9).trans (kd_nO' (k := 1)))) (by decide)) q9) (rd_nOR (k := 1) hq_544 hm_480 hv_530)
  have hv_661 : hR S_588 800 q_40 = (some q_41) := hf_590.fr (mem_old hm_492) (fun q9 => (fun e9 => absurd (((kd_nO (k := 1) hq_544 hm_492 hk_493)).symm.trans ((congrArg (hK _) e9).trans (kd_nO' (k := 1)))) (by decide)) q9) (rd_nOR (k := 1) hq_544 hm_492 hv_531)
  have hv_662 : hR S_588 800 q_97 = (some q_102) := hf_590.fr (mem_old hm_514) (fun q9 => (fun e9 => absurd (((kd_nO (k := 1) hq_544 hm_514 hk_515)).symm.trans ((congrArg (hK _) e9).trans (kd_nO' (k := 1)))) (by decide)) q9) (rd_nOR (k := 1) hq_544 hm_514 hv_532)
  have hv_663 : hR S_588 901 h = (some q_1) := hf_590.fr (mem_old hm_463) (fun q9 => (fun e9 => absurd (((kd_nO (k := 1) hq_544 hm_463 hk_464)).symm.trans ((congrArg (hK _) e9).trans (kd_nO' (k := 1)))) (by decide)) q9) (rd_nOR (k := 1) hq_544 hm_463 hv_533)
  have hv_664 : hR S_588 902 h = (some q_35) := hf_590.fr (mem_old hm_463) (fun q9 => (fun e9 => absurd (((kd_nO (k := 1) hq_544 hm_463 hk_464)).symm.trans ((congrArg (hK _) e9).trans (kd_nO' (k := 1)))) (by decide)) q9) (rd_nOR (k := 1) hq_544 hm_463 hv_534)
  have hv_665 : hR S_588 903 h = (some q_97) := hf_590.fr (mem_old hm_463) (fun q9 => (fun e9 => absurd (((kd_nO (k := 1) hq_544 hm_463 hk_464)).symm.trans ((congrArg (hK _) e9).trans (kd_nO' (k := 1)))) (by decide)) q9) (rd_nOR (k := 1) hq_544 hm_463 hv_535)
  have hv_666 : hR S_588 904 h = (some q_158) := hf_590.fr (mem_old hm_463) (fun q9 => (fun e9 => absurd (((kd_nO (k := 1) hq_544 hm_463 hk_464)).symm.trans ((congrArg (hK _) e9).trans (kd_nO' (k := 1)))) (by decide)) q9) (rd_nOR (k := 1) hq_544 hm_463 hv_536)
  have hv_667 : hR S_588 905 h = (some q_218) := hf_590.fr (mem_old hm_463) (fun q9 => (fun e9 => absurd (((kd_nO (k := 1) hq_544 hm_463 hk_464)).symm.trans ((congrArg (hK _) e9).trans (kd_nO' (k := 1)))) (by decide)) q9) (rd_nOR (k := 1) hq_544 hm_463 hv_537)
  have hv_668 : hR S_588 906 h = (some q_292) := hf_590.fr (mem_old hm_463) (fun q9 => (fun e9 => absurd (((kd_nO (k := 1) hq_544 hm_463 hk_464)).symm.trans ((congrArg (hK _) e9).trans (kd_nO' (k := 1)))) (by decide)) q9) (rd_nOR (k := 1) hq_544 hm_463 hv_538)
  have hv_669 : hR S_588 907 h = (some q_375) := hf_590.fr (mem_old hm_463) (fun q9 => (fun e9 => absurd (((kd_nO (k := 1) hq_544 hm_463 hk_464)).symm.trans ((congrArg (hK _) e9).trans (kd_nO' (k := 1)))) (by decide)) q9) (rd_nOR (k := 1) hq_544 hm_463 hv_539)
  have hv_670 : hR S_588 908 h = (some q_457) := hf_590.fr (mem_old hm_463) (fun q9 => (fun e9 => absurd (((kd_nO (k := 1) hq_544 hm_463 hk_464)).symm.trans ((congrArg (hK _) e9).trans (kd_nO' (k := 1)))) (by decide)) q9) (rd_nOR (k := 1) hq_544 hm_463 hv_540)
  have hf_671 : Fm (fun _ _ => False) (fun f9 b9 => b9 = h) (fun _ => False) S S_588 := hf_546.then hf_590 (fun a9 ha9 => ⟨(fun f9 h9 => h9.elim), (fun f9 h9 => (fun h8 => absurd (h8 ▸ ha9) hz_545) h9), (fun h9 => h9.elim)⟩)
  have hN_672 : NL S [q_1, q_5, q_6, q_35, q_40, q_41, q_42, q_43, q_97, q_102, q_218, q_222, q_292, q_297, q_543] S_588 := NL.mono (show NL S [q_1, q_5, q_6, q_35, q_40, q_41, q_42, q_43, q_97, q_102, q_218, q_222, q_292, q_297, q_543] (nO S_460 q_543 1) from NL.nO hN_542 hq_544 hz_545) (fun a9 h9 => hf_590.mem h9)
  have hz_673 : q_547 ∉ hL S := fun h9 => e_554 (hf_546.mem h9)
  have hz_674 : q_548 ∉ hL S := fun h9 => e_558 (hf_546.mem h9)
  have hz_675 : q_549 ∉ hL S := fun h9 => e_562 (hf_546.mem h9)
  have hz_676 : q_550 ∉ hL S := fun h9 => e_567 (hf_546.mem h9)
  have hz_677 : q_551 ∉ hL S := fun h9 => e_571 (hf_546.mem h9)
  have hz_678 : q_552 ∉ hL S := fun h9 => e_576 (hf_546.mem h9)
  have hz_679 : q_553 ∉ hL S := fun h9 => e_581 (hf_546.mem h9)
  have hN_680 : NL S [q_1, q_5, q_6, q_35, q_40, q_41, q_42, q_43, q_97, q_102, q_218, q_222, q_292, q_297, q_543, q_547, q_548, q_549, q_550, q_551, q_552, q_553] S_588 := NL.app (show NL S [q_1, q_5, q_6, q_35, q_40, q_41, q_42, q_43, q_97, q_102, q_218, q_222, q_292, q_297, q_543] (nO S_460 q_543 1) from NL.nO hN_542 hq_544 hz_545) hNl_586 (fun a9 h9 => hf_590.mem h9) (fun a9 h9 => hf_546.mem h9)
  refine j_putrF (f := 909) C hm9 flX9_57o (by decide) rfl rfl dX9_init_93 hm_597 hk_598 rfl ?_
  refine j_aload_n C dX9_init_96 rfl 0 rfl ?_
  have hf_683 : Fm (fun _ _ => False) (fun f9 b9 => b9 = h) (fun _ => False) S (sR S_588 909 h (some q_543)) := (hf_671.sR _ (fun _ => rfl))
  refine j_new (N := 21) C (ci := 1) rfl rfl klX9_54 knX1 kiX1 (M.cells (by decide)) (M.slots (by decide)) dX9_init_97 (fun q_681 hq_682 => ?_)
  have hz_684 : q_681 ∉ hL S := fun h9 => hq_682 (hf_683.mem h9)
  refine j_dup C dX9_init_100 rfl ?_
  have hf_685 : Fm (fun _ _ => False) (fun f9 b9 => b9 = h) (fun _ => False) S (nO (sR S_588 909 h (some q_543)) q_681 1) := (hf_683.nO _ hq_682)
  refine j_callI C [] [.ref q_681, .ref h] mlX9_56 mcX1_init (c_X1_init (nO (sR S_588 909 h (some q_543)) q_681 1) q_681 mem_new (kd_nO' (k := 1))) (M.rm (by decide) (by decide) (Nat.le_of_ble_eq_true rfl) (Nat.le_of_ble_eq_true rfl)) rfl rfl (Nat.le_of_ble_eq_true rfl) dX9_init_101 (fun r_726 S_727 hp_728 => ?_)
  obtain ⟨rfl, hf_729, q_686, q_687, q_688, q_689, q_690, q_691, q_692, e_693, e_694, e_695, e_696, e_697, e_698, e_699, e_700, e_701, e_702, e_703, e_704, e_705, e_706, e_707, e_708, e_709, e_710, e_711, e_712, e_713, e_714, e_715, e_716, e_717, e_718, e_719, e_720, e_721, e_722, e_723, e_724, hNl_725⟩ := hp_728
  refine J.eq (st' := [.ref q_681, .ref h]) rfl rfl rfl ?_
  have hz_730 : ∀ j, aI S_727 q_102 j = 0 := fun j9 => (hf_729.ai (mem_old hm_601) (fun h9 => h9) j9).trans (hz_591 j9)
  have hz_731 : ∀ j, aI S_727 q_158 j = 0 := fun j9 => (hf_729.ai (mem_old hm_604) (fun h9 => h9) j9).trans (hz_592 j9)
  have hz_732 : ∀ j, aI S_727 q_297 j = 0 := fun j9 => (hf_729.ai (mem_old hm_614) (fun h9 => h9) j9).trans (hz_593 j9)
  have hz_733 : ∀ j, aI S_727 q_375 j = 0 := fun j9 => (hf_729.ai (mem_old hm_619) (fun h9 => h9) j9).trans (hz_594 j9)
  have hz_734 : ∀ j, aI S_727 q_41 j = 0 := fun j9 => (hf_729.ai (mem_old hm_624) (fun h9 => h9) j9).trans (hz_595 j9)
  have hz_735 : ∀ j, aI S_727 q_457 j = 0 := fun j9 => (hf_729.ai (mem_old hm_633) (fun h9 => h9) j9).trans (hz_596 j9)
  have hm_736 : h ∈ hL S_727 := hf_729.mem (mem_old hm_597)
  have hk_737 : Kd S_727 h 9 := hf_729.kd (mem_old hm_597) (kd_nO (k := 1) hq_682 hm_597 hk_598)
  have hm_738 : q_1 ∈ hL S_727 := hf_729.mem (mem_old hm_599)
  have hk_739 : Kd S_727 q_1 0 := hf_729.kd (mem_old hm_599) (kd_nO (k := 1) hq_682 hm_599 hk_600)
  have hm_740 : q_102 ∈ hL S_727 := hf_729.mem (mem_old hm_601)
  have hk_741 : Kd S_727 q_102 14 := hf_729.kd (mem_old hm_601) (kd_nO (k := 1) hq_682 hm_601 hk_602)
  have hn_742 : Ln S_727 q_102 16 := hf_729.ln (mem_old hm_601) hn_603
  have hm_743 : q_158 ∈ hL S_727 := hf_729.mem (mem_old hm_604)
  have hk_744 : Kd S_727 q_158 20 := hf_729.kd (mem_old hm_604) (kd_nO (k := 1) hq_682 hm_604 hk_605)
  have hn_745 : Ln S_727 q_158 16 := hf_729.ln (mem_old hm_604) hn_606
  have hm_746 : q_218 ∈ hL S_727 := hf_729.mem (mem_old hm_607)
  have hk_747 : Kd S_727 q_218 10 := hf_729.kd (mem_old hm_607) (kd_nO (k := 1) hq_682 hm_607 hk_608)
  have hm_748 : q_222 ∈ hL S_727 := hf_729.mem (mem_old hm_609)
  have hk_749 : Kd S_727 q_222 15 := hf_729.kd (mem_old hm_609) (kd_nO (k := 1) hq_682 hm_609 hk_610)
  have hn_750 : Ln S_727 q_222 16 := hf_729.ln (mem_old hm_609) hn_611
  have hm_751 : q_292 ∈ hL S_727 := hf_729.mem (mem_old hm_612)
  have hk_752 : Kd S_727 q_292 8 := hf_729.kd (mem_old hm_612) (kd_nO (k := 1) hq_682 hm_612 hk_613)
  have hm_753 : q_297 ∈ hL S_727 := hf_729.mem (mem_old hm_614)
  have hk_754 : Kd S_727 q_297 14 := hf_729.kd (mem_old hm_614) (kd_nO (k := 1) hq_682 hm_614 hk_615)
  have hn_755 : Ln S_727 q_297 16 := hf_729.ln (mem_old hm_614) hn_616
  have hm_756 : q_35 ∈ hL S_727 := hf_729.mem (mem_old hm_617)
  have hk_757 : Kd S_727 q_35 2 := hf_729.kd (mem_old hm_617) (kd_nO (k := 1) hq_682 hm_617 hk_618)
  have hm_758 : q_375 ∈ hL S_727 := hf_729.mem (mem_old hm_619)
  have hk_759 : Kd S_727 q_375 13 := hf_729.kd (mem_old hm_619) (kd_nO (k := 1) hq_682 hm_619 hk_620)
  have hn_760 : Ln S_727 q_375 24000 := hf_729.ln (mem_old hm_619) hn_621
  have hm_761 : q_40 ∈ hL S_727 := hf_729.mem (mem_old hm_622)
  have hk_762 : Kd S_727 q_40 8 := hf_729.kd (mem_old hm_622) (kd_nO (k := 1) hq_682 hm_622 hk_623)
  have hm_763 : q_41 ∈ hL S_727 := hf_729.mem (mem_old hm_624)
  have hk_764 : Kd S_727 q_41 14 := hf_729.kd (mem_old hm_624) (kd_nO (k := 1) hq_682 hm_624 hk_625)
  have hn_765 : Ln S_727 q_41 16 := hf_729.ln (mem_old hm_624) hn_626
  have hm_766 : q_42 ∈ hL S_727 := hf_729.mem (mem_old hm_627)
  have hk_767 : Kd S_727 q_42 14 := hf_729.kd (mem_old hm_627) (kd_nO (k := 1) hq_682 hm_627 hk_628)
  have hn_768 : Ln S_727 q_42 119 := hf_729.ln (mem_old hm_627) hn_629
  have hm_769 : q_43 ∈ hL S_727 := hf_729.mem (mem_old hm_630)
  have hk_770 : Kd S_727 q_43 14 := hf_729.kd (mem_old hm_630) (kd_nO (k := 1) hq_682 hm_630 hk_631)
  have hn_771 : Ln S_727 q_43 8 := hf_729.ln (mem_old hm_630) hn_632
  have hm_772 : q_457 ∈ hL S_727 := hf_729.mem (mem_old hm_633)
  have hk_773 : Kd S_727 q_457 14 := hf_729.kd (mem_old hm_633) (kd_nO (k := 1) hq_682 hm_633 hk_634)
  have hn_774 : Ln S_727 q_457 16 := hf_729.ln (mem_old hm_633) hn_635
  have hm_775 : q_5 ∈ hL S_727 := hf_729.mem (mem_old hm_636)
  have hk_776 : Kd S_727 q_5 14 := hf_729.kd (mem_old hm_636) (kd_nO (k := 1) hq_682 hm_636 hk_637)
  have hn_777 : Ln S_727 q_5 20000 := hf_729.ln (mem_old hm_636) hn_638
  have hm_778 : q_543 ∈ hL S_727 := hf_729.mem (mem_old hm_639)
  have hk_779 : Kd S_727 q_543 1 := hf_729.kd (mem_old hm_639) (kd_nO (k := 1) hq_682 hm_639 hk_640)
  have hm_780 : q_547 ∈ hL S_727 := hf_729.mem (mem_old e_555)
  have hk_781 : Kd S_727 q_547 7 := hf_729.kd (mem_old e_555) (kd_nO (k := 1) hq_682 e_555 e_556)
  have hm_782 : q_548 ∈ hL S_727 := hf_729.mem (mem_old e_559)
  have hk_783 : Kd S_727 q_548 4 := hf_729.kd (mem_old e_559) (kd_nO (k := 1) hq_682 e_559 e_560)
  have hm_784 : q_549 ∈ hL S_727 := hf_729.mem (mem_old e_563)
  have hk_785 : Kd S_727 q_549 14 := hf_729.kd (mem_old e_563) (kd_nO (k := 1) hq_682 e_563 e_564)
  have hn_786 : Ln S_727 q_549 20 := hf_729.ln (mem_old e_563) e_565
  have hm_787 : q_550 ∈ hL S_727 := hf_729.mem (mem_old e_568)
  have hk_788 : Kd S_727 q_550 10 := hf_729.kd (mem_old e_568) (kd_nO (k := 1) hq_682 e_568 e_569)
  have hm_789 : q_551 ∈ hL S_727 := hf_729.mem (mem_old e_572)
  have hk_790 : Kd S_727 q_551 15 := hf_729.kd (mem_old e_572) (kd_nO (k := 1) hq_682 e_572 e_573)
  have hn_791 : Ln S_727 q_551 16 := hf_729.ln (mem_old e_572) e_574
  have hm_792 : q_552 ∈ hL S_727 := hf_729.mem (mem_old e_577)
  have hk_793 : Kd S_727 q_552 14 := hf_729.kd (mem_old e_577) (kd_nO (k := 1) hq_682 e_577 e_578)
  have hn_794 : Ln S_727 q_552 8 := hf_729.ln (mem_old e_577) e_579
  have hm_795 : q_553 ∈ hL S_727 := hf_729.mem (mem_old e_582)
  have hk_796 : Kd S_727 q_553 14 := hf_729.kd (mem_old e_582) (kd_nO (k := 1) hq_682 e_582 e_583)
  have hn_797 : Ln S_727 q_553 8 := hf_729.ln (mem_old e_582) e_584
  have hm_798 : q_6 ∈ hL S_727 := hf_729.mem (mem_old hm_641)
  have hk_799 : Kd S_727 q_6 14 := hf_729.kd (mem_old hm_641) (kd_nO (k := 1) hq_682 hm_641 hk_642)
  have hn_800 : Ln S_727 q_6 25 := hf_729.ln (mem_old hm_641) hn_643
  have hm_801 : q_681 ∈ hL S_727 := hf_729.mem mem_new
  have hk_802 : Kd S_727 q_681 1 := hf_729.kd mem_new (kd_nO' (k := 1))
  have hm_803 : q_97 ∈ hL S_727 := hf_729.mem (mem_old hm_644)
  have hk_804 : Kd S_727 q_97 8 := hf_729.kd (mem_old hm_644) (kd_nO (k := 1) hq_682 hm_644 hk_645)
  have hv_805 : hI S_727 1000 q_218 = 1 := hf_729.fi (mem_old hm_607) (fun h9 => h9) (rd_nOI (k := 1) hq_682 hm_607 hv_646)
  have hv_806 : hI S_727 1001 q_218 = 1 := hf_729.fi (mem_old hm_607) (fun h9 => h9) (rd_nOI (k := 1) hq_682 hm_607 hv_647)
  have hv_807 : hI S_727 2 q_1 = 0 := hf_729.fi (mem_old hm_599) (fun h9 => h9) (rd_nOI (k := 1) hq_682 hm_599 hv_648)
  have hv_808 : hI S_727 206 q_35 = 0 := hf_729.fi (mem_old hm_617) (fun h9 => h9) (rd_nOI (k := 1) hq_682 hm_617 hv_649)
  have hv_809 : hI S_727 209 q_35 = 0 := hf_729.fi (mem_old hm_617) (fun h9 => h9) (rd_nOI (k := 1) hq_682 hm_617 hv_650)
  have hv_810 : hI S_727 3 q_1 = 0 := hf_729.fi (mem_old hm_599) (fun h9 => h9) (rd_nOI (k := 1) hq_682 hm_599 hv_651)
  have hv_811 : hI S_727 4 q_1 = 0 := hf_729.fi (mem_old hm_599) (fun h9 => h9) (rd_nOI (k := 1) hq_682 hm_599 hv_652)
  have hv_812 : hI S_727 5 q_1 = 0 := hf_729.fi (mem_old hm_599) (fun h9 => h9) (rd_nOI (k := 1) hq_682 hm_599 hv_653)
  have hv_813 : hR S_727 0 q_1 = (some q_5) := hf_729.fr (mem_old hm_599) (fun q9 => (fun e9 => absurd (((kd_nO (k := 1) hq_682 hm_599 hk_600)).symm.trans ((congrArg (hK _) e9).trans (kd_nO' (k := 1)))) (by decide)) q9) (rd_nOR (k := 1) hq_682 hm_599 (rd_sRf (S := S_588) (g := 909) (a := h) (v := (some q_543)) (by decide) hv_654))
  have hv_814 : hR S_727 1 q_1 = (some q_6) := hf_729.fr (mem_old hm_599) (fun q9 => (fun e9 => absurd (((kd_nO (k := 1) hq_682 hm_599 hk_600)).symm.trans ((congrArg (hK _) e9).trans (kd_nO' (k := 1)))) (by decide)) q9) (rd_nOR (k := 1) hq_682 hm_599 (rd_sRf (S := S_588) (g := 909) (a := h) (v := (some q_543)) (by decide) hv_655))
  have hv_815 : hR S_727 100 q_543 = (some q_547) := hf_729.fr (mem_old hm_639) (fun q9 => (ne_of_nin hq_682 hm_639) q9) (rd_nOR (k := 1) hq_682 hm_639 (rd_sRf (S := S_588) (g := 909) (a := h) (v := (some q_543)) (by decide) e_557))
  have hv_816 : hR S_727 1003 q_218 = (some q_222) := hf_729.fr (mem_old hm_607) (fun q9 => (fun e9 => absurd (((kd_nO (k := 1) hq_682 hm_607 hk_608)).symm.trans ((congrArg (hK _) e9).trans (kd_nO' (k := 1)))) (by decide)) q9) (rd_nOR (k := 1) hq_682 hm_607 (rd_sRf (S := S_588) (g := 909) (a := h) (v := (some q_543)) (by decide) hv_656))
  have hv_817 : hR S_727 1003 q_550 = (some q_551) := hf_729.fr (mem_old e_568) (fun q9 => (fun e9 => absurd (((kd_nO (k := 1) hq_682 e_568 e_569)).symm.trans ((congrArg (hK _) e9).trans (kd_nO' (k := 1)))) (by decide)) q9) (rd_nOR (k := 1) hq_682 e_568 (rd_sRf (S := S_588) (g := 909) (a := h) (v := (some q_543)) (by decide) e_575))
  have hv_818 : hR S_727 101 q_543 = (some q_548) := hf_729.fr (mem_old hm_639) (fun q9 => (ne_of_nin hq_682 hm_639) q9) (rd_nOR (k := 1) hq_682 hm_639 (rd_sRf (S := S_588) (g := 909) (a := h) (v := (some q_543)) (by decide) e_561))
  have hv_819 : hR S_727 102 q_543 = (some q_550) := hf_729.fr (mem_old hm_639) (fun q9 => (ne_of_nin hq_682 hm_639) q9) (rd_nOR (k := 1) hq_682 hm_639 (rd_sRf (S := S_588) (g := 909) (a := h) (v := (some q_543)) (by decide) e_570))
  have hv_820 : hR S_727 103 q_543 = (some q_552) := hf_729.fr (mem_old hm_639) (fun q9 => (ne_of_nin hq_682 hm_639) q9) (rd_nOR (k := 1) hq_682 hm_639 (rd_sRf (S := S_588) (g := 909) (a := h) (v := (some q_543)) (by decide) e_580))
  have hv_821 : hR S_727 104 q_543 = (some q_553) := hf_729.fr (mem_old hm_639) (fun q9 => (ne_of_nin hq_682 hm_639) q9) (rd_nOR (k := 1) hq_682 hm_639 (rd_sRf (S := S_588) (g := 909) (a := h) (v := (some q_543)) (by decide) e_585))
  have hv_822 : hR S_727 200 q_35 = (some q_40) := hf_729.fr (mem_old hm_617) (fun q9 => (fun e9 => absurd (((kd_nO (k := 1) hq_682 hm_617 hk_618)).symm.trans ((congrArg (hK _) e9).trans (kd_nO' (k := 1)))) (by decide)) q9) (rd_nOR (k := 1) hq_682 hm_617 (rd_sRf (S := S_588) (g := 909) (a := h) (v := (some q_543)) (by decide) hv_657))
  have hv_823 : hR S_727 201 q_35 = (some q_42) := hf_729.fr (mem_old hm_617) (fun q9 => (fun e9 => absurd (((kd_nO (k := 1) hq_682 hm_617 hk_618)).symm.trans ((congrArg (hK _) e9).trans (kd_nO' (k := 1)))) (by decide)) q9) (rd_nOR (k := 1) hq_682 hm_617 (rd_sRf (S := S_588) (g := 909) (a := h) (v := (some q_543)) (by decide) hv_658))
  have hv_824 : hR S_727 207 q_35 = (some q_43) := hf_729.fr (mem_old hm_617) (fun q9 => (fun e9 => absurd (((kd_nO (k := 1) hq_682 hm_617 hk_618)).symm.trans ((congrArg (hK _) e9).trans (kd_nO' (k := 1)))) (by decide)) q9) (rd_nOR (k := 1) hq_682 hm_617 (rd_sRf (S := S_588) (g := 909) (a := h) (v := (some q_543)) (by decide) hv_659))
  have hv_825 : hR S_727 407 q_548 = (some q_549) := hf_729.fr (mem_old e_559) (fun q9 => (fun e9 => absurd (((kd_nO (k := 1) hq_682 e_559 e_560)).symm.trans ((congrArg (hK _) e9).trans (kd_nO' (k := 1)))) (by decide)) q9) (rd_nOR (k := 1) hq_682 e_559 (rd_sRf (S := S_588) (g := 909) (a := h) (v := (some q_543)) (by decide) e_566))
  have hv_826 : hR S_727 800 q_292 = (some q_297) := hf_729.fr (mem_old hm_612) (fun q9 => (fun e9 => absurd (((kd_nO (k := 1) hq_682 hm_612 hk_613)).symm.trans ((congrArg (hK _) e9).trans (kd_nO' (k := 1)))) (by decide)) q9) (rd_nOR (k := 1) hq_682 hm_612 (rd_sRf (S := S_588) (g := 909) (a := h) (v := (some q_543)) (by decide) hv_660))
  have hv_827 : hR S_727 800 q_40 = (some q_41) := hf_729.fr (mem_old hm_622) (fun q9 => (fun e9 => absurd (((kd_nO (k := 1) hq_682 hm_622 hk_623)).symm.trans ((congrArg (hK _) e9).trans (kd_nO' (k := 1)))) (by decide)) q9) (rd_nOR (k := 1) hq_682 hm_622 (rd_sRf (S := S_588) (g := 909) (a := h) (v := (some q_543)) (by decide) hv_661))
  have hv_828 : hR S_727 800 q_97 = (some q_102) := hf_729.fr (mem_old hm_644) (fun q9 => (fun e9 => absurd (((kd_nO (k := 1) hq_682 hm_644 hk_645)).symm.trans ((congrArg (hK _) e9).trans (kd_nO' (k := 1)))) (by decide)) q9) (rd_nOR (k := 1) hq_682 hm_644 (rd_sRf (S := S_588) (g := 909) (a := h) (v := (some q_543)) (by decide) hv_662))
  have hv_829 : hR S_727 901 h = (some q_1) := hf_729.fr (mem_old hm_597) (fun q9 => (fun e9 => absurd (((kd_nO (k := 1) hq_682 hm_597 hk_598)).symm.trans ((congrArg (hK _) e9).trans (kd_nO' (k := 1)))) (by decide)) q9) (rd_nOR (k := 1) hq_682 hm_597 (rd_sRf (S := S_588) (g := 909) (a := h) (v := (some q_543)) (by decide) hv_663))
  have hv_830 : hR S_727 902 h = (some q_35) := hf_729.fr (mem_old hm_597) (fun q9 => (fun e9 => absurd (((kd_nO (k := 1) hq_682 hm_597 hk_598)).symm.trans ((congrArg (hK _) e9).trans (kd_nO' (k := 1)))) (by decide)) q9) (rd_nOR (k := 1) hq_682 hm_597 (rd_sRf (S := S_588) (g := 909) (a := h) (v := (some q_543)) (by decide) hv_664))
  have hv_831 : hR S_727 903 h = (some q_97) := hf_729.fr (mem_old hm_597) (fun q9 => (fun e9 => absurd (((kd_nO (k := 1) hq_682 hm_597 hk_598)).symm.trans ((congrArg (hK _) e9).trans (kd_nO' (k := 1)))) (by decide)) q9) (rd_nOR (k := 1) hq_682 hm_597 (rd_sRf (S := S_588) (g := 909) (a := h) (v := (some q_543)) (by decide) hv_665))
  have hv_832 : hR S_727 904 h = (some q_158) := hf_729.fr (mem_old hm_597) (fun q9 => (fun e9 => absurd (((kd_nO (k := 1) hq_682 hm_597 hk_598)).symm.trans ((congrArg (hK _) e9).trans (kd_nO' (k := 1)))) (by decide)) q9) (rd_nOR (k := 1) hq_682 hm_597 (rd_sRf (S := S_588) (g := 909) (a := h) (v := (some q_543)) (by decide) hv_666))
  have hv_833 : hR S_727 905 h = (some q_218) := hf_729.fr (mem_old hm_597) (fun q9 => (fun e9 => absurd (((kd_nO (k := 1) hq_682 hm_597 hk_598)).symm.trans ((congrArg (hK _) e9).trans (kd_nO' (k := 1)))) (by decide)) q9) (rd_nOR (k := 1) hq_682 hm_597 (rd_sRf (S := S_588) (g := 909) (a := h) (v := (some q_543)) (by decide) hv_667))
  have hv_834 : hR S_727 906 h = (some q_292) := hf_729.fr (mem_old hm_597) (fun q9 => (fun e9 => absurd (((kd_nO (k := 1) hq_682 hm_597 hk_598)).symm.trans ((congrArg (hK _) e9).trans (kd_nO' (k := 1)))) (by decide)) q9) (rd_nOR (k := 1) hq_682 hm_597 (rd_sRf (S := S_588) (g := 909) (a := h) (v := (some q_543)) (by decide) hv_668))
  have hv_835 : hR S_727 907 h = (some q_375) := hf_729.fr (mem_old hm_597) (fun q9 => (fun e9 => absurd (((kd_nO (k := 1) hq_682 hm_597 hk_598)).symm.trans ((congrArg (hK _) e9).trans (kd_nO' (k := 1)))) (by decide)) q9) (rd_nOR (k := 1) hq_682 hm_597 (rd_sRf (S := S_588) (g := 909) (a := h) (v := (some q_543)) (by decide) hv_669))
  have hv_836 : hR S_727 908 h = (some q_457) := hf_729.fr (mem_old hm_597) (fun q9 => (fun e9 => absurd (((kd_nO (k := 1) hq_682 hm_597 hk_598)).symm.trans ((congrArg (hK _) e9).trans (kd_nO' (k := 1)))) (by decide)) q9) (rd_nOR (k := 1) hq_682 hm_597 (rd_sRf (S := S_588) (g := 909) (a := h) (v := (some q_543)) (by decide) hv_670))
  have hv_837 : hR S_727 909 h = (some q_543) := hf_729.fr (mem_old hm_597) (fun q9 => (fun e9 => absurd (((kd_nO (k := 1) hq_682 hm_597 hk_598)).symm.trans ((congrArg (hK _) e9).trans (kd_nO' (k := 1)))) (by decide)) q9) (rd_nOR (k := 1) hq_682 hm_597 (rd_sR (S := S_588) (g := 909) (a := h) (v := (some q_543))))
  have hf_838 : Fm (fun _ _ => False) (fun f9 b9 => b9 = h) (fun _ => False) S S_727 := hf_685.then hf_729 (fun a9 ha9 => ⟨(fun f9 h9 => h9.elim), (fun f9 h9 => (fun h8 => absurd (h8 ▸ ha9) hz_684) h9), (fun h9 => h9.elim)⟩)
  have hN_839 : NL S [q_1, q_5, q_6, q_35, q_40, q_41, q_42, q_43, q_97, q_102, q_218, q_222, q_292, q_297, q_543, q_547, q_548, q_549, q_550, q_551, q_552, q_553] S_727 := NL.mono (show NL S [q_1, q_5, q_6, q_35, q_40, q_41, q_42, q_43, q_97, q_102, q_218, q_222, q_292, q_297, q_543, q_547, q_548, q_549, q_550, q_551, q_552, q_553] (nO (sR S_588 909 h (some q_543)) q_681 1) from NL.oldO (NL.sR (S := S_588) hN_680)) (fun a9 h9 => hf_729.mem h9)
  show J _ _ _ _ _ 104 _
  refine j_putrF (f := 910) C hm9 flX9_61o (by decide) rfl rfl dX9_init_104 hm_736 hk_737 rfl ?_
  refine j_aload_n C dX9_init_107 rfl 0 rfl ?_
  refine j_iconst (v := 3) C dX9_init_108 (by decide) ?_
  have hf_842 : Fm (fun _ _ => False) (fun f9 b9 => b9 = h) (fun _ => False) S (sR S_727 910 h (some q_681)) := (hf_838.sR _ (fun _ => rfl))
  refine j_newQ (N := 3) C 18 (by decide) rfl klX9_54 (gx_Environment C) (by decide) (by decide) (by decide) (M.cells (by decide)) (M.slots (by decide)) dX9_init_109 (fun q_840 hq_841 => ?_)
  have hz_843 : q_840 ∉ hL S := fun h9 => hq_841 (hf_842.mem h9)
  refine j_putrF (f := 911) C hm9 flX9_64o (by decide) rfl rfl dX9_init_112 (mem_old hm_736) (kd_nA (k := 18) (n := 3) hq_841 hm_736 hk_737) rfl ?_
  refine j_aload_n C dX9_init_115 rfl 0 rfl ?_
  refine j_iconst (v := 4) C dX9_init_116 (by decide) ?_
  have hf_846 : Fm (fun _ _ => False) (fun f9 b9 => b9 = h) (fun _ => False) S (sR (nA (sR S_727 910 h (some q_681)) q_840 18 3) 911 h (some q_840)) := ((hf_842.nA _ _ hq_841).sR _ (fun _ => rfl))
  obtain ⟨S_844, eS_845⟩ : ∃ S9 : Hp, S9 = (sR (nA (sR S_727 910 h (some q_681)) q_840 18 3) 911 h (some q_840)) := ⟨_, rfl⟩
  refine J.eq (S' := S_844) eS_845.symm rfl rfl ?_
  have hm_847 : h ∈ hL S_844 := by rw [eS_845]; exact (mem_old hm_736)
  have hk_848 : Kd S_844 h 9 := by rw [eS_845]; exact (kd_nA (k := 18) (n := 3) hq_841 hm_736 hk_737)
  have hm_849 : q_1 ∈ hL S_844 := by rw [eS_845]; exact (mem_old hm_738)
  have hk_850 : Kd S_844 q_1 0 := by rw [eS_845]; exact (kd_nA (k := 18) (n := 3) hq_841 hm_738 hk_739)
  have hm_851 : q_102 ∈ hL S_844 := by rw [eS_845]; exact (mem_old hm_740)
  have hk_852 : Kd S_844 q_102 14 := by rw [eS_845]; exact (kd_nA (k := 18) (n := 3) hq_841 hm_740 hk_741)
  have hn_853 : Ln S_844 q_102 16 := by rw [eS_845]; exact (ln_nA (k := 18) hq_841 hm_740 hn_742)
  have hz_854 : ∀ j, aI S_844 q_102 j = 0 := by rw [eS_845]; exact (fun j9 => rd_nAI (k := 18) (n := 3) hq_841 hm_740 (hz_730 j9))
  have hm_855 : q_158 ∈ hL S_844 := by rw [eS_845]; exact (mem_old hm_743)
  have hk_856 : Kd S_844 q_158 20 := by rw [eS_845]; exact (kd_nA (k := 18) (n := 3) hq_841 hm_743 hk_744)
  have hn_857 : Ln S_844 q_158 16 := by rw [eS_845]; exact (ln_nA (k := 18) hq_841 hm_743 hn_745)
  have hz_858 : ∀ j, aI S_844 q_158 j = 0 := by rw [eS_845]; exact (fun j9 => rd_nAI (k := 18) (n := 3) hq_841 hm_743 (hz_731 j9))
  have hm_859 : q_218 ∈ hL S_844 := by rw [eS_845]; exact (mem_old hm_746)
  have hk_860 : Kd S_844 q_218 10 := by rw [eS_845]; exact (kd_nA (k := 18) (n := 3) hq_841 hm_746 hk_747)
  have hm_861 : q_222 ∈ hL S_844 := by rw [eS_845]; exact (mem_old hm_748)
  have hk_862 : Kd S_844 q_222 15 := by rw [eS_845]; exact (kd_nA (k := 18) (n := 3) hq_841 hm_748 hk_749)
  have hn_863 : Ln S_844 q_222 16 := by rw [eS_845]; exact (ln_nA (k := 18) hq_841 hm_748 hn_750)
  have hm_864 : q_292 ∈ hL S_844 := by rw [eS_845]; exact (mem_old hm_751)
  have hk_865 : Kd S_844 q_292 8 := by rw [eS_845]; exact (kd_nA (k := 18) (n := 3) hq_841 hm_751 hk_752)
  have hm_866 : q_297 ∈ hL S_844 := by rw [eS_845]; exact (mem_old hm_753)
  have hk_867 : Kd S_844 q_297 14 := by rw [eS_845]; exact (kd_nA (k := 18) (n := 3) hq_841 hm_753 hk_754)
  have hn_868 : Ln S_844 q_297 16 := by rw [eS_845]; exact (ln_nA (k := 18) hq_841 hm_753 hn_755)
  have hz_869 : ∀ j, aI S_844 q_297 j = 0 := by rw [eS_845]; exact (fun j9 => rd_nAI (k := 18) (n := 3) hq_841 hm_753 (hz_732 j9))
  have hm_870 : q_35 ∈ hL S_844 := by rw [eS_845]; exact (mem_old hm_756)
  have hk_871 : Kd S_844 q_35 2 := by rw [eS_845]; exact (kd_nA (k := 18) (n := 3) hq_841 hm_756 hk_757)
  have hm_872 : q_375 ∈ hL S_844 := by rw [eS_845]; exact (mem_old hm_758)
  have hk_873 : Kd S_844 q_375 13 := by rw [eS_845]; exact (kd_nA (k := 18) (n := 3) hq_841 hm_758 hk_759)
  have hn_874 : Ln S_844 q_375 24000 := by rw [eS_845]; exact (ln_nA (k := 18) hq_841 hm_758 hn_760)
  have hz_875 : ∀ j, aI S_844 q_375 j = 0 := by rw [eS_845]; exact (fun j9 => rd_nAI (k := 18) (n := 3) hq_841 hm_758 (hz_733 j9))
  have hm_876 : q_40 ∈ hL S_844 := by rw [eS_845]; exact (mem_old hm_761)
  have hk_877 : Kd S_844 q_40 8 := by rw [eS_845]; exact (kd_nA (k := 18) (n := 3) hq_841 hm_761 hk_762)
  have hm_878 : q_41 ∈ hL S_844 := by rw [eS_845]; exact (mem_old hm_763)
  have hk_879 : Kd S_844 q_41 14 := by rw [eS_845]; exact (kd_nA (k := 18) (n := 3) hq_841 hm_763 hk_764)
  have hn_880 : Ln S_844 q_41 16 := by rw [eS_845]; exact (ln_nA (k := 18) hq_841 hm_763 hn_765)
  have hz_881 : ∀ j, aI S_844 q_41 j = 0 := by rw [eS_845]; exact (fun j9 => rd_nAI (k := 18) (n := 3) hq_841 hm_763 (hz_734 j9))
  have hm_882 : q_42 ∈ hL S_844 := by rw [eS_845]; exact (mem_old hm_766)
  have hk_883 : Kd S_844 q_42 14 := by rw [eS_845]; exact (kd_nA (k := 18) (n := 3) hq_841 hm_766 hk_767)
  have hn_884 : Ln S_844 q_42 119 := by rw [eS_845]; exact (ln_nA (k := 18) hq_841 hm_766 hn_768)
  have hm_885 : q_43 ∈ hL S_844 := by rw [eS_845]; exact (mem_old hm_769)
  have hk_886 : Kd S_844 q_43 14 := by rw [eS_845]; exact (kd_nA (k := 18) (n := 3) hq_841 hm_769 hk_770)
  have hn_887 : Ln S_844 q_43 8 := by rw [eS_845]; exact (ln_nA (k := 18) hq_841 hm_769 hn_771)
  have hm_888 : q_457 ∈ hL S_844 := by rw [eS_845]; exact (mem_old hm_772)
  have hk_889 : Kd S_844 q_457 14 := by rw [eS_845]; exact (kd_nA (k := 18) (n := 3) hq_841 hm_772 hk_773)
  have hn_890 : Ln S_844 q_457 16 := by rw [eS_845]; exact (ln_nA (k := 18) hq_841 hm_772 hn_774)
  have hz_891 : ∀ j, aI S_844 q_457 j = 0 := by rw [eS_845]; exact (fun j9 => rd_nAI (k := 18) (n := 3) hq_841 hm_772 (hz_735 j9))
  have hm_892 : q_5 ∈ hL S_844 := by rw [eS_845]; exact (mem_old hm_775)
  have hk_893 : Kd S_844 q_5 14 := by rw [eS_845]; exact (kd_nA (k := 18) (n := 3) hq_841 hm_775 hk_776)
  have hn_894 : Ln S_844 q_5 20000 := by rw [eS_845]; exact (ln_nA (k := 18) hq_841 hm_775 hn_777)
  have hm_895 : q_543 ∈ hL S_844 := by rw [eS_845]; exact (mem_old hm_778)
  have hk_896 : Kd S_844 q_543 1 := by rw [eS_845]; exact (kd_nA (k := 18) (n := 3) hq_841 hm_778 hk_779)
  have hm_897 : q_547 ∈ hL S_844 := by rw [eS_845]; exact (mem_old hm_780)
  have hk_898 : Kd S_844 q_547 7 := by rw [eS_845]; exact (kd_nA (k := 18) (n := 3) hq_841 hm_780 hk_781)
  have hm_899 : q_548 ∈ hL S_844 := by rw [eS_845]; exact (mem_old hm_782)
  have hk_900 : Kd S_844 q_548 4 := by rw [eS_845]; exact (kd_nA (k := 18) (n := 3) hq_841 hm_782 hk_783)
  have hm_901 : q_549 ∈ hL S_844 := by rw [eS_845]; exact (mem_old hm_784)
  have hk_902 : Kd S_844 q_549 14 := by rw [eS_845]; exact (kd_nA (k := 18) (n := 3) hq_841 hm_784 hk_785)
  have hn_903 : Ln S_844 q_549 20 := by rw [eS_845]; exact (ln_nA (k := 18) hq_841 hm_784 hn_786)
  have hm_904 : q_550 ∈ hL S_844 := by rw [eS_845]; exact (mem_old hm_787)
  have hk_905 : Kd S_844 q_550 10 := by rw [eS_845]; exact (kd_nA (k := 18) (n := 3) hq_841 hm_787 hk_788)
  have hm_906 : q_551 ∈ hL S_844 := by rw [eS_845]; exact (mem_old hm_789)
  have hk_907 : Kd S_844 q_551 15 := by rw [eS_845]; exact (kd_nA (k := 18) (n := 3) hq_841 hm_789 hk_790)
  have hn_908 : Ln S_844 q_551 16 := by rw [eS_845]; exact (ln_nA (k := 18) hq_841 hm_789 hn_791)
  have hm_909 : q_552 ∈ hL S_844 := by rw [eS_845]; exact (mem_old hm_792)
  have hk_910 : Kd S_844 q_552 14 := by rw [eS_845]; exact (kd_nA (k := 18) (n := 3) hq_841 hm_792 hk_793)
  have hn_911 : Ln S_844 q_552 8 := by rw [eS_845]; exact (ln_nA (k := 18) hq_841 hm_792 hn_794)
  have hm_912 : q_553 ∈ hL S_844 := by rw [eS_845]; exact (mem_old hm_795)
  have hk_913 : Kd S_844 q_553 14 := by rw [eS_845]; exact (kd_nA (k := 18) (n := 3) hq_841 hm_795 hk_796)
  have hn_914 : Ln S_844 q_553 8 := by rw [eS_845]; exact (ln_nA (k := 18) hq_841 hm_795 hn_797)
  have hm_915 : q_6 ∈ hL S_844 := by rw [eS_845]; exact (mem_old hm_798)
  have hk_916 : Kd S_844 q_6 14 := by rw [eS_845]; exact (kd_nA (k := 18) (n := 3) hq_841 hm_798 hk_799)
  have hn_917 : Ln S_844 q_6 25 := by rw [eS_845]; exact (ln_nA (k := 18) hq_841 hm_798 hn_800)
  have hm_918 : q_681 ∈ hL S_844 := by rw [eS_845]; exact (mem_old hm_801)
  have hk_919 : Kd S_844 q_681 1 := by rw [eS_845]; exact (kd_nA (k := 18) (n := 3) hq_841 hm_801 hk_802)
  have hm_920 : q_840 ∈ hL S_844 := by rw [eS_845]; exact mem_new
  have hk_921 : Kd S_844 q_840 18 := by rw [eS_845]; exact (kd_nA' (k := 18) (n := 3))
  have hn_922 : Ln S_844 q_840 3 := by rw [eS_845]; exact (ln_nA' (k := 18))
  have hz_923 : ∀ j, aI S_844 q_840 j = 0 := by rw [eS_845]; exact (fun j9 => rd_nAI' (k := 18) (n := 3))
  have hm_924 : q_97 ∈ hL S_844 := by rw [eS_845]; exact (mem_old hm_803)
  have hk_925 : Kd S_844 q_97 8 := by rw [eS_845]; exact (kd_nA (k := 18) (n := 3) hq_841 hm_803 hk_804)
  have hv_926 : hI S_844 1000 q_218 = 1 := by rw [eS_845]; exact hv_805
  have hv_927 : hI S_844 1001 q_218 = 1 := by rw [eS_845]; exact hv_806
  have hv_928 : hI S_844 2 q_1 = 0 := by rw [eS_845]; exact hv_807
  have hv_929 : hI S_844 206 q_35 = 0 := by rw [eS_845]; exact hv_808
  have hv_930 : hI S_844 209 q_35 = 0 := by rw [eS_845]; exact hv_809
  have hv_931 : hI S_844 3 q_1 = 0 := by rw [eS_845]; exact hv_810
  have hv_932 : hI S_844 4 q_1 = 0 := by rw [eS_845]; exact hv_811
  have hv_933 : hI S_844 5 q_1 = 0 := by rw [eS_845]; exact hv_812
  have hv_934 : hR S_844 0 q_1 = (some q_5) := by rw [eS_845]; exact (rd_sRf (S := (nA (sR S_727 910 h (some q_681)) q_840 18 3)) (g := 911) (a := h) (v := (some q_840)) (by decide) (rd_sRf (S := S_727) (g := 910) (a := h) (v := (some q_681)) (by decide) hv_813))
  have hv_935 : hR S_844 1 q_1 = (some q_6) := by rw [eS_845]; exact (rd_sRf (S := (nA (sR S_727 910 h (some q_681)) q_840 18 3)) (g := 911) (a := h) (v := (some q_840)) (by decide) (rd_sRf (S := S_727) (g := 910) (a := h) (v := (some q_681)) (by decide) hv_814))
  have hv_936 : hR S_844 100 q_543 = (some q_547) := by rw [eS_845]; exact (rd_sRf (S := (nA (sR S_727 910 h (some q_681)) q_840 18 3)) (g := 911) (a := h) (v := (some q_840)) (by decide) (rd_sRf (S := S_727) (g := 910) (a := h) (v := (some q_681)) (by decide) hv_815))
  have hv_937 : hR S_844 1003 q_218 = (some q_222) := by rw [eS_845]; exact (rd_sRf (S := (nA (sR S_727 910 h (some q_681)) q_840 18 3)) (g := 911) (a := h) (v := (some q_840)) (by decide) (rd_sRf (S := S_727) (g := 910) (a := h) (v := (some q_681)) (by decide) hv_816))
  have hv_938 : hR S_844 1003 q_550 = (some q_551) := by rw [eS_845]; exact (rd_sRf (S := (nA (sR S_727 910 h (some q_681)) q_840 18 3)) (g := 911) (a := h) (v := (some q_840)) (by decide) (rd_sRf (S := S_727) (g := 910) (a := h) (v := (some q_681)) (by decide) hv_817))
  have hv_939 : hR S_844 101 q_543 = (some q_548) := by rw [eS_845]; exact (rd_sRf (S := (nA (sR S_727 910 h (some q_681)) q_840 18 3)) (g := 911) (a := h) (v := (some q_840)) (by decide) (rd_sRf (S := S_727) (g := 910) (a := h) (v := (some q_681)) (by decide) hv_818))
  have hv_940 : hR S_844 102 q_543 = (some q_550) := by rw [eS_845]; exact (rd_sRf (S := (nA (sR S_727 910 h (some q_681)) q_840 18 3)) (g := 911) (a := h) (v := (some q_840)) (by decide) (rd_sRf (S := S_727) (g := 910) (a := h) (v := (some q_681)) (by decide) hv_819))
  have hv_941 : hR S_844 103 q_543 = (some q_552) := by rw [eS_845]; exact (rd_sRf (S := (nA (sR S_727 910 h (some q_681)) q_840 18 3)) (g := 911) (a := h) (v := (some q_840)) (by decide) (rd_sRf (S := S_727) (g := 910) (a := h) (v := (some q_681)) (by decide) hv_820))
  have hv_942 : hR S_844 104 q_543 = (some q_553) := by rw [eS_845]; exact (rd_sRf (S := (nA (sR S_727 910 h (some q_681)) q_840 18 3)) (g := 911) (a := h) (v := (some q_840)) (by decide) (rd_sRf (S := S_727) (g := 910) (a := h) (v := (some q_681)) (by decide) hv_821))
  have hv_943 : hR S_844 200 q_35 = (some q_40) := by rw [eS_845]; exact (rd_sRf (S := (nA (sR S_727 910 h (some q_681)) q_840 18 3)) (g := 911) (a := h) (v := (some q_840)) (by decide) (rd_sRf (S := S_727) (g := 910) (a := h) (v := (some q_681)) (by decide) hv_822))
  have hv_944 : hR S_844 201 q_35 = (some q_42) := by rw [eS_845]; exact (rd_sRf (S := (nA (sR S_727 910 h (some q_681)) q_840 18 3)) (g := 911) (a := h) (v := (some q_840)) (by decide) (rd_sRf (S := S_727) (g := 910) (a := h) (v := (some q_681)) (by decide) hv_823))
  have hv_945 : hR S_844 207 q_35 = (some q_43) := by rw [eS_845]; exact (rd_sRf (S := (nA (sR S_727 910 h (some q_681)) q_840 18 3)) (g := 911) (a := h) (v := (some q_840)) (by decide) (rd_sRf (S := S_727) (g := 910) (a := h) (v := (some q_681)) (by decide) hv_824))
  have hv_946 : hR S_844 407 q_548 = (some q_549) := by rw [eS_845]; exact (rd_sRf (S := (nA (sR S_727 910 h (some q_681)) q_840 18 3)) (g := 911) (a := h) (v := (some q_840)) (by decide) (rd_sRf (S := S_727) (g := 910) (a := h) (v := (some q_681)) (by decide) hv_825))
  have hv_947 : hR S_844 800 q_292 = (some q_297) := by rw [eS_845]; exact (rd_sRf (S := (nA (sR S_727 910 h (some q_681)) q_840 18 3)) (g := 911) (a := h) (v := (some q_840)) (by decide) (rd_sRf (S := S_727) (g := 910) (a := h) (v := (some q_681)) (by decide) hv_826))
  have hv_948 : hR S_844 800 q_40 = (some q_41) := by rw [eS_845]; exact (rd_sRf (S := (nA (sR S_727 910 h (some q_681)) q_840 18 3)) (g := 911) (a := h) (v := (some q_840)) (by decide) (rd_sRf (S := S_727) (g := 910) (a := h) (v := (some q_681)) (by decide) hv_827))
  have hv_949 : hR S_844 800 q_97 = (some q_102) := by rw [eS_845]; exact (rd_sRf (S := (nA (sR S_727 910 h (some q_681)) q_840 18 3)) (g := 911) (a := h) (v := (some q_840)) (by decide) (rd_sRf (S := S_727) (g := 910) (a := h) (v := (some q_681)) (by decide) hv_828))
  have hv_950 : hR S_844 901 h = (some q_1) := by rw [eS_845]; exact (rd_sRf (S := (nA (sR S_727 910 h (some q_681)) q_840 18 3)) (g := 911) (a := h) (v := (some q_840)) (by decide) (rd_sRf (S := S_727) (g := 910) (a := h) (v := (some q_681)) (by decide) hv_829))
  have hv_951 : hR S_844 902 h = (some q_35) := by rw [eS_845]; exact (rd_sRf (S := (nA (sR S_727 910 h (some q_681)) q_840 18 3)) (g := 911) (a := h) (v := (some q_840)) (by decide) (rd_sRf (S := S_727) (g := 910) (a := h) (v := (some q_681)) (by decide) hv_830))
  have hv_952 : hR S_844 903 h = (some q_97) := by rw [eS_845]; exact (rd_sRf (S := (nA (sR S_727 910 h (some q_681)) q_840 18 3)) (g := 911) (a := h) (v := (some q_840)) (by decide) (rd_sRf (S := S_727) (g := 910) (a := h) (v := (some q_681)) (by decide) hv_831))
  have hv_953 : hR S_844 904 h = (some q_158) := by rw [eS_845]; exact (rd_sRf (S := (nA (sR S_727 910 h (some q_681)) q_840 18 3)) (g := 911) (a := h) (v := (some q_840)) (by decide) (rd_sRf (S := S_727) (g := 910) (a := h) (v := (some q_681)) (by decide) hv_832))
  have hv_954 : hR S_844 905 h = (some q_218) := by rw [eS_845]; exact (rd_sRf (S := (nA (sR S_727 910 h (some q_681)) q_840 18 3)) (g := 911) (a := h) (v := (some q_840)) (by decide) (rd_sRf (S := S_727) (g := 910) (a := h) (v := (some q_681)) (by decide) hv_833))
  have hv_955 : hR S_844 906 h = (some q_292) := by rw [eS_845]; exact (rd_sRf (S := (nA (sR S_727 910 h (some q_681)) q_840 18 3)) (g := 911) (a := h) (v := (some q_840)) (by decide) (rd_sRf (S := S_727) (g := 910) (a := h) (v := (some q_681)) (by decide) hv_834))
  have hv_956 : hR S_844 907 h = (some q_375) := by rw [eS_845]; exact (rd_sRf (S := (nA (sR S_727 910 h (some q_681)) q_840 18 3)) (g := 911) (a := h) (v := (some q_840)) (by decide) (rd_sRf (S := S_727) (g := 910) (a := h) (v := (some q_681)) (by decide) hv_835))
  have hv_957 : hR S_844 908 h = (some q_457) := by rw [eS_845]; exact (rd_sRf (S := (nA (sR S_727 910 h (some q_681)) q_840 18 3)) (g := 911) (a := h) (v := (some q_840)) (by decide) (rd_sRf (S := S_727) (g := 910) (a := h) (v := (some q_681)) (by decide) hv_836))
  have hv_958 : hR S_844 909 h = (some q_543) := by rw [eS_845]; exact (rd_sRf (S := (nA (sR S_727 910 h (some q_681)) q_840 18 3)) (g := 911) (a := h) (v := (some q_840)) (by decide) (rd_sRf (S := S_727) (g := 910) (a := h) (v := (some q_681)) (by decide) hv_837))
  have hv_959 : hR S_844 910 h = (some q_681) := by rw [eS_845]; exact (rd_sRf (S := (nA (sR S_727 910 h (some q_681)) q_840 18 3)) (g := 911) (a := h) (v := (some q_840)) (by decide) (rd_sR (S := S_727) (g := 910) (a := h) (v := (some q_681))))
  have hv_960 : hR S_844 911 h = (some q_840) := by rw [eS_845]; exact (rd_sR (S := (nA (sR S_727 910 h (some q_681)) q_840 18 3)) (g := 911) (a := h) (v := (some q_840)))
  have hf_961 : Fm (fun _ _ => False) (fun f9 b9 => b9 = h) (fun _ => False) S S_844 := by rw [eS_845]; exact hf_846
  have hN_962 : NL S [q_1, q_5, q_6, q_35, q_40, q_41, q_42, q_43, q_97, q_102, q_218, q_222, q_292, q_297, q_543, q_547, q_548, q_549, q_550, q_551, q_552, q_553] S_844 := by rw [eS_845]; exact (NL.sR (S := (nA (sR S_727 910 h (some q_681)) q_840 18 3)) (show NL S [q_1, q_5, q_6, q_35, q_40, q_41, q_42, q_43, q_97, q_102, q_218, q_222, q_292, q_297, q_543, q_547, q_548, q_549, q_550, q_551, q_552, q_553] (nA (sR S_727 910 h (some q_681)) q_840 18 3) from NL.oldA (NL.sR (S := S_727) hN_839)))
  refine j_newQ (N := 4) C 19 (by decide) rfl klX9_68 (gx_Reading C) (by decide) (by decide) (by decide) (M.cells (by decide)) (M.slots (by decide)) dX9_init_117 (fun q_963 hq_964 => ?_)
  have hz_965 : q_963 ∉ hL S := fun h9 => hq_964 (hf_961.mem h9)
  show J _ _ _ _ _ 120 _
  refine j_putrF (f := 912) C hm9 flX9_70o (by decide) rfl rfl dX9_init_120 (mem_old hm_847) (kd_nA (k := 19) (n := 4) hq_964 hm_847 hk_848) rfl ?_
  refine j_aload_n C dX9_init_123 rfl 0 rfl ?_
  refine j_bipush (v := 12) C dX9_init_124 (by decide) ?_
  have hf_968 : Fm (fun _ _ => False) (fun f9 b9 => b9 = h) (fun _ => False) S (sR (nA S_844 q_963 19 4) 912 h (some q_963)) := ((hf_961.nA _ _ hq_964).sR _ (fun _ => rfl))
  obtain ⟨S_966, eS_967⟩ : ∃ S9 : Hp, S9 = (sR (nA S_844 q_963 19 4) 912 h (some q_963)) := ⟨_, rfl⟩
  refine J.eq (S' := S_966) eS_967.symm rfl rfl ?_
  have hm_969 : h ∈ hL S_966 := by rw [eS_967]; exact (mem_old hm_847)
  have hk_970 : Kd S_966 h 9 := by rw [eS_967]; exact (kd_nA (k := 19) (n := 4) hq_964 hm_847 hk_848)
  have hm_971 : q_1 ∈ hL S_966 := by rw [eS_967]; exact (mem_old hm_849)
  have hk_972 : Kd S_966 q_1 0 := by rw [eS_967]; exact (kd_nA (k := 19) (n := 4) hq_964 hm_849 hk_850)
  have hm_973 : q_102 ∈ hL S_966 := by rw [eS_967]; exact (mem_old hm_851)
  have hk_974 : Kd S_966 q_102 14 := by rw [eS_967]; exact (kd_nA (k := 19) (n := 4) hq_964 hm_851 hk_852)
  have hn_975 : Ln S_966 q_102 16 := by rw [eS_967]; exact (ln_nA (k := 19) hq_964 hm_851 hn_853)
  have hz_976 : ∀ j, aI S_966 q_102 j = 0 := by rw [eS_967]; exact (fun j9 => rd_nAI (k := 19) (n := 4) hq_964 hm_851 (hz_854 j9))
  have hm_977 : q_158 ∈ hL S_966 := by rw [eS_967]; exact (mem_old hm_855)
  have hk_978 : Kd S_966 q_158 20 := by rw [eS_967]; exact (kd_nA (k := 19) (n := 4) hq_964 hm_855 hk_856)
  have hn_979 : Ln S_966 q_158 16 := by rw [eS_967]; exact (ln_nA (k := 19) hq_964 hm_855 hn_857)
  have hz_980 : ∀ j, aI S_966 q_158 j = 0 := by rw [eS_967]; exact (fun j9 => rd_nAI (k := 19) (n := 4) hq_964 hm_855 (hz_858 j9))
  have hm_981 : q_218 ∈ hL S_966 := by rw [eS_967]; exact (mem_old hm_859)
  have hk_982 : Kd S_966 q_218 10 := by rw [eS_967]; exact (kd_nA (k := 19) (n := 4) hq_964 hm_859 hk_860)
  have hm_983 : q_222 ∈ hL S_966 := by rw [eS_967]; exact (mem_old hm_861)
  have hk_984 : Kd S_966 q_222 15 := by rw [eS_967]; exact (kd_nA (k := 19) (n := 4) hq_964 hm_861 hk_862)
  have hn_985 : Ln S_966 q_222 16 := by rw [eS_967]; exact (ln_nA (k := 19) hq_964 hm_861 hn_863)
  have hm_986 : q_292 ∈ hL S_966 := by rw [eS_967]; exact (mem_old hm_864)
  have hk_987 : Kd S_966 q_292 8 := by rw [eS_967]; exact (kd_nA (k := 19) (n := 4) hq_964 hm_864 hk_865)
  have hm_988 : q_297 ∈ hL S_966 := by rw [eS_967]; exact (mem_old hm_866)
  have hk_989 : Kd S_966 q_297 14 := by rw [eS_967]; exact (kd_nA (k := 19) (n := 4) hq_964 hm_866 hk_867)
  have hn_990 : Ln S_966 q_297 16 := by rw [eS_967]; exact (ln_nA (k := 19) hq_964 hm_866 hn_868)
  have hz_991 : ∀ j, aI S_966 q_297 j = 0 := by rw [eS_967]; exact (fun j9 => rd_nAI (k := 19) (n := 4) hq_964 hm_866 (hz_869 j9))
  have hm_992 : q_35 ∈ hL S_966 := by rw [eS_967]; exact (mem_old hm_870)
  have hk_993 : Kd S_966 q_35 2 := by rw [eS_967]; exact (kd_nA (k := 19) (n := 4) hq_964 hm_870 hk_871)
  have hm_994 : q_375 ∈ hL S_966 := by rw [eS_967]; exact (mem_old hm_872)
  have hk_995 : Kd S_966 q_375 13 := by rw [eS_967]; exact (kd_nA (k := 19) (n := 4) hq_964 hm_872 hk_873)
  have hn_996 : Ln S_966 q_375 24000 := by rw [eS_967]; exact (ln_nA (k := 19) hq_964 hm_872 hn_874)
  have hz_997 : ∀ j, aI S_966 q_375 j = 0 := by rw [eS_967]; exact (fun j9 => rd_nAI (k := 19) (n := 4) hq_964 hm_872 (hz_875 j9))
  have hm_998 : q_40 ∈ hL S_966 := by rw [eS_967]; exact (mem_old hm_876)
  have hk_999 : Kd S_966 q_40 8 := by rw [eS_967]; exact (kd_nA (k := 19) (n := 4) hq_964 hm_876 hk_877)
  have hm_1000 : q_41 ∈ hL S_966 := by rw [eS_967]; exact (mem_old hm_878)
  have hk_1001 : Kd S_966 q_41 14 := by rw [eS_967]; exact (kd_nA (k := 19) (n := 4) hq_964 hm_878 hk_879)
  have hn_1002 : Ln S_966 q_41 16 := by rw [eS_967]; exact (ln_nA (k := 19) hq_964 hm_878 hn_880)
  have hz_1003 : ∀ j, aI S_966 q_41 j = 0 := by rw [eS_967]; exact (fun j9 => rd_nAI (k := 19) (n := 4) hq_964 hm_878 (hz_881 j9))
  have hm_1004 : q_42 ∈ hL S_966 := by rw [eS_967]; exact (mem_old hm_882)
  have hk_1005 : Kd S_966 q_42 14 := by rw [eS_967]; exact (kd_nA (k := 19) (n := 4) hq_964 hm_882 hk_883)
  have hn_1006 : Ln S_966 q_42 119 := by rw [eS_967]; exact (ln_nA (k := 19) hq_964 hm_882 hn_884)
  have hm_1007 : q_43 ∈ hL S_966 := by rw [eS_967]; exact (mem_old hm_885)
  have hk_1008 : Kd S_966 q_43 14 := by rw [eS_967]; exact (kd_nA (k := 19) (n := 4) hq_964 hm_885 hk_886)
  have hn_1009 : Ln S_966 q_43 8 := by rw [eS_967]; exact (ln_nA (k := 19) hq_964 hm_885 hn_887)
  have hm_1010 : q_457 ∈ hL S_966 := by rw [eS_967]; exact (mem_old hm_888)
  have hk_1011 : Kd S_966 q_457 14 := by rw [eS_967]; exact (kd_nA (k := 19) (n := 4) hq_964 hm_888 hk_889)
  have hn_1012 : Ln S_966 q_457 16 := by rw [eS_967]; exact (ln_nA (k := 19) hq_964 hm_888 hn_890)
  have hz_1013 : ∀ j, aI S_966 q_457 j = 0 := by rw [eS_967]; exact (fun j9 => rd_nAI (k := 19) (n := 4) hq_964 hm_888 (hz_891 j9))
  have hm_1014 : q_5 ∈ hL S_966 := by rw [eS_967]; exact (mem_old hm_892)
  have hk_1015 : Kd S_966 q_5 14 := by rw [eS_967]; exact (kd_nA (k := 19) (n := 4) hq_964 hm_892 hk_893)
  have hn_1016 : Ln S_966 q_5 20000 := by rw [eS_967]; exact (ln_nA (k := 19) hq_964 hm_892 hn_894)
  have hm_1017 : q_543 ∈ hL S_966 := by rw [eS_967]; exact (mem_old hm_895)
  have hk_1018 : Kd S_966 q_543 1 := by rw [eS_967]; exact (kd_nA (k := 19) (n := 4) hq_964 hm_895 hk_896)
  have hm_1019 : q_547 ∈ hL S_966 := by rw [eS_967]; exact (mem_old hm_897)
  have hk_1020 : Kd S_966 q_547 7 := by rw [eS_967]; exact (kd_nA (k := 19) (n := 4) hq_964 hm_897 hk_898)
  have hm_1021 : q_548 ∈ hL S_966 := by rw [eS_967]; exact (mem_old hm_899)
  have hk_1022 : Kd S_966 q_548 4 := by rw [eS_967]; exact (kd_nA (k := 19) (n := 4) hq_964 hm_899 hk_900)
  have hm_1023 : q_549 ∈ hL S_966 := by rw [eS_967]; exact (mem_old hm_901)
  have hk_1024 : Kd S_966 q_549 14 := by rw [eS_967]; exact (kd_nA (k := 19) (n := 4) hq_964 hm_901 hk_902)
  have hn_1025 : Ln S_966 q_549 20 := by rw [eS_967]; exact (ln_nA (k := 19) hq_964 hm_901 hn_903)
  have hm_1026 : q_550 ∈ hL S_966 := by rw [eS_967]; exact (mem_old hm_904)
  have hk_1027 : Kd S_966 q_550 10 := by rw [eS_967]; exact (kd_nA (k := 19) (n := 4) hq_964 hm_904 hk_905)
  have hm_1028 : q_551 ∈ hL S_966 := by rw [eS_967]; exact (mem_old hm_906)
  have hk_1029 : Kd S_966 q_551 15 := by rw [eS_967]; exact (kd_nA (k := 19) (n := 4) hq_964 hm_906 hk_907)
  have hn_1030 : Ln S_966 q_551 16 := by rw [eS_967]; exact (ln_nA (k := 19) hq_964 hm_906 hn_908)
  have hm_1031 : q_552 ∈ hL S_966 := by rw [eS_967]; exact (mem_old hm_909)
  have hk_1032 : Kd S_966 q_552 14 := by rw [eS_967]; exact (kd_nA (k := 19) (n := 4) hq_964 hm_909 hk_910)
  have hn_1033 : Ln S_966 q_552 8 := by rw [eS_967]; exact (ln_nA (k := 19) hq_964 hm_909 hn_911)
  have hm_1034 : q_553 ∈ hL S_966 := by rw [eS_967]; exact (mem_old hm_912)
  have hk_1035 : Kd S_966 q_553 14 := by rw [eS_967]; exact (kd_nA (k := 19) (n := 4) hq_964 hm_912 hk_913)
  have hn_1036 : Ln S_966 q_553 8 := by rw [eS_967]; exact (ln_nA (k := 19) hq_964 hm_912 hn_914)
  have hm_1037 : q_6 ∈ hL S_966 := by rw [eS_967]; exact (mem_old hm_915)
  have hk_1038 : Kd S_966 q_6 14 := by rw [eS_967]; exact (kd_nA (k := 19) (n := 4) hq_964 hm_915 hk_916)
  have hn_1039 : Ln S_966 q_6 25 := by rw [eS_967]; exact (ln_nA (k := 19) hq_964 hm_915 hn_917)
  have hm_1040 : q_681 ∈ hL S_966 := by rw [eS_967]; exact (mem_old hm_918)
  have hk_1041 : Kd S_966 q_681 1 := by rw [eS_967]; exact (kd_nA (k := 19) (n := 4) hq_964 hm_918 hk_919)
  have hm_1042 : q_840 ∈ hL S_966 := by rw [eS_967]; exact (mem_old hm_920)
  have hk_1043 : Kd S_966 q_840 18 := by rw [eS_967]; exact (kd_nA (k := 19) (n := 4) hq_964 hm_920 hk_921)
  have hn_1044 : Ln S_966 q_840 3 := by rw [eS_967]; exact (ln_nA (k := 19) hq_964 hm_920 hn_922)
  have hz_1045 : ∀ j, aI S_966 q_840 j = 0 := by rw [eS_967]; exact (fun j9 => rd_nAI (k := 19) (n := 4) hq_964 hm_920 (hz_923 j9))
  have hm_1046 : q_963 ∈ hL S_966 := by rw [eS_967]; exact mem_new
  have hk_1047 : Kd S_966 q_963 19 := by rw [eS_967]; exact (kd_nA' (k := 19) (n := 4))
  have hn_1048 : Ln S_966 q_963 4 := by rw [eS_967]; exact (ln_nA' (k := 19))
  have hz_1049 : ∀ j, aI S_966 q_963 j = 0 := by rw [eS_967]; exact (fun j9 => rd_nAI' (k := 19) (n := 4))
  have hm_1050 : q_97 ∈ hL S_966 := by rw [eS_967]; exact (mem_old hm_924)
  have hk_1051 : Kd S_966 q_97 8 := by rw [eS_967]; exact (kd_nA (k := 19) (n := 4) hq_964 hm_924 hk_925)
  have hv_1052 : hI S_966 1000 q_218 = 1 := by rw [eS_967]; exact hv_926
  have hv_1053 : hI S_966 1001 q_218 = 1 := by rw [eS_967]; exact hv_927
  have hv_1054 : hI S_966 2 q_1 = 0 := by rw [eS_967]; exact hv_928
  have hv_1055 : hI S_966 206 q_35 = 0 := by rw [eS_967]; exact hv_929
  have hv_1056 : hI S_966 209 q_35 = 0 := by rw [eS_967]; exact hv_930
  have hv_1057 : hI S_966 3 q_1 = 0 := by rw [eS_967]; exact hv_931
  have hv_1058 : hI S_966 4 q_1 = 0 := by rw [eS_967]; exact hv_932
  have hv_1059 : hI S_966 5 q_1 = 0 := by rw [eS_967]; exact hv_933
  have hv_1060 : hR S_966 0 q_1 = (some q_5) := by rw [eS_967]; exact (rd_sRf (S := (nA S_844 q_963 19 4)) (g := 912) (a := h) (v := (some q_963)) (by decide) hv_934)
  have hv_1061 : hR S_966 1 q_1 = (some q_6) := by rw [eS_967]; exact (rd_sRf (S := (nA S_844 q_963 19 4)) (g := 912) (a := h) (v := (some q_963)) (by decide) hv_935)
  have hv_1062 : hR S_966 100 q_543 = (some q_547) := by rw [eS_967]; exact (rd_sRf (S := (nA S_844 q_963 19 4)) (g := 912) (a := h) (v := (some q_963)) (by decide) hv_936)
  have hv_1063 : hR S_966 1003 q_218 = (some q_222) := by rw [eS_967]; exact (rd_sRf (S := (nA S_844 q_963 19 4)) (g := 912) (a := h) (v := (some q_963)) (by decide) hv_937)
  have hv_1064 : hR S_966 1003 q_550 = (some q_551) := by rw [eS_967]; exact (rd_sRf (S := (nA S_844 q_963 19 4)) (g := 912) (a := h) (v := (some q_963)) (by decide) hv_938)
  have hv_1065 : hR S_966 101 q_543 = (some q_548) := by rw [eS_967]; exact (rd_sRf (S := (nA S_844 q_963 19 4)) (g := 912) (a := h) (v := (some q_963)) (by decide) hv_939)
  have hv_1066 : hR S_966 102 q_543 = (some q_550) := by rw [eS_967]; exact (rd_sRf (S := (nA S_844 q_963 19 4)) (g := 912) (a := h) (v := (some q_963)) (by decide) hv_940)
  have hv_1067 : hR S_966 103 q_543 = (some q_552) := by rw [eS_967]; exact (rd_sRf (S := (nA S_844 q_963 19 4)) (g := 912) (a := h) (v := (some q_963)) (by decide) hv_941)
  have hv_1068 : hR S_966 104 q_543 = (some q_553) := by rw [eS_967]; exact (rd_sRf (S := (nA S_844 q_963 19 4)) (g := 912) (a := h) (v := (some q_963)) (by decide) hv_942)
  have hv_1069 : hR S_966 200 q_35 = (some q_40) := by rw [eS_967]; exact (rd_sRf (S := (nA S_844 q_963 19 4)) (g := 912) (a := h) (v := (some q_963)) (by decide) hv_943)
  have hv_1070 : hR S_966 201 q_35 = (some q_42) := by rw [eS_967]; exact (rd_sRf (S := (nA S_844 q_963 19 4)) (g := 912) (a := h) (v := (some q_963)) (by decide) hv_944)
  have hv_1071 : hR S_966 207 q_35 = (some q_43) := by rw [eS_967]; exact (rd_sRf (S := (nA S_844 q_963 19 4)) (g := 912) (a := h) (v := (some q_963)) (by decide) hv_945)
  have hv_1072 : hR S_966 407 q_548 = (some q_549) := by rw [eS_967]; exact (rd_sRf (S := (nA S_844 q_963 19 4)) (g := 912) (a := h) (v := (some q_963)) (by decide) hv_946)
  have hv_1073 : hR S_966 800 q_292 = (some q_297) := by rw [eS_967]; exact (rd_sRf (S := (nA S_844 q_963 19 4)) (g := 912) (a := h) (v := (some q_963)) (by decide) hv_947)
  have hv_1074 : hR S_966 800 q_40 = (some q_41) := by rw [eS_967]; exact (rd_sRf (S := (nA S_844 q_963 19 4)) (g := 912) (a := h) (v := (some q_963)) (by decide) hv_948)
  have hv_1075 : hR S_966 800 q_97 = (some q_102) := by rw [eS_967]; exact (rd_sRf (S := (nA S_844 q_963 19 4)) (g := 912) (a := h) (v := (some q_963)) (by decide) hv_949)
  have hv_1076 : hR S_966 901 h = (some q_1) := by rw [eS_967]; exact (rd_sRf (S := (nA S_844 q_963 19 4)) (g := 912) (a := h) (v := (some q_963)) (by decide) hv_950)
  have hv_1077 : hR S_966 902 h = (some q_35) := by rw [eS_967]; exact (rd_sRf (S := (nA S_844 q_963 19 4)) (g := 912) (a := h) (v := (some q_963)) (by decide) hv_951)
  have hv_1078 : hR S_966 903 h = (some q_97) := by rw [eS_967]; exact (rd_sRf (S := (nA S_844 q_963 19 4)) (g := 912) (a := h) (v := (some q_963)) (by decide) hv_952)
  have hv_1079 : hR S_966 904 h = (some q_158) := by rw [eS_967]; exact (rd_sRf (S := (nA S_844 q_963 19 4)) (g := 912) (a := h) (v := (some q_963)) (by decide) hv_953)
  have hv_1080 : hR S_966 905 h = (some q_218) := by rw [eS_967]; exact (rd_sRf (S := (nA S_844 q_963 19 4)) (g := 912) (a := h) (v := (some q_963)) (by decide) hv_954)
  have hv_1081 : hR S_966 906 h = (some q_292) := by rw [eS_967]; exact (rd_sRf (S := (nA S_844 q_963 19 4)) (g := 912) (a := h) (v := (some q_963)) (by decide) hv_955)
  have hv_1082 : hR S_966 907 h = (some q_375) := by rw [eS_967]; exact (rd_sRf (S := (nA S_844 q_963 19 4)) (g := 912) (a := h) (v := (some q_963)) (by decide) hv_956)
  have hv_1083 : hR S_966 908 h = (some q_457) := by rw [eS_967]; exact (rd_sRf (S := (nA S_844 q_963 19 4)) (g := 912) (a := h) (v := (some q_963)) (by decide) hv_957)
  have hv_1084 : hR S_966 909 h = (some q_543) := by rw [eS_967]; exact (rd_sRf (S := (nA S_844 q_963 19 4)) (g := 912) (a := h) (v := (some q_963)) (by decide) hv_958)
  have hv_1085 : hR S_966 910 h = (some q_681) := by rw [eS_967]; exact (rd_sRf (S := (nA S_844 q_963 19 4)) (g := 912) (a := h) (v := (some q_963)) (by decide) hv_959)
  have hv_1086 : hR S_966 911 h = (some q_840) := by rw [eS_967]; exact (rd_sRf (S := (nA S_844 q_963 19 4)) (g := 912) (a := h) (v := (some q_963)) (by decide) hv_960)
  have hv_1087 : hR S_966 912 h = (some q_963) := by rw [eS_967]; exact (rd_sR (S := (nA S_844 q_963 19 4)) (g := 912) (a := h) (v := (some q_963)))
  have hf_1088 : Fm (fun _ _ => False) (fun f9 b9 => b9 = h) (fun _ => False) S S_966 := by rw [eS_967]; exact hf_968
  have hN_1089 : NL S [q_1, q_5, q_6, q_35, q_40, q_41, q_42, q_43, q_97, q_102, q_218, q_222, q_292, q_297, q_543, q_547, q_548, q_549, q_550, q_551, q_552, q_553, q_963] S_966 := by rw [eS_967]; exact (NL.sR (S := (nA S_844 q_963 19 4)) (show NL S [q_1, q_5, q_6, q_35, q_40, q_41, q_42, q_43, q_97, q_102, q_218, q_222, q_292, q_297, q_543, q_547, q_548, q_549, q_550, q_551, q_552, q_553, q_963] (nA S_844 q_963 19 4) from NL.nA hN_962 hq_964 hz_965))
  refine j_newI (N := 12) C ka_int (by decide) (by decide) (Nat.le_of_ble_eq_true rfl) (M.cells (by decide)) (M.slots (Nat.le_of_ble_eq_true rfl)) dX9_init_126 (fun q_1090 hq_1091 => ?_)
  have hz_1092 : q_1090 ∉ hL S := fun h9 => hq_1091 (hf_1088.mem h9)
  refine j_putrF (f := 917) C hm9 flX9_74o (by decide) rfl rfl dX9_init_128 (mem_old hm_969) (kd_nA (k := 14) (n := 12) hq_1091 hm_969 hk_970) rfl ?_
  refine j_aload_n C dX9_init_131 rfl 0 rfl ?_
  refine j_aload_n C dX9_init_132 rfl 1 rfl ?_
  refine j_putrF (f := 900) C hm9 flX9_77o (by decide) rfl rfl dX9_init_133 (mem_old hm_969) (kd_nA (k := 14) (n := 12) hq_1091 hm_969 hk_970) rfl ?_
  show J _ _ _ _ _ 136 _
  refine j_iconst (v := 0) C dX9_init_136 (by decide) ?_
  refine j_istore_n (lv' := [(2, .int 0), (0, .ref h), (1, .ref s0)]) C dX9_init_137 rfl (by rw [hn9]; decide) rfl ?_
  have hf_1095 : Fm (fun _ _ => False) (fun f9 b9 => b9 = h) (fun _ => False) S (sR (sR (nA S_966 q_1090 14 12) 917 h (some q_1090)) 900 h (some s0)) := (((hf_1088.nA _ _ hq_1091).sR _ (fun _ => rfl)).sR _ (fun _ => rfl))
  obtain ⟨S_1093, eS_1094⟩ : ∃ S9 : Hp, S9 = (sR (sR (nA S_966 q_1090 14 12) 917 h (some q_1090)) 900 h (some s0)) := ⟨_, rfl⟩
  refine J.eq (S' := S_1093) eS_1094.symm rfl rfl ?_
  have hm_1096 : h ∈ hL S_1093 := by rw [eS_1094]; exact (mem_old hm_969)
  have hk_1097 : Kd S_1093 h 9 := by rw [eS_1094]; exact (kd_nA (k := 14) (n := 12) hq_1091 hm_969 hk_970)
  have hm_1098 : q_1 ∈ hL S_1093 := by rw [eS_1094]; exact (mem_old hm_971)
  have hk_1099 : Kd S_1093 q_1 0 := by rw [eS_1094]; exact (kd_nA (k := 14) (n := 12) hq_1091 hm_971 hk_972)
  have hm_1100 : q_102 ∈ hL S_1093 := by rw [eS_1094]; exact (mem_old hm_973)
  have hk_1101 : Kd S_1093 q_102 14 := by rw [eS_1094]; exact (kd_nA (k := 14) (n := 12) hq_1091 hm_973 hk_974)
  have hn_1102 : Ln S_1093 q_102 16 := by rw [eS_1094]; exact (ln_nA (k := 14) hq_1091 hm_973 hn_975)
  have hz_1103 : ∀ j, aI S_1093 q_102 j = 0 := by rw [eS_1094]; exact (fun j9 => rd_nAI (k := 14) (n := 12) hq_1091 hm_973 (hz_976 j9))
  have hm_1104 : q_1090 ∈ hL S_1093 := by rw [eS_1094]; exact mem_new
  have hk_1105 : Kd S_1093 q_1090 14 := by rw [eS_1094]; exact (kd_nA' (k := 14) (n := 12))
  have hn_1106 : Ln S_1093 q_1090 12 := by rw [eS_1094]; exact (ln_nA' (k := 14))
  have hz_1107 : ∀ j, aI S_1093 q_1090 j = 0 := by rw [eS_1094]; exact (fun j9 => rd_nAI' (k := 14) (n := 12))
  have hm_1108 : q_158 ∈ hL S_1093 := by rw [eS_1094]; exact (mem_old hm_977)
  have hk_1109 : Kd S_1093 q_158 20 := by rw [eS_1094]; exact (kd_nA (k := 14) (n := 12) hq_1091 hm_977 hk_978)
  have hn_1110 : Ln S_1093 q_158 16 := by rw [eS_1094]; exact (ln_nA (k := 14) hq_1091 hm_977 hn_979)
  have hz_1111 : ∀ j, aI S_1093 q_158 j = 0 := by rw [eS_1094]; exact (fun j9 => rd_nAI (k := 14) (n := 12) hq_1091 hm_977 (hz_980 j9))
  have hm_1112 : q_218 ∈ hL S_1093 := by rw [eS_1094]; exact (mem_old hm_981)
  have hk_1113 : Kd S_1093 q_218 10 := by rw [eS_1094]; exact (kd_nA (k := 14) (n := 12) hq_1091 hm_981 hk_982)
  have hm_1114 : q_222 ∈ hL S_1093 := by rw [eS_1094]; exact (mem_old hm_983)
  have hk_1115 : Kd S_1093 q_222 15 := by rw [eS_1094]; exact (kd_nA (k := 14) (n := 12) hq_1091 hm_983 hk_984)
  have hn_1116 : Ln S_1093 q_222 16 := by rw [eS_1094]; exact (ln_nA (k := 14) hq_1091 hm_983 hn_985)
  have hm_1117 : q_292 ∈ hL S_1093 := by rw [eS_1094]; exact (mem_old hm_986)
  have hk_1118 : Kd S_1093 q_292 8 := by rw [eS_1094]; exact (kd_nA (k := 14) (n := 12) hq_1091 hm_986 hk_987)
  have hm_1119 : q_297 ∈ hL S_1093 := by rw [eS_1094]; exact (mem_old hm_988)
  have hk_1120 : Kd S_1093 q_297 14 := by rw [eS_1094]; exact (kd_nA (k := 14) (n := 12) hq_1091 hm_988 hk_989)
  have hn_1121 : Ln S_1093 q_297 16 := by rw [eS_1094]; exact (ln_nA (k := 14) hq_1091 hm_988 hn_990)
  have hz_1122 : ∀ j, aI S_1093 q_297 j = 0 := by rw [eS_1094]; exact (fun j9 => rd_nAI (k := 14) (n := 12) hq_1091 hm_988 (hz_991 j9))
  have hm_1123 : q_35 ∈ hL S_1093 := by rw [eS_1094]; exact (mem_old hm_992)
  have hk_1124 : Kd S_1093 q_35 2 := by rw [eS_1094]; exact (kd_nA (k := 14) (n := 12) hq_1091 hm_992 hk_993)
  have hm_1125 : q_375 ∈ hL S_1093 := by rw [eS_1094]; exact (mem_old hm_994)
  have hk_1126 : Kd S_1093 q_375 13 := by rw [eS_1094]; exact (kd_nA (k := 14) (n := 12) hq_1091 hm_994 hk_995)
  have hn_1127 : Ln S_1093 q_375 24000 := by rw [eS_1094]; exact (ln_nA (k := 14) hq_1091 hm_994 hn_996)
  have hz_1128 : ∀ j, aI S_1093 q_375 j = 0 := by rw [eS_1094]; exact (fun j9 => rd_nAI (k := 14) (n := 12) hq_1091 hm_994 (hz_997 j9))
  have hm_1129 : q_40 ∈ hL S_1093 := by rw [eS_1094]; exact (mem_old hm_998)
  have hk_1130 : Kd S_1093 q_40 8 := by rw [eS_1094]; exact (kd_nA (k := 14) (n := 12) hq_1091 hm_998 hk_999)
  have hm_1131 : q_41 ∈ hL S_1093 := by rw [eS_1094]; exact (mem_old hm_1000)
  have hk_1132 : Kd S_1093 q_41 14 := by rw [eS_1094]; exact (kd_nA (k := 14) (n := 12) hq_1091 hm_1000 hk_1001)
  have hn_1133 : Ln S_1093 q_41 16 := by rw [eS_1094]; exact (ln_nA (k := 14) hq_1091 hm_1000 hn_1002)
  have hz_1134 : ∀ j, aI S_1093 q_41 j = 0 := by rw [eS_1094]; exact (fun j9 => rd_nAI (k := 14) (n := 12) hq_1091 hm_1000 (hz_1003 j9))
  have hm_1135 : q_42 ∈ hL S_1093 := by rw [eS_1094]; exact (mem_old hm_1004)
  have hk_1136 : Kd S_1093 q_42 14 := by rw [eS_1094]; exact (kd_nA (k := 14) (n := 12) hq_1091 hm_1004 hk_1005)
  have hn_1137 : Ln S_1093 q_42 119 := by rw [eS_1094]; exact (ln_nA (k := 14) hq_1091 hm_1004 hn_1006)
  have hm_1138 : q_43 ∈ hL S_1093 := by rw [eS_1094]; exact (mem_old hm_1007)
  have hk_1139 : Kd S_1093 q_43 14 := by rw [eS_1094]; exact (kd_nA (k := 14) (n := 12) hq_1091 hm_1007 hk_1008)
  have hn_1140 : Ln S_1093 q_43 8 := by rw [eS_1094]; exact (ln_nA (k := 14) hq_1091 hm_1007 hn_1009)
  have hm_1141 : q_457 ∈ hL S_1093 := by rw [eS_1094]; exact (mem_old hm_1010)
  have hk_1142 : Kd S_1093 q_457 14 := by rw [eS_1094]; exact (kd_nA (k := 14) (n := 12) hq_1091 hm_1010 hk_1011)
  have hn_1143 : Ln S_1093 q_457 16 := by rw [eS_1094]; exact (ln_nA (k := 14) hq_1091 hm_1010 hn_1012)
  have hz_1144 : ∀ j, aI S_1093 q_457 j = 0 := by rw [eS_1094]; exact (fun j9 => rd_nAI (k := 14) (n := 12) hq_1091 hm_1010 (hz_1013 j9))
  have hm_1145 : q_5 ∈ hL S_1093 := by rw [eS_1094]; exact (mem_old hm_1014)
  have hk_1146 : Kd S_1093 q_5 14 := by rw [eS_1094]; exact (kd_nA (k := 14) (n := 12) hq_1091 hm_1014 hk_1015)
  have hn_1147 : Ln S_1093 q_5 20000 := by rw [eS_1094]; exact (ln_nA (k := 14) hq_1091 hm_1014 hn_1016)
  have hm_1148 : q_543 ∈ hL S_1093 := by rw [eS_1094]; exact (mem_old hm_1017)
  have hk_1149 : Kd S_1093 q_543 1 := by rw [eS_1094]; exact (kd_nA (k := 14) (n := 12) hq_1091 hm_1017 hk_1018)
  have hm_1150 : q_547 ∈ hL S_1093 := by rw [eS_1094]; exact (mem_old hm_1019)
  have hk_1151 : Kd S_1093 q_547 7 := by rw [eS_1094]; exact (kd_nA (k := 14) (n := 12) hq_1091 hm_1019 hk_1020)
  have hm_1152 : q_548 ∈ hL S_1093 := by rw [eS_1094]; exact (mem_old hm_1021)
  have hk_1153 : Kd S_1093 q_548 4 := by rw [eS_1094]; exact (kd_nA (k := 14) (n := 12) hq_1091 hm_1021 hk_1022)
  have hm_1154 : q_549 ∈ hL S_1093 := by rw [eS_1094]; exact (mem_old hm_1023)
  have hk_1155 : Kd S_1093 q_549 14 := by rw [eS_1094]; exact (kd_nA (k := 14) (n := 12) hq_1091 hm_1023 hk_1024)
  have hn_1156 : Ln S_1093 q_549 20 := by rw [eS_1094]; exact (ln_nA (k := 14) hq_1091 hm_1023 hn_1025)
  have hm_1157 : q_550 ∈ hL S_1093 := by rw [eS_1094]; exact (mem_old hm_1026)
  have hk_1158 : Kd S_1093 q_550 10 := by rw [eS_1094]; exact (kd_nA (k := 14) (n := 12) hq_1091 hm_1026 hk_1027)
  have hm_1159 : q_551 ∈ hL S_1093 := by rw [eS_1094]; exact (mem_old hm_1028)
  have hk_1160 : Kd S_1093 q_551 15 := by rw [eS_1094]; exact (kd_nA (k := 14) (n := 12) hq_1091 hm_1028 hk_1029)
  have hn_1161 : Ln S_1093 q_551 16 := by rw [eS_1094]; exact (ln_nA (k := 14) hq_1091 hm_1028 hn_1030)
  have hm_1162 : q_552 ∈ hL S_1093 := by rw [eS_1094]; exact (mem_old hm_1031)
  have hk_1163 : Kd S_1093 q_552 14 := by rw [eS_1094]; exact (kd_nA (k := 14) (n := 12) hq_1091 hm_1031 hk_1032)
  have hn_1164 : Ln S_1093 q_552 8 := by rw [eS_1094]; exact (ln_nA (k := 14) hq_1091 hm_1031 hn_1033)
  have hm_1165 : q_553 ∈ hL S_1093 := by rw [eS_1094]; exact (mem_old hm_1034)
  have hk_1166 : Kd S_1093 q_553 14 := by rw [eS_1094]; exact (kd_nA (k := 14) (n := 12) hq_1091 hm_1034 hk_1035)
  have hn_1167 : Ln S_1093 q_553 8 := by rw [eS_1094]; exact (ln_nA (k := 14) hq_1091 hm_1034 hn_1036)
  have hm_1168 : q_6 ∈ hL S_1093 := by rw [eS_1094]; exact (mem_old hm_1037)
  have hk_1169 : Kd S_1093 q_6 14 := by rw [eS_1094]; exact (kd_nA (k := 14) (n := 12) hq_1091 hm_1037 hk_1038)
  have hn_1170 : Ln S_1093 q_6 25 := by rw [eS_1094]; exact (ln_nA (k := 14) hq_1091 hm_1037 hn_1039)
  have hm_1171 : q_681 ∈ hL S_1093 := by rw [eS_1094]; exact (mem_old hm_1040)
  have hk_1172 : Kd S_1093 q_681 1 := by rw [eS_1094]; exact (kd_nA (k := 14) (n := 12) hq_1091 hm_1040 hk_1041)
  have hm_1173 : q_840 ∈ hL S_1093 := by rw [eS_1094]; exact (mem_old hm_1042)
  have hk_1174 : Kd S_1093 q_840 18 := by rw [eS_1094]; exact (kd_nA (k := 14) (n := 12) hq_1091 hm_1042 hk_1043)
  have hn_1175 : Ln S_1093 q_840 3 := by rw [eS_1094]; exact (ln_nA (k := 14) hq_1091 hm_1042 hn_1044)
  have hz_1176 : ∀ j, aI S_1093 q_840 j = 0 := by rw [eS_1094]; exact (fun j9 => rd_nAI (k := 14) (n := 12) hq_1091 hm_1042 (hz_1045 j9))
  have hm_1177 : q_963 ∈ hL S_1093 := by rw [eS_1094]; exact (mem_old hm_1046)
  have hk_1178 : Kd S_1093 q_963 19 := by rw [eS_1094]; exact (kd_nA (k := 14) (n := 12) hq_1091 hm_1046 hk_1047)
  have hn_1179 : Ln S_1093 q_963 4 := by rw [eS_1094]; exact (ln_nA (k := 14) hq_1091 hm_1046 hn_1048)
  have hz_1180 : ∀ j, aI S_1093 q_963 j = 0 := by rw [eS_1094]; exact (fun j9 => rd_nAI (k := 14) (n := 12) hq_1091 hm_1046 (hz_1049 j9))
  have hm_1181 : q_97 ∈ hL S_1093 := by rw [eS_1094]; exact (mem_old hm_1050)
  have hk_1182 : Kd S_1093 q_97 8 := by rw [eS_1094]; exact (kd_nA (k := 14) (n := 12) hq_1091 hm_1050 hk_1051)
  have hv_1183 : hI S_1093 1000 q_218 = 1 := by rw [eS_1094]; exact hv_1052
  have hv_1184 : hI S_1093 1001 q_218 = 1 := by rw [eS_1094]; exact hv_1053
  have hv_1185 : hI S_1093 2 q_1 = 0 := by rw [eS_1094]; exact hv_1054
  have hv_1186 : hI S_1093 206 q_35 = 0 := by rw [eS_1094]; exact hv_1055
  have hv_1187 : hI S_1093 209 q_35 = 0 := by rw [eS_1094]; exact hv_1056
  have hv_1188 : hI S_1093 3 q_1 = 0 := by rw [eS_1094]; exact hv_1057
  have hv_1189 : hI S_1093 4 q_1 = 0 := by rw [eS_1094]; exact hv_1058
  have hv_1190 : hI S_1093 5 q_1 = 0 := by rw [eS_1094]; exact hv_1059
  have hv_1191 : hR S_1093 0 q_1 = (some q_5) := by rw [eS_1094]; exact (rd_sRf (S := (sR (nA S_966 q_1090 14 12) 917 h (some q_1090))) (g := 900) (a := h) (v := (some s0)) (by decide) (rd_sRf (S := (nA S_966 q_1090 14 12)) (g := 917) (a := h) (v := (some q_1090)) (by decide) hv_1060))
  have hv_1192 : hR S_1093 1 q_1 = (some q_6) := by rw [eS_1094]; exact (rd_sRf (S := (sR (nA S_966 q_1090 14 12) 917 h (some q_1090))) (g := 900) (a := h) (v := (some s0)) (by decide) (rd_sRf (S := (nA S_966 q_1090 14 12)) (g := 917) (a := h) (v := (some q_1090)) (by decide) hv_1061))
  have hv_1193 : hR S_1093 100 q_543 = (some q_547) := by rw [eS_1094]; exact (rd_sRf (S := (sR (nA S_966 q_1090 14 12) 917 h (some q_1090))) (g := 900) (a := h) (v := (some s0)) (by decide) (rd_sRf (S := (nA S_966 q_1090 14 12)) (g := 917) (a := h) (v := (some q_1090)) (by decide) hv_1062))
  have hv_1194 : hR S_1093 1003 q_218 = (some q_222) := by rw [eS_1094]; exact (rd_sRf (S := (sR (nA S_966 q_1090 14 12) 917 h (some q_1090))) (g := 900) (a := h) (v := (some s0)) (by decide) (rd_sRf (S := (nA S_966 q_1090 14 12)) (g := 917) (a := h) (v := (some q_1090)) (by decide) hv_1063))
  have hv_1195 : hR S_1093 1003 q_550 = (some q_551) := by rw [eS_1094]; exact (rd_sRf (S := (sR (nA S_966 q_1090 14 12) 917 h (some q_1090))) (g := 900) (a := h) (v := (some s0)) (by decide) (rd_sRf (S := (nA S_966 q_1090 14 12)) (g := 917) (a := h) (v := (some q_1090)) (by decide) hv_1064))
  have hv_1196 : hR S_1093 101 q_543 = (some q_548) := by rw [eS_1094]; exact (rd_sRf (S := (sR (nA S_966 q_1090 14 12) 917 h (some q_1090))) (g := 900) (a := h) (v := (some s0)) (by decide) (rd_sRf (S := (nA S_966 q_1090 14 12)) (g := 917) (a := h) (v := (some q_1090)) (by decide) hv_1065))
  have hv_1197 : hR S_1093 102 q_543 = (some q_550) := by rw [eS_1094]; exact (rd_sRf (S := (sR (nA S_966 q_1090 14 12) 917 h (some q_1090))) (g := 900) (a := h) (v := (some s0)) (by decide) (rd_sRf (S := (nA S_966 q_1090 14 12)) (g := 917) (a := h) (v := (some q_1090)) (by decide) hv_1066))
  have hv_1198 : hR S_1093 103 q_543 = (some q_552) := by rw [eS_1094]; exact (rd_sRf (S := (sR (nA S_966 q_1090 14 12) 917 h (some q_1090))) (g := 900) (a := h) (v := (some s0)) (by decide) (rd_sRf (S := (nA S_966 q_1090 14 12)) (g := 917) (a := h) (v := (some q_1090)) (by decide) hv_1067))
  have hv_1199 : hR S_1093 104 q_543 = (some q_553) := by rw [eS_1094]; exact (rd_sRf (S := (sR (nA S_966 q_1090 14 12) 917 h (some q_1090))) (g := 900) (a := h) (v := (some s0)) (by decide) (rd_sRf (S := (nA S_966 q_1090 14 12)) (g := 917) (a := h) (v := (some q_1090)) (by decide) hv_1068))
  have hv_1200 : hR S_1093 200 q_35 = (some q_40) := by rw [eS_1094]; exact (rd_sRf (S := (sR (nA S_966 q_1090 14 12) 917 h (some q_1090))) (g := 900) (a := h) (v := (some s0)) (by decide) (rd_sRf (S := (nA S_966 q_1090 14 12)) (g := 917) (a := h) (v := (some q_1090)) (by decide) hv_1069))
  have hv_1201 : hR S_1093 201 q_35 = (some q_42) := by rw [eS_1094]; exact (rd_sRf (S := (sR (nA S_966 q_1090 14 12) 917 h (some q_1090))) (g := 900) (a := h) (v := (some s0)) (by decide) (rd_sRf (S := (nA S_966 q_1090 14 12)) (g := 917) (a := h) (v := (some q_1090)) (by decide) hv_1070))
  have hv_1202 : hR S_1093 207 q_35 = (some q_43) := by rw [eS_1094]; exact (rd_sRf (S := (sR (nA S_966 q_1090 14 12) 917 h (some q_1090))) (g := 900) (a := h) (v := (some s0)) (by decide) (rd_sRf (S := (nA S_966 q_1090 14 12)) (g := 917) (a := h) (v := (some q_1090)) (by decide) hv_1071))
  have hv_1203 : hR S_1093 407 q_548 = (some q_549) := by rw [eS_1094]; exact (rd_sRf (S := (sR (nA S_966 q_1090 14 12) 917 h (some q_1090))) (g := 900) (a := h) (v := (some s0)) (by decide) (rd_sRf (S := (nA S_966 q_1090 14 12)) (g := 917) (a := h) (v := (some q_1090)) (by decide) hv_1072))
  have hv_1204 : hR S_1093 800 q_292 = (some q_297) := by rw [eS_1094]; exact (rd_sRf (S := (sR (nA S_966 q_1090 14 12) 917 h (some q_1090))) (g := 900) (a := h) (v := (some s0)) (by decide) (rd_sRf (S := (nA S_966 q_1090 14 12)) (g := 917) (a := h) (v := (some q_1090)) (by decide) hv_1073))
  have hv_1205 : hR S_1093 800 q_40 = (some q_41) := by rw [eS_1094]; exact (rd_sRf (S := (sR (nA S_966 q_1090 14 12) 917 h (some q_1090))) (g := 900) (a := h) (v := (some s0)) (by decide) (rd_sRf (S := (nA S_966 q_1090 14 12)) (g := 917) (a := h) (v := (some q_1090)) (by decide) hv_1074))
  have hv_1206 : hR S_1093 800 q_97 = (some q_102) := by rw [eS_1094]; exact (rd_sRf (S := (sR (nA S_966 q_1090 14 12) 917 h (some q_1090))) (g := 900) (a := h) (v := (some s0)) (by decide) (rd_sRf (S := (nA S_966 q_1090 14 12)) (g := 917) (a := h) (v := (some q_1090)) (by decide) hv_1075))
  have hv_1207 : hR S_1093 900 h = (some s0) := by rw [eS_1094]; exact (rd_sR (S := (sR (nA S_966 q_1090 14 12) 917 h (some q_1090))) (g := 900) (a := h) (v := (some s0)))
  have hv_1208 : hR S_1093 901 h = (some q_1) := by rw [eS_1094]; exact (rd_sRf (S := (sR (nA S_966 q_1090 14 12) 917 h (some q_1090))) (g := 900) (a := h) (v := (some s0)) (by decide) (rd_sRf (S := (nA S_966 q_1090 14 12)) (g := 917) (a := h) (v := (some q_1090)) (by decide) hv_1076))
  have hv_1209 : hR S_1093 902 h = (some q_35) := by rw [eS_1094]; exact (rd_sRf (S := (sR (nA S_966 q_1090 14 12) 917 h (some q_1090))) (g := 900) (a := h) (v := (some s0)) (by decide) (rd_sRf (S := (nA S_966 q_1090 14 12)) (g := 917) (a := h) (v := (some q_1090)) (by decide) hv_1077))
  have hv_1210 : hR S_1093 903 h = (some q_97) := by rw [eS_1094]; exact (rd_sRf (S := (sR (nA S_966 q_1090 14 12) 917 h (some q_1090))) (g := 900) (a := h) (v := (some s0)) (by decide) (rd_sRf (S := (nA S_966 q_1090 14 12)) (g := 917) (a := h) (v := (some q_1090)) (by decide) hv_1078))
  have hv_1211 : hR S_1093 904 h = (some q_158) := by rw [eS_1094]; exact (rd_sRf (S := (sR (nA S_966 q_1090 14 12) 917 h (some q_1090))) (g := 900) (a := h) (v := (some s0)) (by decide) (rd_sRf (S := (nA S_966 q_1090 14 12)) (g := 917) (a := h) (v := (some q_1090)) (by decide) hv_1079))
  have hv_1212 : hR S_1093 905 h = (some q_218) := by rw [eS_1094]; exact (rd_sRf (S := (sR (nA S_966 q_1090 14 12) 917 h (some q_1090))) (g := 900) (a := h) (v := (some s0)) (by decide) (rd_sRf (S := (nA S_966 q_1090 14 12)) (g := 917) (a := h) (v := (some q_1090)) (by decide) hv_1080))
  have hv_1213 : hR S_1093 906 h = (some q_292) := by rw [eS_1094]; exact (rd_sRf (S := (sR (nA S_966 q_1090 14 12) 917 h (some q_1090))) (g := 900) (a := h) (v := (some s0)) (by decide) (rd_sRf (S := (nA S_966 q_1090 14 12)) (g := 917) (a := h) (v := (some q_1090)) (by decide) hv_1081))
  have hv_1214 : hR S_1093 907 h = (some q_375) := by rw [eS_1094]; exact (rd_sRf (S := (sR (nA S_966 q_1090 14 12) 917 h (some q_1090))) (g := 900) (a := h) (v := (some s0)) (by decide) (rd_sRf (S := (nA S_966 q_1090 14 12)) (g := 917) (a := h) (v := (some q_1090)) (by decide) hv_1082))
  have hv_1215 : hR S_1093 908 h = (some q_457) := by rw [eS_1094]; exact (rd_sRf (S := (sR (nA S_966 q_1090 14 12) 917 h (some q_1090))) (g := 900) (a := h) (v := (some s0)) (by decide) (rd_sRf (S := (nA S_966 q_1090 14 12)) (g := 917) (a := h) (v := (some q_1090)) (by decide) hv_1083))
  have hv_1216 : hR S_1093 909 h = (some q_543) := by rw [eS_1094]; exact (rd_sRf (S := (sR (nA S_966 q_1090 14 12) 917 h (some q_1090))) (g := 900) (a := h) (v := (some s0)) (by decide) (rd_sRf (S := (nA S_966 q_1090 14 12)) (g := 917) (a := h) (v := (some q_1090)) (by decide) hv_1084))
  have hv_1217 : hR S_1093 910 h = (some q_681) := by rw [eS_1094]; exact (rd_sRf (S := (sR (nA S_966 q_1090 14 12) 917 h (some q_1090))) (g := 900) (a := h) (v := (some s0)) (by decide) (rd_sRf (S := (nA S_966 q_1090 14 12)) (g := 917) (a := h) (v := (some q_1090)) (by decide) hv_1085))
  have hv_1218 : hR S_1093 911 h = (some q_840) := by rw [eS_1094]; exact (rd_sRf (S := (sR (nA S_966 q_1090 14 12) 917 h (some q_1090))) (g := 900) (a := h) (v := (some s0)) (by decide) (rd_sRf (S := (nA S_966 q_1090 14 12)) (g := 917) (a := h) (v := (some q_1090)) (by decide) hv_1086))
  have hv_1219 : hR S_1093 912 h = (some q_963) := by rw [eS_1094]; exact (rd_sRf (S := (sR (nA S_966 q_1090 14 12) 917 h (some q_1090))) (g := 900) (a := h) (v := (some s0)) (by decide) (rd_sRf (S := (nA S_966 q_1090 14 12)) (g := 917) (a := h) (v := (some q_1090)) (by decide) hv_1087))
  have hv_1220 : hR S_1093 917 h = (some q_1090) := by rw [eS_1094]; exact (rd_sRf (S := (sR (nA S_966 q_1090 14 12) 917 h (some q_1090))) (g := 900) (a := h) (v := (some s0)) (by decide) (rd_sR (S := (nA S_966 q_1090 14 12)) (g := 917) (a := h) (v := (some q_1090))))
  have hf_1221 : Fm (fun _ _ => False) (fun f9 b9 => b9 = h) (fun _ => False) S S_1093 := by rw [eS_1094]; exact hf_1095
  have hN_1222 : NL S [q_1, q_5, q_6, q_35, q_40, q_41, q_42, q_43, q_97, q_102, q_218, q_222, q_292, q_297, q_543, q_547, q_548, q_549, q_550, q_551, q_552, q_553, q_963, q_1090] S_1093 := by rw [eS_1094]; exact (NL.sR (S := (sR (nA S_966 q_1090 14 12) 917 h (some q_1090))) (NL.sR (S := (nA S_966 q_1090 14 12)) (show NL S [q_1, q_5, q_6, q_35, q_40, q_41, q_42, q_43, q_97, q_102, q_218, q_222, q_292, q_297, q_543, q_547, q_548, q_549, q_550, q_551, q_552, q_553, q_963, q_1090] (nA S_966 q_1090 14 12) from NL.nA hN_1089 hq_1091 hz_1092)))
  have loop_1227 : ∀ (m9 i1 : Nat) (S_1224 : Hp), i1 + m9 = 16 → Fm (fun _ _ => False) (fun _ _ => False) (fun b9 => b9 = q_158) S_1093 S_1224 → J x (0 + 1 + 4 + 1 + 8 + 1 + 1 + 1 + 1 + 1 + 1 + 1 + 1 + 1 + 1 + 8 + 1 + 8 + 1 + 1 + 1 + 2 * i1) (0 + 15 + 20045 + 10 + 23174 + 1 + 16 + 16 + 4 + 16 + 1 + 16 + 24000 + 16 + 21 + 117 + 21 + 117 + 3 + 4 + 12 + 20 * i1) S_1224 [(2, .int (nI i1)), (0, .ref h), (1, .ref s0)] 138 [] := by
    intro m9
    induction m9 with
    | zero =>
      intro i1 S_1224  hi_1228 hl_1225 
      have hz_1229 : ∀ j, aI S_1224 q_102 j = 0 := fun j9 => (hl_1225.ai hm_1100 (fun q9 => (fun e9 => absurd ((hk_1101).symm.trans ((congrArg (hK _) e9).trans hk_1109)) (by decide)) q9) j9).trans (hz_1103 j9)
      have hz_1230 : ∀ j, aI S_1224 q_1090 j = 0 := fun j9 => (hl_1225.ai hm_1104 (fun q9 => (fun e9 => absurd ((hk_1105).symm.trans ((congrArg (hK _) e9).trans hk_1109)) (by decide)) q9) j9).trans (hz_1107 j9)
      have hz_1231 : ∀ j, aI S_1224 q_297 j = 0 := fun j9 => (hl_1225.ai hm_1119 (fun q9 => (fun e9 => absurd ((hk_1120).symm.trans ((congrArg (hK _) e9).trans hk_1109)) (by decide)) q9) j9).trans (hz_1122 j9)
      have hz_1232 : ∀ j, aI S_1224 q_375 j = 0 := fun j9 => (hl_1225.ai hm_1125 (fun q9 => (fun e9 => absurd ((hk_1126).symm.trans ((congrArg (hK _) e9).trans hk_1109)) (by decide)) q9) j9).trans (hz_1128 j9)
      have hz_1233 : ∀ j, aI S_1224 q_41 j = 0 := fun j9 => (hl_1225.ai hm_1131 (fun q9 => (fun e9 => absurd ((hk_1132).symm.trans ((congrArg (hK _) e9).trans hk_1109)) (by decide)) q9) j9).trans (hz_1134 j9)
      have hz_1234 : ∀ j, aI S_1224 q_457 j = 0 := fun j9 => (hl_1225.ai hm_1141 (fun q9 => (fun e9 => absurd ((hk_1142).symm.trans ((congrArg (hK _) e9).trans hk_1109)) (by decide)) q9) j9).trans (hz_1144 j9)
      have hz_1235 : ∀ j, aI S_1224 q_840 j = 0 := fun j9 => (hl_1225.ai hm_1173 (fun q9 => (fun e9 => absurd ((hk_1174).symm.trans ((congrArg (hK _) e9).trans hk_1109)) (by decide)) q9) j9).trans (hz_1176 j9)
      have hz_1236 : ∀ j, aI S_1224 q_963 j = 0 := fun j9 => (hl_1225.ai hm_1177 (fun q9 => (fun e9 => absurd ((hk_1178).symm.trans ((congrArg (hK _) e9).trans hk_1109)) (by decide)) q9) j9).trans (hz_1180 j9)
      have hm_1237 : h ∈ hL S_1224 := hl_1225.mem hm_1096
      have hk_1238 : Kd S_1224 h 9 := hl_1225.kd hm_1096 hk_1097
      have hm_1239 : q_1 ∈ hL S_1224 := hl_1225.mem hm_1098
      have hk_1240 : Kd S_1224 q_1 0 := hl_1225.kd hm_1098 hk_1099
      have hm_1241 : q_102 ∈ hL S_1224 := hl_1225.mem hm_1100
      have hk_1242 : Kd S_1224 q_102 14 := hl_1225.kd hm_1100 hk_1101
      have hn_1243 : Ln S_1224 q_102 16 := hl_1225.ln hm_1100 hn_1102
      have hm_1244 : q_1090 ∈ hL S_1224 := hl_1225.mem hm_1104
      have hk_1245 : Kd S_1224 q_1090 14 := hl_1225.kd hm_1104 hk_1105
      have hn_1246 : Ln S_1224 q_1090 12 := hl_1225.ln hm_1104 hn_1106
      have hm_1247 : q_158 ∈ hL S_1224 := hl_1225.mem hm_1108
      have hk_1248 : Kd S_1224 q_158 20 := hl_1225.kd hm_1108 hk_1109
      have hn_1249 : Ln S_1224 q_158 16 := hl_1225.ln hm_1108 hn_1110
      have hm_1250 : q_218 ∈ hL S_1224 := hl_1225.mem hm_1112
      have hk_1251 : Kd S_1224 q_218 10 := hl_1225.kd hm_1112 hk_1113
      have hm_1252 : q_222 ∈ hL S_1224 := hl_1225.mem hm_1114
      have hk_1253 : Kd S_1224 q_222 15 := hl_1225.kd hm_1114 hk_1115
      have hn_1254 : Ln S_1224 q_222 16 := hl_1225.ln hm_1114 hn_1116
      have hm_1255 : q_292 ∈ hL S_1224 := hl_1225.mem hm_1117
      have hk_1256 : Kd S_1224 q_292 8 := hl_1225.kd hm_1117 hk_1118
      have hm_1257 : q_297 ∈ hL S_1224 := hl_1225.mem hm_1119
      have hk_1258 : Kd S_1224 q_297 14 := hl_1225.kd hm_1119 hk_1120
      have hn_1259 : Ln S_1224 q_297 16 := hl_1225.ln hm_1119 hn_1121
      have hm_1260 : q_35 ∈ hL S_1224 := hl_1225.mem hm_1123
      have hk_1261 : Kd S_1224 q_35 2 := hl_1225.kd hm_1123 hk_1124
      have hm_1262 : q_375 ∈ hL S_1224 := hl_1225.mem hm_1125
      have hk_1263 : Kd S_1224 q_375 13 := hl_1225.kd hm_1125 hk_1126
      have hn_1264 : Ln S_1224 q_375 24000 := hl_1225.ln hm_1125 hn_1127
      have hm_1265 : q_40 ∈ hL S_1224 := hl_1225.mem hm_1129
      have hk_1266 : Kd S_1224 q_40 8 := hl_1225.kd hm_1129 hk_1130
      have hm_1267 : q_41 ∈ hL S_1224 := hl_1225.mem hm_1131
      have hk_1268 : Kd S_1224 q_41 14 := hl_1225.kd hm_1131 hk_1132
      have hn_1269 : Ln S_1224 q_41 16 := hl_1225.ln hm_1131 hn_1133
      have hm_1270 : q_42 ∈ hL S_1224 := hl_1225.mem hm_1135
      have hk_1271 : Kd S_1224 q_42 14 := hl_1225.kd hm_1135 hk_1136
      have hn_1272 : Ln S_1224 q_42 119 := hl_1225.ln hm_1135 hn_1137
      have hm_1273 : q_43 ∈ hL S_1224 := hl_1225.mem hm_1138
      have hk_1274 : Kd S_1224 q_43 14 := hl_1225.kd hm_1138 hk_1139
      have hn_1275 : Ln S_1224 q_43 8 := hl_1225.ln hm_1138 hn_1140
      have hm_1276 : q_457 ∈ hL S_1224 := hl_1225.mem hm_1141
      have hk_1277 : Kd S_1224 q_457 14 := hl_1225.kd hm_1141 hk_1142
      have hn_1278 : Ln S_1224 q_457 16 := hl_1225.ln hm_1141 hn_1143
      have hm_1279 : q_5 ∈ hL S_1224 := hl_1225.mem hm_1145
      have hk_1280 : Kd S_1224 q_5 14 := hl_1225.kd hm_1145 hk_1146
      have hn_1281 : Ln S_1224 q_5 20000 := hl_1225.ln hm_1145 hn_1147
      have hm_1282 : q_543 ∈ hL S_1224 := hl_1225.mem hm_1148
      have hk_1283 : Kd S_1224 q_543 1 := hl_1225.kd hm_1148 hk_1149
      have hm_1284 : q_547 ∈ hL S_1224 := hl_1225.mem hm_1150
      have hk_1285 : Kd S_1224 q_547 7 := hl_1225.kd hm_1150 hk_1151
      have hm_1286 : q_548 ∈ hL S_1224 := hl_1225.mem hm_1152
      have hk_1287 : Kd S_1224 q_548 4 := hl_1225.kd hm_1152 hk_1153
      have hm_1288 : q_549 ∈ hL S_1224 := hl_1225.mem hm_1154
      have hk_1289 : Kd S_1224 q_549 14 := hl_1225.kd hm_1154 hk_1155
      have hn_1290 : Ln S_1224 q_549 20 := hl_1225.ln hm_1154 hn_1156
      have hm_1291 : q_550 ∈ hL S_1224 := hl_1225.mem hm_1157
      have hk_1292 : Kd S_1224 q_550 10 := hl_1225.kd hm_1157 hk_1158
      have hm_1293 : q_551 ∈ hL S_1224 := hl_1225.mem hm_1159
      have hk_1294 : Kd S_1224 q_551 15 := hl_1225.kd hm_1159 hk_1160
      have hn_1295 : Ln S_1224 q_551 16 := hl_1225.ln hm_1159 hn_1161
      have hm_1296 : q_552 ∈ hL S_1224 := hl_1225.mem hm_1162
      have hk_1297 : Kd S_1224 q_552 14 := hl_1225.kd hm_1162 hk_1163
      have hn_1298 : Ln S_1224 q_552 8 := hl_1225.ln hm_1162 hn_1164
      have hm_1299 : q_553 ∈ hL S_1224 := hl_1225.mem hm_1165
      have hk_1300 : Kd S_1224 q_553 14 := hl_1225.kd hm_1165 hk_1166
      have hn_1301 : Ln S_1224 q_553 8 := hl_1225.ln hm_1165 hn_1167
      have hm_1302 : q_6 ∈ hL S_1224 := hl_1225.mem hm_1168
      have hk_1303 : Kd S_1224 q_6 14 := hl_1225.kd hm_1168 hk_1169
      have hn_1304 : Ln S_1224 q_6 25 := hl_1225.ln hm_1168 hn_1170
      have hm_1305 : q_681 ∈ hL S_1224 := hl_1225.mem hm_1171
      have hk_1306 : Kd S_1224 q_681 1 := hl_1225.kd hm_1171 hk_1172
      have hm_1307 : q_840 ∈ hL S_1224 := hl_1225.mem hm_1173
      have hk_1308 : Kd S_1224 q_840 18 := hl_1225.kd hm_1173 hk_1174
      have hn_1309 : Ln S_1224 q_840 3 := hl_1225.ln hm_1173 hn_1175
      have hm_1310 : q_963 ∈ hL S_1224 := hl_1225.mem hm_1177
      have hk_1311 : Kd S_1224 q_963 19 := hl_1225.kd hm_1177 hk_1178
      have hn_1312 : Ln S_1224 q_963 4 := hl_1225.ln hm_1177 hn_1179
      have hm_1313 : q_97 ∈ hL S_1224 := hl_1225.mem hm_1181
      have hk_1314 : Kd S_1224 q_97 8 := hl_1225.kd hm_1181 hk_1182
      have hv_1315 : hI S_1224 1000 q_218 = 1 := hl_1225.fi hm_1112 (fun h9 => h9) hv_1183
      have hv_1316 : hI S_1224 1001 q_218 = 1 := hl_1225.fi hm_1112 (fun h9 => h9) hv_1184
      have hv_1317 : hI S_1224 2 q_1 = 0 := hl_1225.fi hm_1098 (fun h9 => h9) hv_1185
      have hv_1318 : hI S_1224 206 q_35 = 0 := hl_1225.fi hm_1123 (fun h9 => h9) hv_1186
      have hv_1319 : hI S_1224 209 q_35 = 0 := hl_1225.fi hm_1123 (fun h9 => h9) hv_1187
      have hv_1320 : hI S_1224 3 q_1 = 0 := hl_1225.fi hm_1098 (fun h9 => h9) hv_1188
      have hv_1321 : hI S_1224 4 q_1 = 0 := hl_1225.fi hm_1098 (fun h9 => h9) hv_1189
      have hv_1322 : hI S_1224 5 q_1 = 0 := hl_1225.fi hm_1098 (fun h9 => h9) hv_1190
      have hv_1323 : hR S_1224 0 q_1 = (some q_5) := hl_1225.fr hm_1098 (fun h9 => h9) hv_1191
      have hv_1324 : hR S_1224 1 q_1 = (some q_6) := hl_1225.fr hm_1098 (fun h9 => h9) hv_1192
      have hv_1325 : hR S_1224 100 q_543 = (some q_547) := hl_1225.fr hm_1148 (fun h9 => h9) hv_1193
      have hv_1326 : hR S_1224 1003 q_218 = (some q_222) := hl_1225.fr hm_1112 (fun h9 => h9) hv_1194
      have hv_1327 : hR S_1224 1003 q_550 = (some q_551) := hl_1225.fr hm_1157 (fun h9 => h9) hv_1195
      have hv_1328 : hR S_1224 101 q_543 = (some q_548) := hl_1225.fr hm_1148 (fun h9 => h9) hv_1196
      have hv_1329 : hR S_1224 102 q_543 = (some q_550) := hl_1225.fr hm_1148 (fun h9 => h9) hv_1197
      have hv_1330 : hR S_1224 103 q_543 = (some q_552) := hl_1225.fr hm_1148 (fun h9 => h9) hv_1198
      have hv_1331 : hR S_1224 104 q_543 = (some q_553) := hl_1225.fr hm_1148 (fun h9 => h9) hv_1199
      have hv_1332 : hR S_1224 200 q_35 = (some q_40) := hl_1225.fr hm_1123 (fun h9 => h9) hv_1200
      have hv_1333 : hR S_1224 201 q_35 = (some q_42) := hl_1225.fr hm_1123 (fun h9 => h9) hv_1201
      have hv_1334 : hR S_1224 207 q_35 = (some q_43) := hl_1225.fr hm_1123 (fun h9 => h9) hv_1202
      have hv_1335 : hR S_1224 407 q_548 = (some q_549) := hl_1225.fr hm_1152 (fun h9 => h9) hv_1203
      have hv_1336 : hR S_1224 800 q_292 = (some q_297) := hl_1225.fr hm_1117 (fun h9 => h9) hv_1204
      have hv_1337 : hR S_1224 800 q_40 = (some q_41) := hl_1225.fr hm_1129 (fun h9 => h9) hv_1205
      have hv_1338 : hR S_1224 800 q_97 = (some q_102) := hl_1225.fr hm_1181 (fun h9 => h9) hv_1206
      have hv_1339 : hR S_1224 900 h = (some s0) := hl_1225.fr hm_1096 (fun h9 => h9) hv_1207
      have hv_1340 : hR S_1224 901 h = (some q_1) := hl_1225.fr hm_1096 (fun h9 => h9) hv_1208
      have hv_1341 : hR S_1224 902 h = (some q_35) := hl_1225.fr hm_1096 (fun h9 => h9) hv_1209
      have hv_1342 : hR S_1224 903 h = (some q_97) := hl_1225.fr hm_1096 (fun h9 => h9) hv_1210
      have hv_1343 : hR S_1224 904 h = (some q_158) := hl_1225.fr hm_1096 (fun h9 => h9) hv_1211
      have hv_1344 : hR S_1224 905 h = (some q_218) := hl_1225.fr hm_1096 (fun h9 => h9) hv_1212
      have hv_1345 : hR S_1224 906 h = (some q_292) := hl_1225.fr hm_1096 (fun h9 => h9) hv_1213
      have hv_1346 : hR S_1224 907 h = (some q_375) := hl_1225.fr hm_1096 (fun h9 => h9) hv_1214
      have hv_1347 : hR S_1224 908 h = (some q_457) := hl_1225.fr hm_1096 (fun h9 => h9) hv_1215
      have hv_1348 : hR S_1224 909 h = (some q_543) := hl_1225.fr hm_1096 (fun h9 => h9) hv_1216
      have hv_1349 : hR S_1224 910 h = (some q_681) := hl_1225.fr hm_1096 (fun h9 => h9) hv_1217
      have hv_1350 : hR S_1224 911 h = (some q_840) := hl_1225.fr hm_1096 (fun h9 => h9) hv_1218
      have hv_1351 : hR S_1224 912 h = (some q_963) := hl_1225.fr hm_1096 (fun h9 => h9) hv_1219
      have hv_1352 : hR S_1224 917 h = (some q_1090) := hl_1225.fr hm_1096 (fun h9 => h9) hv_1220
      have hf_1353 : Fm (fun _ _ => False) (fun f9 b9 => b9 = h) (fun _ => False) S S_1224 := hf_1221.then hl_1225 (fun a9 ha9 => ⟨(fun f9 h9 => h9.elim), (fun f9 h9 => h9.elim), (fun h9 => (fun h8 => absurd (h8 ▸ ha9) hz_161) h9)⟩)
      have hN_1354 : NL S [q_1, q_5, q_6, q_35, q_40, q_41, q_42, q_43, q_97, q_102, q_218, q_222, q_292, q_297, q_543, q_547, q_548, q_549, q_550, q_551, q_552, q_553, q_963, q_1090] S_1224 := NL.mono hN_1222 (fun a9 h9 => hl_1225.mem h9)
      refine j_iload_n C dX9_init_138 rfl 0 rfl ?_
      refine j_aload_n C dX9_init_139 rfl 1 rfl ?_
      refine j_getr (f := 904) (v := q_158) C flX9_34 dX9_init_140 hm_1237 hk_1238 (by decide) rfl hv_1343 ?_
      refine j_alen (v := 16) C dX9_init_143 hm_1247 hk_1248 (by decide) (by decide) (len_of (n := 16) hn_1249 (by decide)) ?_
      refine j_ic_ge (tgt := 166) C dX9_init_144 (by decide) (fun c_144 => ?_) (fun c_144 => absurd (nI_le (a := 16) (by omega) (by omega)) c_144)
      refine j_iconst (v := 0) C dX9_init_166 (by decide) ?_
      refine j_istore_n (lv' := [(2, .int 0), (0, .ref h), (1, .ref s0)]) C dX9_init_167 rfl (by rw [hn9]; decide) rfl ?_
      show J _ _ _ _ _ 168 _
      have loop_1359 : ∀ (m9 i2 : Nat) (S_1356 : Hp), i2 + m9 = 3 → Fm (fun _ _ => False) (fun _ _ => False) (fun b9 => b9 = q_840) S_1224 S_1356 → J x ((0 + 1 + 4 + 1 + 8 + 1 + 1 + 1 + 1 + 1 + 1 + 1 + 1 + 1 + 1 + 8 + 1 + 8 + 1 + 1 + 1 + 2 * i1) + 9 * i2) ((0 + 15 + 20045 + 10 + 23174 + 1 + 16 + 16 + 4 + 16 + 1 + 16 + 24000 + 16 + 21 + 117 + 21 + 117 + 3 + 4 + 12 + 20 * i1) + 138 * i2) S_1356 [(2, .int (nI i2)), (0, .ref h), (1, .ref s0)] 168 [] := by
        intro m9
        induction m9 with
        | zero =>
          intro i2 S_1356  hi_1360 hl_1357 
          have hz_1361 : ∀ j, aI S_1356 q_102 j = 0 := fun j9 => (hl_1357.ai hm_1241 (fun q9 => (fun e9 => absurd ((hk_1242).symm.trans ((congrArg (hK _) e9).trans hk_1308)) (by decide)) q9) j9).trans (hz_1229 j9)
          have hz_1362 : ∀ j, aI S_1356 q_1090 j = 0 := fun j9 => (hl_1357.ai hm_1244 (fun q9 => (fun e9 => absurd ((hk_1245).symm.trans ((congrArg (hK _) e9).trans hk_1308)) (by decide)) q9) j9).trans (hz_1230 j9)
          have hz_1363 : ∀ j, aI S_1356 q_297 j = 0 := fun j9 => (hl_1357.ai hm_1257 (fun q9 => (fun e9 => absurd ((hk_1258).symm.trans ((congrArg (hK _) e9).trans hk_1308)) (by decide)) q9) j9).trans (hz_1231 j9)
          have hz_1364 : ∀ j, aI S_1356 q_375 j = 0 := fun j9 => (hl_1357.ai hm_1262 (fun q9 => (fun e9 => absurd ((hk_1263).symm.trans ((congrArg (hK _) e9).trans hk_1308)) (by decide)) q9) j9).trans (hz_1232 j9)
          have hz_1365 : ∀ j, aI S_1356 q_41 j = 0 := fun j9 => (hl_1357.ai hm_1267 (fun q9 => (fun e9 => absurd ((hk_1268).symm.trans ((congrArg (hK _) e9).trans hk_1308)) (by decide)) q9) j9).trans (hz_1233 j9)
          have hz_1366 : ∀ j, aI S_1356 q_457 j = 0 := fun j9 => (hl_1357.ai hm_1276 (fun q9 => (fun e9 => absurd ((hk_1277).symm.trans ((congrArg (hK _) e9).trans hk_1308)) (by decide)) q9) j9).trans (hz_1234 j9)
          have hz_1367 : ∀ j, aI S_1356 q_963 j = 0 := fun j9 => (hl_1357.ai hm_1310 (fun q9 => (fun e9 => absurd ((hk_1311).symm.trans ((congrArg (hK _) e9).trans hk_1308)) (by decide)) q9) j9).trans (hz_1236 j9)
          have hm_1368 : h ∈ hL S_1356 := hl_1357.mem hm_1237
          have hk_1369 : Kd S_1356 h 9 := hl_1357.kd hm_1237 hk_1238
          have hm_1370 : q_1 ∈ hL S_1356 := hl_1357.mem hm_1239
          have hk_1371 : Kd S_1356 q_1 0 := hl_1357.kd hm_1239 hk_1240
          have hm_1372 : q_102 ∈ hL S_1356 := hl_1357.mem hm_1241
          have hk_1373 : Kd S_1356 q_102 14 := hl_1357.kd hm_1241 hk_1242
          have hn_1374 : Ln S_1356 q_102 16 := hl_1357.ln hm_1241 hn_1243
          have hm_1375 : q_1090 ∈ hL S_1356 := hl_1357.mem hm_1244
          have hk_1376 : Kd S_1356 q_1090 14 := hl_1357.kd hm_1244 hk_1245
          have hn_1377 : Ln S_1356 q_1090 12 := hl_1357.ln hm_1244 hn_1246
          have hm_1378 : q_158 ∈ hL S_1356 := hl_1357.mem hm_1247
          have hk_1379 : Kd S_1356 q_158 20 := hl_1357.kd hm_1247 hk_1248
          have hn_1380 : Ln S_1356 q_158 16 := hl_1357.ln hm_1247 hn_1249
          have hm_1381 : q_218 ∈ hL S_1356 := hl_1357.mem hm_1250
          have hk_1382 : Kd S_1356 q_218 10 := hl_1357.kd hm_1250 hk_1251
          have hm_1383 : q_222 ∈ hL S_1356 := hl_1357.mem hm_1252
          have hk_1384 : Kd S_1356 q_222 15 := hl_1357.kd hm_1252 hk_1253
          have hn_1385 : Ln S_1356 q_222 16 := hl_1357.ln hm_1252 hn_1254
          have hm_1386 : q_292 ∈ hL S_1356 := hl_1357.mem hm_1255
          have hk_1387 : Kd S_1356 q_292 8 := hl_1357.kd hm_1255 hk_1256
          have hm_1388 : q_297 ∈ hL S_1356 := hl_1357.mem hm_1257
          have hk_1389 : Kd S_1356 q_297 14 := hl_1357.kd hm_1257 hk_1258
          have hn_1390 : Ln S_1356 q_297 16 := hl_1357.ln hm_1257 hn_1259
          have hm_1391 : q_35 ∈ hL S_1356 := hl_1357.mem hm_1260
          have hk_1392 : Kd S_1356 q_35 2 := hl_1357.kd hm_1260 hk_1261
          have hm_1393 : q_375 ∈ hL S_1356 := hl_1357.mem hm_1262
          have hk_1394 : Kd S_1356 q_375 13 := hl_1357.kd hm_1262 hk_1263
          have hn_1395 : Ln S_1356 q_375 24000 := hl_1357.ln hm_1262 hn_1264
          have hm_1396 : q_40 ∈ hL S_1356 := hl_1357.mem hm_1265
          have hk_1397 : Kd S_1356 q_40 8 := hl_1357.kd hm_1265 hk_1266
          have hm_1398 : q_41 ∈ hL S_1356 := hl_1357.mem hm_1267
          have hk_1399 : Kd S_1356 q_41 14 := hl_1357.kd hm_1267 hk_1268
          have hn_1400 : Ln S_1356 q_41 16 := hl_1357.ln hm_1267 hn_1269
          have hm_1401 : q_42 ∈ hL S_1356 := hl_1357.mem hm_1270
          have hk_1402 : Kd S_1356 q_42 14 := hl_1357.kd hm_1270 hk_1271
          have hn_1403 : Ln S_1356 q_42 119 := hl_1357.ln hm_1270 hn_1272
          have hm_1404 : q_43 ∈ hL S_1356 := hl_1357.mem hm_1273
          have hk_1405 : Kd S_1356 q_43 14 := hl_1357.kd hm_1273 hk_1274
          have hn_1406 : Ln S_1356 q_43 8 := hl_1357.ln hm_1273 hn_1275
          have hm_1407 : q_457 ∈ hL S_1356 := hl_1357.mem hm_1276
          have hk_1408 : Kd S_1356 q_457 14 := hl_1357.kd hm_1276 hk_1277
          have hn_1409 : Ln S_1356 q_457 16 := hl_1357.ln hm_1276 hn_1278
          have hm_1410 : q_5 ∈ hL S_1356 := hl_1357.mem hm_1279
          have hk_1411 : Kd S_1356 q_5 14 := hl_1357.kd hm_1279 hk_1280
          have hn_1412 : Ln S_1356 q_5 20000 := hl_1357.ln hm_1279 hn_1281
          have hm_1413 : q_543 ∈ hL S_1356 := hl_1357.mem hm_1282
          have hk_1414 : Kd S_1356 q_543 1 := hl_1357.kd hm_1282 hk_1283
          have hm_1415 : q_547 ∈ hL S_1356 := hl_1357.mem hm_1284
          have hk_1416 : Kd S_1356 q_547 7 := hl_1357.kd hm_1284 hk_1285
          have hm_1417 : q_548 ∈ hL S_1356 := hl_1357.mem hm_1286
          have hk_1418 : Kd S_1356 q_548 4 := hl_1357.kd hm_1286 hk_1287
          have hm_1419 : q_549 ∈ hL S_1356 := hl_1357.mem hm_1288
          have hk_1420 : Kd S_1356 q_549 14 := hl_1357.kd hm_1288 hk_1289
          have hn_1421 : Ln S_1356 q_549 20 := hl_1357.ln hm_1288 hn_1290
          have hm_1422 : q_550 ∈ hL S_1356 := hl_1357.mem hm_1291
          have hk_1423 : Kd S_1356 q_550 10 := hl_1357.kd hm_1291 hk_1292
          have hm_1424 : q_551 ∈ hL S_1356 := hl_1357.mem hm_1293
          have hk_1425 : Kd S_1356 q_551 15 := hl_1357.kd hm_1293 hk_1294
          have hn_1426 : Ln S_1356 q_551 16 := hl_1357.ln hm_1293 hn_1295
          have hm_1427 : q_552 ∈ hL S_1356 := hl_1357.mem hm_1296
          have hk_1428 : Kd S_1356 q_552 14 := hl_1357.kd hm_1296 hk_1297
          have hn_1429 : Ln S_1356 q_552 8 := hl_1357.ln hm_1296 hn_1298
          have hm_1430 : q_553 ∈ hL S_1356 := hl_1357.mem hm_1299
          have hk_1431 : Kd S_1356 q_553 14 := hl_1357.kd hm_1299 hk_1300
          have hn_1432 : Ln S_1356 q_553 8 := hl_1357.ln hm_1299 hn_1301
          have hm_1433 : q_6 ∈ hL S_1356 := hl_1357.mem hm_1302
          have hk_1434 : Kd S_1356 q_6 14 := hl_1357.kd hm_1302 hk_1303
          have hn_1435 : Ln S_1356 q_6 25 := hl_1357.ln hm_1302 hn_1304
          have hm_1436 : q_681 ∈ hL S_1356 := hl_1357.mem hm_1305
          have hk_1437 : Kd S_1356 q_681 1 := hl_1357.kd hm_1305 hk_1306
          have hm_1438 : q_840 ∈ hL S_1356 := hl_1357.mem hm_1307
          have hk_1439 : Kd S_1356 q_840 18 := hl_1357.kd hm_1307 hk_1308
          have hn_1440 : Ln S_1356 q_840 3 := hl_1357.ln hm_1307 hn_1309
          have hm_1441 : q_963 ∈ hL S_1356 := hl_1357.mem hm_1310
          have hk_1442 : Kd S_1356 q_963 19 := hl_1357.kd hm_1310 hk_1311
          have hn_1443 : Ln S_1356 q_963 4 := hl_1357.ln hm_1310 hn_1312
          have hm_1444 : q_97 ∈ hL S_1356 := hl_1357.mem hm_1313
          have hk_1445 : Kd S_1356 q_97 8 := hl_1357.kd hm_1313 hk_1314
          have hv_1446 : hI S_1356 1000 q_218 = 1 := hl_1357.fi hm_1250 (fun h9 => h9) hv_1315
          have hv_1447 : hI S_1356 1001 q_218 = 1 := hl_1357.fi hm_1250 (fun h9 => h9) hv_1316
          have hv_1448 : hI S_1356 2 q_1 = 0 := hl_1357.fi hm_1239 (fun h9 => h9) hv_1317
          have hv_1449 : hI S_1356 206 q_35 = 0 := hl_1357.fi hm_1260 (fun h9 => h9) hv_1318
          have hv_1450 : hI S_1356 209 q_35 = 0 := hl_1357.fi hm_1260 (fun h9 => h9) hv_1319
          have hv_1451 : hI S_1356 3 q_1 = 0 := hl_1357.fi hm_1239 (fun h9 => h9) hv_1320
          have hv_1452 : hI S_1356 4 q_1 = 0 := hl_1357.fi hm_1239 (fun h9 => h9) hv_1321
          have hv_1453 : hI S_1356 5 q_1 = 0 := hl_1357.fi hm_1239 (fun h9 => h9) hv_1322
          have hv_1454 : hR S_1356 0 q_1 = (some q_5) := hl_1357.fr hm_1239 (fun h9 => h9) hv_1323
          have hv_1455 : hR S_1356 1 q_1 = (some q_6) := hl_1357.fr hm_1239 (fun h9 => h9) hv_1324
          have hv_1456 : hR S_1356 100 q_543 = (some q_547) := hl_1357.fr hm_1282 (fun h9 => h9) hv_1325
          have hv_1457 : hR S_1356 1003 q_218 = (some q_222) := hl_1357.fr hm_1250 (fun h9 => h9) hv_1326
          have hv_1458 : hR S_1356 1003 q_550 = (some q_551) := hl_1357.fr hm_1291 (fun h9 => h9) hv_1327
          have hv_1459 : hR S_1356 101 q_543 = (some q_548) := hl_1357.fr hm_1282 (fun h9 => h9) hv_1328
          have hv_1460 : hR S_1356 102 q_543 = (some q_550) := hl_1357.fr hm_1282 (fun h9 => h9) hv_1329
          have hv_1461 : hR S_1356 103 q_543 = (some q_552) := hl_1357.fr hm_1282 (fun h9 => h9) hv_1330
          have hv_1462 : hR S_1356 104 q_543 = (some q_553) := hl_1357.fr hm_1282 (fun h9 => h9) hv_1331
          have hv_1463 : hR S_1356 200 q_35 = (some q_40) := hl_1357.fr hm_1260 (fun h9 => h9) hv_1332
          have hv_1464 : hR S_1356 201 q_35 = (some q_42) := hl_1357.fr hm_1260 (fun h9 => h9) hv_1333
          have hv_1465 : hR S_1356 207 q_35 = (some q_43) := hl_1357.fr hm_1260 (fun h9 => h9) hv_1334
          have hv_1466 : hR S_1356 407 q_548 = (some q_549) := hl_1357.fr hm_1286 (fun h9 => h9) hv_1335
          have hv_1467 : hR S_1356 800 q_292 = (some q_297) := hl_1357.fr hm_1255 (fun h9 => h9) hv_1336
          have hv_1468 : hR S_1356 800 q_40 = (some q_41) := hl_1357.fr hm_1265 (fun h9 => h9) hv_1337
          have hv_1469 : hR S_1356 800 q_97 = (some q_102) := hl_1357.fr hm_1313 (fun h9 => h9) hv_1338
          have hv_1470 : hR S_1356 900 h = (some s0) := hl_1357.fr hm_1237 (fun h9 => h9) hv_1339
          have hv_1471 : hR S_1356 901 h = (some q_1) := hl_1357.fr hm_1237 (fun h9 => h9) hv_1340
          have hv_1472 : hR S_1356 902 h = (some q_35) := hl_1357.fr hm_1237 (fun h9 => h9) hv_1341
          have hv_1473 : hR S_1356 903 h = (some q_97) := hl_1357.fr hm_1237 (fun h9 => h9) hv_1342
          have hv_1474 : hR S_1356 904 h = (some q_158) := hl_1357.fr hm_1237 (fun h9 => h9) hv_1343
          have hv_1475 : hR S_1356 905 h = (some q_218) := hl_1357.fr hm_1237 (fun h9 => h9) hv_1344
          have hv_1476 : hR S_1356 906 h = (some q_292) := hl_1357.fr hm_1237 (fun h9 => h9) hv_1345
          have hv_1477 : hR S_1356 907 h = (some q_375) := hl_1357.fr hm_1237 (fun h9 => h9) hv_1346
          have hv_1478 : hR S_1356 908 h = (some q_457) := hl_1357.fr hm_1237 (fun h9 => h9) hv_1347
          have hv_1479 : hR S_1356 909 h = (some q_543) := hl_1357.fr hm_1237 (fun h9 => h9) hv_1348
          have hv_1480 : hR S_1356 910 h = (some q_681) := hl_1357.fr hm_1237 (fun h9 => h9) hv_1349
          have hv_1481 : hR S_1356 911 h = (some q_840) := hl_1357.fr hm_1237 (fun h9 => h9) hv_1350
          have hv_1482 : hR S_1356 912 h = (some q_963) := hl_1357.fr hm_1237 (fun h9 => h9) hv_1351
          have hv_1483 : hR S_1356 917 h = (some q_1090) := hl_1357.fr hm_1237 (fun h9 => h9) hv_1352
          have hf_1484 : Fm (fun _ _ => False) (fun f9 b9 => b9 = h) (fun _ => False) S S_1356 := hf_1353.then hl_1357 (fun a9 ha9 => ⟨(fun f9 h9 => h9.elim), (fun f9 h9 => h9.elim), (fun h9 => (fun h8 => absurd (h8 ▸ ha9) hz_843) h9)⟩)
          have hN_1485 : NL S [q_1, q_5, q_6, q_35, q_40, q_41, q_42, q_43, q_97, q_102, q_218, q_222, q_292, q_297, q_543, q_547, q_548, q_549, q_550, q_551, q_552, q_553, q_963, q_1090] S_1356 := NL.mono hN_1354 (fun a9 h9 => hl_1357.mem h9)
          refine j_iload_n C dX9_init_168 rfl 0 rfl ?_
          refine j_aload_n C dX9_init_169 rfl 1 rfl ?_
          refine j_getr (f := 911) (v := q_840) C flX9_64 dX9_init_170 hm_1368 hk_1369 (by decide) rfl hv_1481 ?_
          refine j_alen (v := 3) C dX9_init_173 hm_1438 hk_1439 (by decide) (by decide) (len_of (n := 3) hn_1440 (by decide)) ?_
          refine j_ic_ge (tgt := 196) C dX9_init_174 (by decide) (fun c_174 => ?_) (fun c_174 => absurd (nI_le (a := 3) (by omega) (by omega)) c_174)
          refine j_iconst (v := 0) C dX9_init_196 (by decide) ?_
          refine j_istore_n (lv' := [(2, .int 0), (0, .ref h), (1, .ref s0)]) C dX9_init_197 rfl (by rw [hn9]; decide) rfl ?_
          refine j_iload_n C dX9_init_198 rfl 0 rfl ?_
          refine j_aload_n C dX9_init_199 rfl 1 rfl ?_
          show J _ _ _ _ _ 200 _
          refine j_getr (f := 912) (v := q_963) C flX9_70 dX9_init_200 hm_1368 hk_1369 (by decide) rfl hv_1482 ?_
          refine j_alen (v := 4) C dX9_init_203 hm_1441 hk_1442 (by decide) (by decide) (len_of (n := 4) hn_1443 (by decide)) ?_
          refine j_ic_ge (tgt := 226) C dX9_init_204 (by decide) (fun c9 => absurd c9 (by decide)) (fun c9 => ?_)
          refine j_aload_n C dX9_init_207 rfl 1 rfl ?_
          refine j_getr (f := 912) (v := q_963) C flX9_70 dX9_init_208 hm_1368 hk_1369 (by decide) rfl hv_1482 ?_
          refine j_iload_n C dX9_init_211 rfl 0 rfl ?_
          refine j_new (N := 13) C (ci := 5) rfl rfl klX9_68 knX5 kiX5 (M.cells (by omega)) (M.slots (by omega)) dX9_init_212 (fun q_1486 hq_1487 => ?_)
          have hz_1488 : q_1486 ∉ hL S := fun h9 => hq_1487 (hf_1484.mem h9)
          refine j_dup C dX9_init_215 rfl ?_
          show J _ _ _ _ _ 216 _
          have hf_1489 : Fm (fun _ _ => False) (fun f9 b9 => b9 = h) (fun _ => False) S (nO S_1356 q_1486 5) := (hf_1484.nO _ hq_1487)
          refine j_callI C [] [.ref q_1486, .int 0, .ref q_963] mlX9_81 mcX5_init (c_X5_init (nO S_1356 q_1486 5) q_1486 mem_new (kd_nO' (k := 5))) (M.rm (by decide) (by decide) (by omega) (by omega)) rfl rfl (Nat.le_of_ble_eq_true rfl) dX9_init_216 (fun r_1490 S_1491 hp_1492 => ?_)
          obtain ⟨rfl, hf_1493⟩ := hp_1492
          refine J.eq (st' := [.ref q_1486, .int 0, .ref q_963]) rfl rfl rfl ?_
          have hz_1494 : ∀ j, aI S_1491 q_102 j = 0 := fun j9 => (hf_1493.ai (mem_old hm_1372) (fun h9 => h9) j9).trans (hz_1361 j9)
          have hz_1495 : ∀ j, aI S_1491 q_1090 j = 0 := fun j9 => (hf_1493.ai (mem_old hm_1375) (fun h9 => h9) j9).trans (hz_1362 j9)
          have hz_1496 : ∀ j, aI S_1491 q_297 j = 0 := fun j9 => (hf_1493.ai (mem_old hm_1388) (fun h9 => h9) j9).trans (hz_1363 j9)
          have hz_1497 : ∀ j, aI S_1491 q_375 j = 0 := fun j9 => (hf_1493.ai (mem_old hm_1393) (fun h9 => h9) j9).trans (hz_1364 j9)
          have hz_1498 : ∀ j, aI S_1491 q_41 j = 0 := fun j9 => (hf_1493.ai (mem_old hm_1398) (fun h9 => h9) j9).trans (hz_1365 j9)
          have hz_1499 : ∀ j, aI S_1491 q_457 j = 0 := fun j9 => (hf_1493.ai (mem_old hm_1407) (fun h9 => h9) j9).trans (hz_1366 j9)
          have hz_1500 : ∀ j, aI S_1491 q_963 j = 0 := fun j9 => (hf_1493.ai (mem_old hm_1441) (fun h9 => h9) j9).trans (hz_1367 j9)
          have hm_1501 : h ∈ hL S_1491 := hf_1493.mem (mem_old hm_1368)
          have hk_1502 : Kd S_1491 h 9 := hf_1493.kd (mem_old hm_1368) (kd_nO (k := 5) hq_1487 hm_1368 hk_1369)
          have hm_1503 : q_1 ∈ hL S_1491 := hf_1493.mem (mem_old hm_1370)
          have hk_1504 : Kd S_1491 q_1 0 := hf_1493.kd (mem_old hm_1370) (kd_nO (k := 5) hq_1487 hm_1370 hk_1371)
          have hm_1505 : q_102 ∈ hL S_1491 := hf_1493.mem (mem_old hm_1372)
          have hk_1506 : Kd S_1491 q_102 14 := hf_1493.kd (mem_old hm_1372) (kd_nO (k := 5) hq_1487 hm_1372 hk_1373)
          have hn_1507 : Ln S_1491 q_102 16 := hf_1493.ln (mem_old hm_1372) hn_1374
          have hm_1508 : q_1090 ∈ hL S_1491 := hf_1493.mem (mem_old hm_1375)
          have hk_1509 : Kd S_1491 q_1090 14 := hf_1493.kd (mem_old hm_1375) (kd_nO (k := 5) hq_1487 hm_1375 hk_1376)
          have hn_1510 : Ln S_1491 q_1090 12 := hf_1493.ln (mem_old hm_1375) hn_1377
          have hm_1511 : q_1486 ∈ hL S_1491 := hf_1493.mem mem_new
          have hk_1512 : Kd S_1491 q_1486 5 := hf_1493.kd mem_new (kd_nO' (k := 5))
          have hm_1513 : q_158 ∈ hL S_1491 := hf_1493.mem (mem_old hm_1378)
          have hk_1514 : Kd S_1491 q_158 20 := hf_1493.kd (mem_old hm_1378) (kd_nO (k := 5) hq_1487 hm_1378 hk_1379)
          have hn_1515 : Ln S_1491 q_158 16 := hf_1493.ln (mem_old hm_1378) hn_1380
          have hm_1516 : q_218 ∈ hL S_1491 := hf_1493.mem (mem_old hm_1381)
          have hk_1517 : Kd S_1491 q_218 10 := hf_1493.kd (mem_old hm_1381) (kd_nO (k := 5) hq_1487 hm_1381 hk_1382)
          have hm_1518 : q_222 ∈ hL S_1491 := hf_1493.mem (mem_old hm_1383)
          have hk_1519 : Kd S_1491 q_222 15 := hf_1493.kd (mem_old hm_1383) (kd_nO (k := 5) hq_1487 hm_1383 hk_1384)
          have hn_1520 : Ln S_1491 q_222 16 := hf_1493.ln (mem_old hm_1383) hn_1385
          have hm_1521 : q_292 ∈ hL S_1491 := hf_1493.mem (mem_old hm_1386)
          have hk_1522 : Kd S_1491 q_292 8 := hf_1493.kd (mem_old hm_1386) (kd_nO (k := 5) hq_1487 hm_1386 hk_1387)
          have hm_1523 : q_297 ∈ hL S_1491 := hf_1493.mem (mem_old hm_1388)
          have hk_1524 : Kd S_1491 q_297 14 := hf_1493.kd (mem_old hm_1388) (kd_nO (k := 5) hq_1487 hm_1388 hk_1389)
          have hn_1525 : Ln S_1491 q_297 16 := hf_1493.ln (mem_old hm_1388) hn_1390
          have hm_1526 : q_35 ∈ hL S_1491 := hf_1493.mem (mem_old hm_1391)
          have hk_1527 : Kd S_1491 q_35 2 := hf_1493.kd (mem_old hm_1391) (kd_nO (k := 5) hq_1487 hm_1391 hk_1392)
          have hm_1528 : q_375 ∈ hL S_1491 := hf_1493.mem (mem_old hm_1393)
          have hk_1529 : Kd S_1491 q_375 13 := hf_1493.kd (mem_old hm_1393) (kd_nO (k := 5) hq_1487 hm_1393 hk_1394)
          have hn_1530 : Ln S_1491 q_375 24000 := hf_1493.ln (mem_old hm_1393) hn_1395
          have hm_1531 : q_40 ∈ hL S_1491 := hf_1493.mem (mem_old hm_1396)
          have hk_1532 : Kd S_1491 q_40 8 := hf_1493.kd (mem_old hm_1396) (kd_nO (k := 5) hq_1487 hm_1396 hk_1397)
          have hm_1533 : q_41 ∈ hL S_1491 := hf_1493.mem (mem_old hm_1398)
          have hk_1534 : Kd S_1491 q_41 14 := hf_1493.kd (mem_old hm_1398) (kd_nO (k := 5) hq_1487 hm_1398 hk_1399)
          have hn_1535 : Ln S_1491 q_41 16 := hf_1493.ln (mem_old hm_1398) hn_1400
          have hm_1536 : q_42 ∈ hL S_1491 := hf_1493.mem (mem_old hm_1401)
          have hk_1537 : Kd S_1491 q_42 14 := hf_1493.kd (mem_old hm_1401) (kd_nO (k := 5) hq_1487 hm_1401 hk_1402)
          have hn_1538 : Ln S_1491 q_42 119 := hf_1493.ln (mem_old hm_1401) hn_1403
          have hm_1539 : q_43 ∈ hL S_1491 := hf_1493.mem (mem_old hm_1404)
          have hk_1540 : Kd S_1491 q_43 14 := hf_1493.kd (mem_old hm_1404) (kd_nO (k := 5) hq_1487 hm_1404 hk_1405)
          have hn_1541 : Ln S_1491 q_43 8 := hf_1493.ln (mem_old hm_1404) hn_1406
          have hm_1542 : q_457 ∈ hL S_1491 := hf_1493.mem (mem_old hm_1407)
          have hk_1543 : Kd S_1491 q_457 14 := hf_1493.kd (mem_old hm_1407) (kd_nO (k := 5) hq_1487 hm_1407 hk_1408)
          have hn_1544 : Ln S_1491 q_457 16 := hf_1493.ln (mem_old hm_1407) hn_1409
          have hm_1545 : q_5 ∈ hL S_1491 := hf_1493.mem (mem_old hm_1410)
          have hk_1546 : Kd S_1491 q_5 14 := hf_1493.kd (mem_old hm_1410) (kd_nO (k := 5) hq_1487 hm_1410 hk_1411)
          have hn_1547 : Ln S_1491 q_5 20000 := hf_1493.ln (mem_old hm_1410) hn_1412
          have hm_1548 : q_543 ∈ hL S_1491 := hf_1493.mem (mem_old hm_1413)
          have hk_1549 : Kd S_1491 q_543 1 := hf_1493.kd (mem_old hm_1413) (kd_nO (k := 5) hq_1487 hm_1413 hk_1414)
          have hm_1550 : q_547 ∈ hL S_1491 := hf_1493.mem (mem_old hm_1415)
          have hk_1551 : Kd S_1491 q_547 7 := hf_1493.kd (mem_old hm_1415) (kd_nO (k := 5) hq_1487 hm_1415 hk_1416)
          have hm_1552 : q_548 ∈ hL S_1491 := hf_1493.mem (mem_old hm_1417)
          have hk_1553 : Kd S_1491 q_548 4 := hf_1493.kd (mem_old hm_1417) (kd_nO (k := 5) hq_1487 hm_1417 hk_1418)
          have hm_1554 : q_549 ∈ hL S_1491 := hf_1493.mem (mem_old hm_1419)
          have hk_1555 : Kd S_1491 q_549 14 := hf_1493.kd (mem_old hm_1419) (kd_nO (k := 5) hq_1487 hm_1419 hk_1420)
          have hn_1556 : Ln S_1491 q_549 20 := hf_1493.ln (mem_old hm_1419) hn_1421
          have hm_1557 : q_550 ∈ hL S_1491 := hf_1493.mem (mem_old hm_1422)
          have hk_1558 : Kd S_1491 q_550 10 := hf_1493.kd (mem_old hm_1422) (kd_nO (k := 5) hq_1487 hm_1422 hk_1423)
          have hm_1559 : q_551 ∈ hL S_1491 := hf_1493.mem (mem_old hm_1424)
          have hk_1560 : Kd S_1491 q_551 15 := hf_1493.kd (mem_old hm_1424) (kd_nO (k := 5) hq_1487 hm_1424 hk_1425)
          have hn_1561 : Ln S_1491 q_551 16 := hf_1493.ln (mem_old hm_1424) hn_1426
          have hm_1562 : q_552 ∈ hL S_1491 := hf_1493.mem (mem_old hm_1427)
          have hk_1563 : Kd S_1491 q_552 14 := hf_1493.kd (mem_old hm_1427) (kd_nO (k := 5) hq_1487 hm_1427 hk_1428)
          have hn_1564 : Ln S_1491 q_552 8 := hf_1493.ln (mem_old hm_1427) hn_1429
          have hm_1565 : q_553 ∈ hL S_1491 := hf_1493.mem (mem_old hm_1430)
          have hk_1566 : Kd S_1491 q_553 14 := hf_1493.kd (mem_old hm_1430) (kd_nO (k := 5) hq_1487 hm_1430 hk_1431)
          have hn_1567 : Ln S_1491 q_553 8 := hf_1493.ln (mem_old hm_1430) hn_1432
          have hm_1568 : q_6 ∈ hL S_1491 := hf_1493.mem (mem_old hm_1433)
          have hk_1569 : Kd S_1491 q_6 14 := hf_1493.kd (mem_old hm_1433) (kd_nO (k := 5) hq_1487 hm_1433 hk_1434)
          have hn_1570 : Ln S_1491 q_6 25 := hf_1493.ln (mem_old hm_1433) hn_1435
          have hm_1571 : q_681 ∈ hL S_1491 := hf_1493.mem (mem_old hm_1436)
          have hk_1572 : Kd S_1491 q_681 1 := hf_1493.kd (mem_old hm_1436) (kd_nO (k := 5) hq_1487 hm_1436 hk_1437)
          have hm_1573 : q_840 ∈ hL S_1491 := hf_1493.mem (mem_old hm_1438)
          have hk_1574 : Kd S_1491 q_840 18 := hf_1493.kd (mem_old hm_1438) (kd_nO (k := 5) hq_1487 hm_1438 hk_1439)
          have hn_1575 : Ln S_1491 q_840 3 := hf_1493.ln (mem_old hm_1438) hn_1440
          have hm_1576 : q_963 ∈ hL S_1491 := hf_1493.mem (mem_old hm_1441)
          have hk_1577 : Kd S_1491 q_963 19 := hf_1493.kd (mem_old hm_1441) (kd_nO (k := 5) hq_1487 hm_1441 hk_1442)
          have hn_1578 : Ln S_1491 q_963 4 := hf_1493.ln (mem_old hm_1441) hn_1443
          have hm_1579 : q_97 ∈ hL S_1491 := hf_1493.mem (mem_old hm_1444)
          have hk_1580 : Kd S_1491 q_97 8 := hf_1493.kd (mem_old hm_1444) (kd_nO (k := 5) hq_1487 hm_1444 hk_1445)
          have hv_1581 : hI S_1491 1000 q_218 = 1 := hf_1493.fi (mem_old hm_1381) (fun h9 => h9) (rd_nOI (k := 5) hq_1487 hm_1381 hv_1446)
          have hv_1582 : hI S_1491 1001 q_218 = 1 := hf_1493.fi (mem_old hm_1381) (fun h9 => h9) (rd_nOI (k := 5) hq_1487 hm_1381 hv_1447)
          have hv_1583 : hI S_1491 2 q_1 = 0 := hf_1493.fi (mem_old hm_1370) (fun h9 => h9) (rd_nOI (k := 5) hq_1487 hm_1370 hv_1448)
          have hv_1584 : hI S_1491 206 q_35 = 0 := hf_1493.fi (mem_old hm_1391) (fun h9 => h9) (rd_nOI (k := 5) hq_1487 hm_1391 hv_1449)
          have hv_1585 : hI S_1491 209 q_35 = 0 := hf_1493.fi (mem_old hm_1391) (fun h9 => h9) (rd_nOI (k := 5) hq_1487 hm_1391 hv_1450)
          have hv_1586 : hI S_1491 3 q_1 = 0 := hf_1493.fi (mem_old hm_1370) (fun h9 => h9) (rd_nOI (k := 5) hq_1487 hm_1370 hv_1451)
          have hv_1587 : hI S_1491 4 q_1 = 0 := hf_1493.fi (mem_old hm_1370) (fun h9 => h9) (rd_nOI (k := 5) hq_1487 hm_1370 hv_1452)
          have hv_1588 : hI S_1491 5 q_1 = 0 := hf_1493.fi (mem_old hm_1370) (fun h9 => h9) (rd_nOI (k := 5) hq_1487 hm_1370 hv_1453)
          have hv_1589 : hR S_1491 0 q_1 = (some q_5) := hf_1493.fr (mem_old hm_1370) (fun q9 => (fun e9 => absurd (((kd_nO (k := 5) hq_1487 hm_1370 hk_1371)).symm.trans ((congrArg (hK _) e9).trans (kd_nO' (k := 5)))) (by decide)) q9) (rd_nOR (k := 5) hq_1487 hm_1370 hv_1454)
          have hv_1590 : hR S_1491 1 q_1 = (some q_6) := hf_1493.fr (mem_old hm_1370) (fun q9 => (fun e9 => absurd (((kd_nO (k := 5) hq_1487 hm_1370 hk_1371)).symm.trans ((congrArg (hK _) e9).trans (kd_nO' (k := 5)))) (by decide)) q9) (rd_nOR (k := 5) hq_1487 hm_1370 hv_1455)
          have hv_1591 : hR S_1491 100 q_543 = (some q_547) := hf_1493.fr (mem_old hm_1413) (fun q9 => (fun e9 => absurd (((kd_nO (k := 5) hq_1487 hm_1413 hk_1414)).symm.trans ((congrArg (hK _) e9).trans (kd_nO' (k := 5)))) (by decide)) q9) (rd_nOR (k := 5) hq_1487 hm_1413 hv_1456)
          have hv_1592 : hR S_1491 1003 q_218 = (some q_222) := hf_1493.fr (mem_old hm_1381) (fun q9 => (fun e9 => absurd (((kd_nO (k := 5) hq_1487 hm_1381 hk_1382)).symm.trans ((congrArg (hK _) e9).trans (kd_nO' (k := 5)))) (by decide)) q9) (rd_nOR (k := 5) hq_1487 hm_1381 hv_1457)
          have hv_1593 : hR S_1491 1003 q_550 = (some q_551) := hf_1493.fr (mem_old hm_1422) (fun q9 => (fun e9 => absurd (((kd_nO (k := 5) hq_1487 hm_1422 hk_1423)).symm.trans ((congrArg (hK _) e9).trans (kd_nO' (k := 5)))) (by decide)) q9) (rd_nOR (k := 5) hq_1487 hm_1422 hv_1458)
          have hv_1594 : hR S_1491 101 q_543 = (some q_548) := hf_1493.fr (mem_old hm_1413) (fun q9 => (fun e9 => absurd (((kd_nO (k := 5) hq_1487 hm_1413 hk_1414)).symm.trans ((congrArg (hK _) e9).trans (kd_nO' (k := 5)))) (by decide)) q9) (rd_nOR (k := 5) hq_1487 hm_1413 hv_1459)
          have hv_1595 : hR S_1491 102 q_543 = (some q_550) := hf_1493.fr (mem_old hm_1413) (fun q9 => (fun e9 => absurd (((kd_nO (k := 5) hq_1487 hm_1413 hk_1414)).symm.trans ((congrArg (hK _) e9).trans (kd_nO' (k := 5)))) (by decide)) q9) (rd_nOR (k := 5) hq_1487 hm_1413 hv_1460)
          have hv_1596 : hR S_1491 103 q_543 = (some q_552) := hf_1493.fr (mem_old hm_1413) (fun q9 => (fun e9 => absurd (((kd_nO (k := 5) hq_1487 hm_1413 hk_1414)).symm.trans ((congrArg (hK _) e9).trans (kd_nO' (k := 5)))) (by decide)) q9) (rd_nOR (k := 5) hq_1487 hm_1413 hv_1461)
          have hv_1597 : hR S_1491 104 q_543 = (some q_553) := hf_1493.fr (mem_old hm_1413) (fun q9 => (fun e9 => absurd (((kd_nO (k := 5) hq_1487 hm_1413 hk_1414)).symm.trans ((congrArg (hK _) e9).trans (kd_nO' (k := 5)))) (by decide)) q9) (rd_nOR (k := 5) hq_1487 hm_1413 hv_1462)
          have hv_1598 : hR S_1491 200 q_35 = (some q_40) := hf_1493.fr (mem_old hm_1391) (fun q9 => (fun e9 => absurd (((kd_nO (k := 5) hq_1487 hm_1391 hk_1392)).symm.trans ((congrArg (hK _) e9).trans (kd_nO' (k := 5)))) (by decide)) q9) (rd_nOR (k := 5) hq_1487 hm_1391 hv_1463)
          have hv_1599 : hR S_1491 201 q_35 = (some q_42) := hf_1493.fr (mem_old hm_1391) (fun q9 => (fun e9 => absurd (((kd_nO (k := 5) hq_1487 hm_1391 hk_1392)).symm.trans ((congrArg (hK _) e9).trans (kd_nO' (k := 5)))) (by decide)) q9) (rd_nOR (k := 5) hq_1487 hm_1391 hv_1464)
          have hv_1600 : hR S_1491 207 q_35 = (some q_43) := hf_1493.fr (mem_old hm_1391) (fun q9 => (fun e9 => absurd (((kd_nO (k := 5) hq_1487 hm_1391 hk_1392)).symm.trans ((congrArg (hK _) e9).trans (kd_nO' (k := 5)))) (by decide)) q9) (rd_nOR (k := 5) hq_1487 hm_1391 hv_1465)
          have hv_1601 : hR S_1491 407 q_548 = (some q_549) := hf_1493.fr (mem_old hm_1417) (fun q9 => (fun e9 => absurd (((kd_nO (k := 5) hq_1487 hm_1417 hk_1418)).symm.trans ((congrArg (hK _) e9).trans (kd_nO' (k := 5)))) (by decide)) q9) (rd_nOR (k := 5) hq_1487 hm_1417 hv_1466)
          have hv_1602 : hR S_1491 800 q_292 = (some q_297) := hf_1493.fr (mem_old hm_1386) (fun q9 => (fun e9 => absurd (((kd_nO (k := 5) hq_1487 hm_1386 hk_1387)).symm.trans ((congrArg (hK _) e9).trans (kd_nO' (k := 5)))) (by decide)) q9) (rd_nOR (k := 5) hq_1487 hm_1386 hv_1467)
          have hv_1603 : hR S_1491 800 q_40 = (some q_41) := hf_1493.fr (mem_old hm_1396) (fun q9 => (fun e9 => absurd (((kd_nO (k := 5) hq_1487 hm_1396 hk_1397)).symm.trans ((congrArg (hK _) e9).trans (kd_nO' (k := 5)))) (by decide)) q9) (rd_nOR (k := 5) hq_1487 hm_1396 hv_1468)
          have hv_1604 : hR S_1491 800 q_97 = (some q_102) := hf_1493.fr (mem_old hm_1444) (fun q9 => (fun e9 => absurd (((kd_nO (k := 5) hq_1487 hm_1444 hk_1445)).symm.trans ((congrArg (hK _) e9).trans (kd_nO' (k := 5)))) (by decide)) q9) (rd_nOR (k := 5) hq_1487 hm_1444 hv_1469)
          have hv_1605 : hR S_1491 900 h = (some s0) := hf_1493.fr (mem_old hm_1368) (fun q9 => (fun e9 => absurd (((kd_nO (k := 5) hq_1487 hm_1368 hk_1369)).symm.trans ((congrArg (hK _) e9).trans (kd_nO' (k := 5)))) (by decide)) q9) (rd_nOR (k := 5) hq_1487 hm_1368 hv_1470)
          have hv_1606 : hR S_1491 901 h = (some q_1) := hf_1493.fr (mem_old hm_1368) (fun q9 => (fun e9 => absurd (((kd_nO (k := 5) hq_1487 hm_1368 hk_1369)).symm.trans ((congrArg (hK _) e9).trans (kd_nO' (k := 5)))) (by decide)) q9) (rd_nOR (k := 5) hq_1487 hm_1368 hv_1471)
          have hv_1607 : hR S_1491 902 h = (some q_35) := hf_1493.fr (mem_old hm_1368) (fun q9 => (fun e9 => absurd (((kd_nO (k := 5) hq_1487 hm_1368 hk_1369)).symm.trans ((congrArg (hK _) e9).trans (kd_nO' (k := 5)))) (by decide)) q9) (rd_nOR (k := 5) hq_1487 hm_1368 hv_1472)
          have hv_1608 : hR S_1491 903 h = (some q_97) := hf_1493.fr (mem_old hm_1368) (fun q9 => (fun e9 => absurd (((kd_nO (k := 5) hq_1487 hm_1368 hk_1369)).symm.trans ((congrArg (hK _) e9).trans (kd_nO' (k := 5)))) (by decide)) q9) (rd_nOR (k := 5) hq_1487 hm_1368 hv_1473)
          have hv_1609 : hR S_1491 904 h = (some q_158) := hf_1493.fr (mem_old hm_1368) (fun q9 => (fun e9 => absurd (((kd_nO (k := 5) hq_1487 hm_1368 hk_1369)).symm.trans ((congrArg (hK _) e9).trans (kd_nO' (k := 5)))) (by decide)) q9) (rd_nOR (k := 5) hq_1487 hm_1368 hv_1474)
          have hv_1610 : hR S_1491 905 h = (some q_218) := hf_1493.fr (mem_old hm_1368) (fun q9 => (fun e9 => absurd (((kd_nO (k := 5) hq_1487 hm_1368 hk_1369)).symm.trans ((congrArg (hK _) e9).trans (kd_nO' (k := 5)))) (by decide)) q9) (rd_nOR (k := 5) hq_1487 hm_1368 hv_1475)
          have hv_1611 : hR S_1491 906 h = (some q_292) := hf_1493.fr (mem_old hm_1368) (fun q9 => (fun e9 => absurd (((kd_nO (k := 5) hq_1487 hm_1368 hk_1369)).symm.trans ((congrArg (hK _) e9).trans (kd_nO' (k := 5)))) (by decide)) q9) (rd_nOR (k := 5) hq_1487 hm_1368 hv_1476)
          have hv_1612 : hR S_1491 907 h = (some q_375) := hf_1493.fr (mem_old hm_1368) (fun q9 => (fun e9 => absurd (((kd_nO (k := 5) hq_1487 hm_1368 hk_1369)).symm.trans ((congrArg (hK _) e9).trans (kd_nO' (k := 5)))) (by decide)) q9) (rd_nOR (k := 5) hq_1487 hm_1368 hv_1477)
          have hv_1613 : hR S_1491 908 h = (some q_457) := hf_1493.fr (mem_old hm_1368) (fun q9 => (fun e9 => absurd (((kd_nO (k := 5) hq_1487 hm_1368 hk_1369)).symm.trans ((congrArg (hK _) e9).trans (kd_nO' (k := 5)))) (by decide)) q9) (rd_nOR (k := 5) hq_1487 hm_1368 hv_1478)
          have hv_1614 : hR S_1491 909 h = (some q_543) := hf_1493.fr (mem_old hm_1368) (fun q9 => (fun e9 => absurd (((kd_nO (k := 5) hq_1487 hm_1368 hk_1369)).symm.trans ((congrArg (hK _) e9).trans (kd_nO' (k := 5)))) (by decide)) q9) (rd_nOR (k := 5) hq_1487 hm_1368 hv_1479)
          have hv_1615 : hR S_1491 910 h = (some q_681) := hf_1493.fr (mem_old hm_1368) (fun q9 => (fun e9 => absurd (((kd_nO (k := 5) hq_1487 hm_1368 hk_1369)).symm.trans ((congrArg (hK _) e9).trans (kd_nO' (k := 5)))) (by decide)) q9) (rd_nOR (k := 5) hq_1487 hm_1368 hv_1480)
          have hv_1616 : hR S_1491 911 h = (some q_840) := hf_1493.fr (mem_old hm_1368) (fun q9 => (fun e9 => absurd (((kd_nO (k := 5) hq_1487 hm_1368 hk_1369)).symm.trans ((congrArg (hK _) e9).trans (kd_nO' (k := 5)))) (by decide)) q9) (rd_nOR (k := 5) hq_1487 hm_1368 hv_1481)
          have hv_1617 : hR S_1491 912 h = (some q_963) := hf_1493.fr (mem_old hm_1368) (fun q9 => (fun e9 => absurd (((kd_nO (k := 5) hq_1487 hm_1368 hk_1369)).symm.trans ((congrArg (hK _) e9).trans (kd_nO' (k := 5)))) (by decide)) q9) (rd_nOR (k := 5) hq_1487 hm_1368 hv_1482)
          have hv_1618 : hR S_1491 917 h = (some q_1090) := hf_1493.fr (mem_old hm_1368) (fun q9 => (fun e9 => absurd (((kd_nO (k := 5) hq_1487 hm_1368 hk_1369)).symm.trans ((congrArg (hK _) e9).trans (kd_nO' (k := 5)))) (by decide)) q9) (rd_nOR (k := 5) hq_1487 hm_1368 hv_1483)
          have hf_1619 : Fm (fun _ _ => False) (fun f9 b9 => b9 = h) (fun _ => False) S S_1491 := hf_1489.then hf_1493 (fun a9 ha9 => ⟨(fun f9 h9 => h9.elim), (fun f9 h9 => (fun h8 => absurd (h8 ▸ ha9) hz_1488) h9), (fun h9 => h9.elim)⟩)
          have hN_1620 : NL S [q_1, q_5, q_6, q_35, q_40, q_41, q_42, q_43, q_97, q_102, q_218, q_222, q_292, q_297, q_543, q_547, q_548, q_549, q_550, q_551, q_552, q_553, q_963, q_1090, q_1486] S_1491 := NL.mono (show NL S [q_1, q_5, q_6, q_35, q_40, q_41, q_42, q_43, q_97, q_102, q_218, q_222, q_292, q_297, q_543, q_547, q_548, q_549, q_550, q_551, q_552, q_553, q_963, q_1090, q_1486] (nO S_1356 q_1486 5) from NL.nO hN_1485 hq_1487 hz_1488) (fun a9 h9 => hf_1493.mem h9)
          refine j_aast (j := 0) (ci := 5) C 19  (by decide) rfl dX9_init_219 hm_1576 hk_1577 (inr_of (n := 4) hn_1578 (vp_lit (by decide))) (by decide) hm_1511 hk_1512 rfl ?_
          refine j_iinc (q := 0) (v := 1) (lv' := [(2, .int 1), (0, .ref h), (1, .ref s0)]) C dX9_init_220 rfl (by decide) (by rw [hn9]; decide) rfl ?_
          refine j_goto (tgt := 198) C dX9_init_223 (by decide) ?_
          refine j_iload_n C dX9_init_198 rfl 0 rfl ?_
          refine j_aload_n C dX9_init_199 rfl 1 rfl ?_
          refine j_getr (f := 912) (v := q_963) C flX9_70 dX9_init_200 hm_1501 hk_1502 (by decide) rfl hv_1617 ?_
          refine j_alen (v := 4) C dX9_init_203 hm_1576 hk_1577 (by decide) (by decide) (len_of (n := 4) hn_1578 (by decide)) ?_
          show J _ _ _ _ _ 204 _
          refine j_ic_ge (tgt := 226) C dX9_init_204 (by decide) (fun c9 => absurd c9 (by decide)) (fun c9 => ?_)
          refine j_aload_n C dX9_init_207 rfl 1 rfl ?_
          refine j_getr (f := 912) (v := q_963) C flX9_70 dX9_init_208 hm_1501 hk_1502 (by decide) rfl hv_1617 ?_
          refine j_iload_n C dX9_init_211 rfl 0 rfl ?_
          have hf_1623 : Fm (fun _ _ => False) (fun f9 b9 => b9 = h) (fun _ => False) S (tR S_1491 q_963 0 (some q_1486)) := (hf_1619.tR _ _ (fun h9 => absurd h9 hz_965))
          refine j_new (N := 13) C (ci := 5) rfl rfl klX9_68 knX5 kiX5 (M.cells (by omega)) (M.slots (by omega)) dX9_init_212 (fun q_1621 hq_1622 => ?_)
          have hz_1624 : q_1621 ∉ hL S := fun h9 => hq_1622 (hf_1623.mem h9)
          refine j_dup C dX9_init_215 rfl ?_
          have hf_1625 : Fm (fun _ _ => False) (fun f9 b9 => b9 = h) (fun _ => False) S (nO (tR S_1491 q_963 0 (some q_1486)) q_1621 5) := (hf_1623.nO _ hq_1622)
          refine j_callI C [] [.ref q_1621, .int 1, .ref q_963] mlX9_81 mcX5_init (c_X5_init (nO (tR S_1491 q_963 0 (some q_1486)) q_1621 5) q_1621 mem_new (kd_nO' (k := 5))) (M.rm (by decide) (by decide) (by omega) (by omega)) rfl rfl (Nat.le_of_ble_eq_true rfl) dX9_init_216 (fun r_1626 S_1627 hp_1628 => ?_)
          obtain ⟨rfl, hf_1629⟩ := hp_1628
          refine J.eq (st' := [.ref q_1621, .int 1, .ref q_963]) rfl rfl rfl ?_
          have hz_1630 : ∀ j, aI S_1627 q_102 j = 0 := fun j9 => (hf_1629.ai (mem_old hm_1505) (fun h9 => h9) j9).trans (hz_1494 j9)
          have hz_1631 : ∀ j, aI S_1627 q_1090 j = 0 := fun j9 => (hf_1629.ai (mem_old hm_1508) (fun h9 => h9) j9).trans (hz_1495 j9)
          have hz_1632 : ∀ j, aI S_1627 q_297 j = 0 := fun j9 => (hf_1629.ai (mem_old hm_1523) (fun h9 => h9) j9).trans (hz_1496 j9)
          have hz_1633 : ∀ j, aI S_1627 q_375 j = 0 := fun j9 => (hf_1629.ai (mem_old hm_1528) (fun h9 => h9) j9).trans (hz_1497 j9)
          have hz_1634 : ∀ j, aI S_1627 q_41 j = 0 := fun j9 => (hf_1629.ai (mem_old hm_1533) (fun h9 => h9) j9).trans (hz_1498 j9)
          have hz_1635 : ∀ j, aI S_1627 q_457 j = 0 := fun j9 => (hf_1629.ai (mem_old hm_1542) (fun h9 => h9) j9).trans (hz_1499 j9)
          have hz_1636 : ∀ j, aI S_1627 q_963 j = 0 := fun j9 => (hf_1629.ai (mem_old hm_1576) (fun h9 => h9) j9).trans (hz_1500 j9)
          have hm_1637 : h ∈ hL S_1627 := hf_1629.mem (mem_old hm_1501)
          have hk_1638 : Kd S_1627 h 9 := hf_1629.kd (mem_old hm_1501) (kd_nO (k := 5) hq_1622 hm_1501 hk_1502)
          have hm_1639 : q_1 ∈ hL S_1627 := hf_1629.mem (mem_old hm_1503)
          have hk_1640 : Kd S_1627 q_1 0 := hf_1629.kd (mem_old hm_1503) (kd_nO (k := 5) hq_1622 hm_1503 hk_1504)
          have hm_1641 : q_102 ∈ hL S_1627 := hf_1629.mem (mem_old hm_1505)
          have hk_1642 : Kd S_1627 q_102 14 := hf_1629.kd (mem_old hm_1505) (kd_nO (k := 5) hq_1622 hm_1505 hk_1506)
          have hn_1643 : Ln S_1627 q_102 16 := hf_1629.ln (mem_old hm_1505) hn_1507
          have hm_1644 : q_1090 ∈ hL S_1627 := hf_1629.mem (mem_old hm_1508)
          have hk_1645 : Kd S_1627 q_1090 14 := hf_1629.kd (mem_old hm_1508) (kd_nO (k := 5) hq_1622 hm_1508 hk_1509)
          have hn_1646 : Ln S_1627 q_1090 12 := hf_1629.ln (mem_old hm_1508) hn_1510
          have hm_1647 : q_1486 ∈ hL S_1627 := hf_1629.mem (mem_old hm_1511)
          have hk_1648 : Kd S_1627 q_1486 5 := hf_1629.kd (mem_old hm_1511) (kd_nO (k := 5) hq_1622 hm_1511 hk_1512)
          have hm_1649 : q_158 ∈ hL S_1627 := hf_1629.mem (mem_old hm_1513)
          have hk_1650 : Kd S_1627 q_158 20 := hf_1629.kd (mem_old hm_1513) (kd_nO (k := 5) hq_1622 hm_1513 hk_1514)
          have hn_1651 : Ln S_1627 q_158 16 := hf_1629.ln (mem_old hm_1513) hn_1515
          have hm_1652 : q_1621 ∈ hL S_1627 := hf_1629.mem mem_new
          have hk_1653 : Kd S_1627 q_1621 5 := hf_1629.kd mem_new (kd_nO' (k := 5))
          have hm_1654 : q_218 ∈ hL S_1627 := hf_1629.mem (mem_old hm_1516)
          have hk_1655 : Kd S_1627 q_218 10 := hf_1629.kd (mem_old hm_1516) (kd_nO (k := 5) hq_1622 hm_1516 hk_1517)
          have hm_1656 : q_222 ∈ hL S_1627 := hf_1629.mem (mem_old hm_1518)
          have hk_1657 : Kd S_1627 q_222 15 := hf_1629.kd (mem_old hm_1518) (kd_nO (k := 5) hq_1622 hm_1518 hk_1519)
          have hn_1658 : Ln S_1627 q_222 16 := hf_1629.ln (mem_old hm_1518) hn_1520
          have hm_1659 : q_292 ∈ hL S_1627 := hf_1629.mem (mem_old hm_1521)
          have hk_1660 : Kd S_1627 q_292 8 := hf_1629.kd (mem_old hm_1521) (kd_nO (k := 5) hq_1622 hm_1521 hk_1522)
          have hm_1661 : q_297 ∈ hL S_1627 := hf_1629.mem (mem_old hm_1523)
          have hk_1662 : Kd S_1627 q_297 14 := hf_1629.kd (mem_old hm_1523) (kd_nO (k := 5) hq_1622 hm_1523 hk_1524)
          have hn_1663 : Ln S_1627 q_297 16 := hf_1629.ln (mem_old hm_1523) hn_1525
          have hm_1664 : q_35 ∈ hL S_1627 := hf_1629.mem (mem_old hm_1526)
          have hk_1665 : Kd S_1627 q_35 2 := hf_1629.kd (mem_old hm_1526) (kd_nO (k := 5) hq_1622 hm_1526 hk_1527)
          have hm_1666 : q_375 ∈ hL S_1627 := hf_1629.mem (mem_old hm_1528)
          have hk_1667 : Kd S_1627 q_375 13 := hf_1629.kd (mem_old hm_1528) (kd_nO (k := 5) hq_1622 hm_1528 hk_1529)
          have hn_1668 : Ln S_1627 q_375 24000 := hf_1629.ln (mem_old hm_1528) hn_1530
          have hm_1669 : q_40 ∈ hL S_1627 := hf_1629.mem (mem_old hm_1531)
          have hk_1670 : Kd S_1627 q_40 8 := hf_1629.kd (mem_old hm_1531) (kd_nO (k := 5) hq_1622 hm_1531 hk_1532)
          have hm_1671 : q_41 ∈ hL S_1627 := hf_1629.mem (mem_old hm_1533)
          have hk_1672 : Kd S_1627 q_41 14 := hf_1629.kd (mem_old hm_1533) (kd_nO (k := 5) hq_1622 hm_1533 hk_1534)
          have hn_1673 : Ln S_1627 q_41 16 := hf_1629.ln (mem_old hm_1533) hn_1535
          have hm_1674 : q_42 ∈ hL S_1627 := hf_1629.mem (mem_old hm_1536)
          have hk_1675 : Kd S_1627 q_42 14 := hf_1629.kd (mem_old hm_1536) (kd_nO (k := 5) hq_1622 hm_1536 hk_1537)
          have hn_1676 : Ln S_1627 q_42 119 := hf_1629.ln (mem_old hm_1536) hn_1538
          have hm_1677 : q_43 ∈ hL S_1627 := hf_1629.mem (mem_old hm_1539)
          have hk_1678 : Kd S_1627 q_43 14 := hf_1629.kd (mem_old hm_1539) (kd_nO (k := 5) hq_1622 hm_1539 hk_1540)
          have hn_1679 : Ln S_1627 q_43 8 := hf_1629.ln (mem_old hm_1539) hn_1541
          have hm_1680 : q_457 ∈ hL S_1627 := hf_1629.mem (mem_old hm_1542)
          have hk_1681 : Kd S_1627 q_457 14 := hf_1629.kd (mem_old hm_1542) (kd_nO (k := 5) hq_1622 hm_1542 hk_1543)
          have hn_1682 : Ln S_1627 q_457 16 := hf_1629.ln (mem_old hm_1542) hn_1544
          have hm_1683 : q_5 ∈ hL S_1627 := hf_1629.mem (mem_old hm_1545)
          have hk_1684 : Kd S_1627 q_5 14 := hf_1629.kd (mem_old hm_1545) (kd_nO (k := 5) hq_1622 hm_1545 hk_1546)
          have hn_1685 : Ln S_1627 q_5 20000 := hf_1629.ln (mem_old hm_1545) hn_1547
          have hm_1686 : q_543 ∈ hL S_1627 := hf_1629.mem (mem_old hm_1548)
          have hk_1687 : Kd S_1627 q_543 1 := hf_1629.kd (mem_old hm_1548) (kd_nO (k := 5) hq_1622 hm_1548 hk_1549)
          have hm_1688 : q_547 ∈ hL S_1627 := hf_1629.mem (mem_old hm_1550)
          have hk_1689 : Kd S_1627 q_547 7 := hf_1629.kd (mem_old hm_1550) (kd_nO (k := 5) hq_1622 hm_1550 hk_1551)
          have hm_1690 : q_548 ∈ hL S_1627 := hf_1629.mem (mem_old hm_1552)
          have hk_1691 : Kd S_1627 q_548 4 := hf_1629.kd (mem_old hm_1552) (kd_nO (k := 5) hq_1622 hm_1552 hk_1553)
          have hm_1692 : q_549 ∈ hL S_1627 := hf_1629.mem (mem_old hm_1554)
          have hk_1693 : Kd S_1627 q_549 14 := hf_1629.kd (mem_old hm_1554) (kd_nO (k := 5) hq_1622 hm_1554 hk_1555)
          have hn_1694 : Ln S_1627 q_549 20 := hf_1629.ln (mem_old hm_1554) hn_1556
          have hm_1695 : q_550 ∈ hL S_1627 := hf_1629.mem (mem_old hm_1557)
          have hk_1696 : Kd S_1627 q_550 10 := hf_1629.kd (mem_old hm_1557) (kd_nO (k := 5) hq_1622 hm_1557 hk_1558)
          have hm_1697 : q_551 ∈ hL S_1627 := hf_1629.mem (mem_old hm_1559)
          have hk_1698 : Kd S_1627 q_551 15 := hf_1629.kd (mem_old hm_1559) (kd_nO (k := 5) hq_1622 hm_1559 hk_1560)
          have hn_1699 : Ln S_1627 q_551 16 := hf_1629.ln (mem_old hm_1559) hn_1561
          have hm_1700 : q_552 ∈ hL S_1627 := hf_1629.mem (mem_old hm_1562)
          have hk_1701 : Kd S_1627 q_552 14 := hf_1629.kd (mem_old hm_1562) (kd_nO (k := 5) hq_1622 hm_1562 hk_1563)
          have hn_1702 : Ln S_1627 q_552 8 := hf_1629.ln (mem_old hm_1562) hn_1564
          have hm_1703 : q_553 ∈ hL S_1627 := hf_1629.mem (mem_old hm_1565)
          have hk_1704 : Kd S_1627 q_553 14 := hf_1629.kd (mem_old hm_1565) (kd_nO (k := 5) hq_1622 hm_1565 hk_1566)
          have hn_1705 : Ln S_1627 q_553 8 := hf_1629.ln (mem_old hm_1565) hn_1567
          have hm_1706 : q_6 ∈ hL S_1627 := hf_1629.mem (mem_old hm_1568)
          have hk_1707 : Kd S_1627 q_6 14 := hf_1629.kd (mem_old hm_1568) (kd_nO (k := 5) hq_1622 hm_1568 hk_1569)
          have hn_1708 : Ln S_1627 q_6 25 := hf_1629.ln (mem_old hm_1568) hn_1570
          have hm_1709 : q_681 ∈ hL S_1627 := hf_1629.mem (mem_old hm_1571)
          have hk_1710 : Kd S_1627 q_681 1 := hf_1629.kd (mem_old hm_1571) (kd_nO (k := 5) hq_1622 hm_1571 hk_1572)
          have hm_1711 : q_840 ∈ hL S_1627 := hf_1629.mem (mem_old hm_1573)
          have hk_1712 : Kd S_1627 q_840 18 := hf_1629.kd (mem_old hm_1573) (kd_nO (k := 5) hq_1622 hm_1573 hk_1574)
          have hn_1713 : Ln S_1627 q_840 3 := hf_1629.ln (mem_old hm_1573) hn_1575
          have hm_1714 : q_963 ∈ hL S_1627 := hf_1629.mem (mem_old hm_1576)
          have hk_1715 : Kd S_1627 q_963 19 := hf_1629.kd (mem_old hm_1576) (kd_nO (k := 5) hq_1622 hm_1576 hk_1577)
          have hn_1716 : Ln S_1627 q_963 4 := hf_1629.ln (mem_old hm_1576) hn_1578
          have hm_1717 : q_97 ∈ hL S_1627 := hf_1629.mem (mem_old hm_1579)
          have hk_1718 : Kd S_1627 q_97 8 := hf_1629.kd (mem_old hm_1579) (kd_nO (k := 5) hq_1622 hm_1579 hk_1580)
          have hv_1719 : hI S_1627 1000 q_218 = 1 := hf_1629.fi (mem_old hm_1516) (fun h9 => h9) (rd_nOI (k := 5) hq_1622 hm_1516 hv_1581)
          have hv_1720 : hI S_1627 1001 q_218 = 1 := hf_1629.fi (mem_old hm_1516) (fun h9 => h9) (rd_nOI (k := 5) hq_1622 hm_1516 hv_1582)
          have hv_1721 : hI S_1627 2 q_1 = 0 := hf_1629.fi (mem_old hm_1503) (fun h9 => h9) (rd_nOI (k := 5) hq_1622 hm_1503 hv_1583)
          have hv_1722 : hI S_1627 206 q_35 = 0 := hf_1629.fi (mem_old hm_1526) (fun h9 => h9) (rd_nOI (k := 5) hq_1622 hm_1526 hv_1584)
          have hv_1723 : hI S_1627 209 q_35 = 0 := hf_1629.fi (mem_old hm_1526) (fun h9 => h9) (rd_nOI (k := 5) hq_1622 hm_1526 hv_1585)
          have hv_1724 : hI S_1627 3 q_1 = 0 := hf_1629.fi (mem_old hm_1503) (fun h9 => h9) (rd_nOI (k := 5) hq_1622 hm_1503 hv_1586)
          have hv_1725 : hI S_1627 4 q_1 = 0 := hf_1629.fi (mem_old hm_1503) (fun h9 => h9) (rd_nOI (k := 5) hq_1622 hm_1503 hv_1587)
          have hv_1726 : hI S_1627 5 q_1 = 0 := hf_1629.fi (mem_old hm_1503) (fun h9 => h9) (rd_nOI (k := 5) hq_1622 hm_1503 hv_1588)
          have hv_1727 : hR S_1627 0 q_1 = (some q_5) := hf_1629.fr (mem_old hm_1503) (fun q9 => (fun e9 => absurd (((kd_nO (k := 5) hq_1622 hm_1503 hk_1504)).symm.trans ((congrArg (hK _) e9).trans (kd_nO' (k := 5)))) (by decide)) q9) (rd_nOR (k := 5) hq_1622 hm_1503 hv_1589)
          have hv_1728 : hR S_1627 1 q_1 = (some q_6) := hf_1629.fr (mem_old hm_1503) (fun q9 => (fun e9 => absurd (((kd_nO (k := 5) hq_1622 hm_1503 hk_1504)).symm.trans ((congrArg (hK _) e9).trans (kd_nO' (k := 5)))) (by decide)) q9) (rd_nOR (k := 5) hq_1622 hm_1503 hv_1590)
          have hv_1729 : hR S_1627 100 q_543 = (some q_547) := hf_1629.fr (mem_old hm_1548) (fun q9 => (fun e9 => absurd (((kd_nO (k := 5) hq_1622 hm_1548 hk_1549)).symm.trans ((congrArg (hK _) e9).trans (kd_nO' (k := 5)))) (by decide)) q9) (rd_nOR (k := 5) hq_1622 hm_1548 hv_1591)
          have hv_1730 : hR S_1627 1003 q_218 = (some q_222) := hf_1629.fr (mem_old hm_1516) (fun q9 => (fun e9 => absurd (((kd_nO (k := 5) hq_1622 hm_1516 hk_1517)).symm.trans ((congrArg (hK _) e9).trans (kd_nO' (k := 5)))) (by decide)) q9) (rd_nOR (k := 5) hq_1622 hm_1516 hv_1592)
          have hv_1731 : hR S_1627 1003 q_550 = (some q_551) := hf_1629.fr (mem_old hm_1557) (fun q9 => (fun e9 => absurd (((kd_nO (k := 5) hq_1622 hm_1557 hk_1558)).symm.trans ((congrArg (hK _) e9).trans (kd_nO' (k := 5)))) (by decide)) q9) (rd_nOR (k := 5) hq_1622 hm_1557 hv_1593)
          have hv_1732 : hR S_1627 101 q_543 = (some q_548) := hf_1629.fr (mem_old hm_1548) (fun q9 => (fun e9 => absurd (((kd_nO (k := 5) hq_1622 hm_1548 hk_1549)).symm.trans ((congrArg (hK _) e9).trans (kd_nO' (k := 5)))) (by decide)) q9) (rd_nOR (k := 5) hq_1622 hm_1548 hv_1594)
          have hv_1733 : hR S_1627 102 q_543 = (some q_550) := hf_1629.fr (mem_old hm_1548) (fun q9 => (fun e9 => absurd (((kd_nO (k := 5) hq_1622 hm_1548 hk_1549)).symm.trans ((congrArg (hK _) e9).trans (kd_nO' (k := 5)))) (by decide)) q9) (rd_nOR (k := 5) hq_1622 hm_1548 hv_1595)
          have hv_1734 : hR S_1627 103 q_543 = (some q_552) := hf_1629.fr (mem_old hm_1548) (fun q9 => (fun e9 => absurd (((kd_nO (k := 5) hq_1622 hm_1548 hk_1549)).symm.trans ((congrArg (hK _) e9).trans (kd_nO' (k := 5)))) (by decide)) q9) (rd_nOR (k := 5) hq_1622 hm_1548 hv_1596)
          have hv_1735 : hR S_1627 104 q_543 = (some q_553) := hf_1629.fr (mem_old hm_1548) (fun q9 => (fun e9 => absurd (((kd_nO (k := 5) hq_1622 hm_1548 hk_1549)).symm.trans ((congrArg (hK _) e9).trans (kd_nO' (k := 5)))) (by decide)) q9) (rd_nOR (k := 5) hq_1622 hm_1548 hv_1597)
          have hv_1736 : hR S_1627 200 q_35 = (some q_40) := hf_1629.fr (mem_old hm_1526) (fun q9 => (fun e9 => absurd (((kd_nO (k := 5) hq_1622 hm_1526 hk_1527)).symm.trans ((congrArg (hK _) e9).trans (kd_nO' (k := 5)))) (by decide)) q9) (rd_nOR (k := 5) hq_1622 hm_1526 hv_1598)
          have hv_1737 : hR S_1627 201 q_35 = (some q_42) := hf_1629.fr (mem_old hm_1526) (fun q9 => (fun e9 => absurd (((kd_nO (k := 5) hq_1622 hm_1526 hk_1527)).symm.trans ((congrArg (hK _) e9).trans (kd_nO' (k := 5)))) (by decide)) q9) (rd_nOR (k := 5) hq_1622 hm_1526 hv_1599)
          have hv_1738 : hR S_1627 207 q_35 = (some q_43) := hf_1629.fr (mem_old hm_1526) (fun q9 => (fun e9 => absurd (((kd_nO (k := 5) hq_1622 hm_1526 hk_1527)).symm.trans ((congrArg (hK _) e9).trans (kd_nO' (k := 5)))) (by decide)) q9) (rd_nOR (k := 5) hq_1622 hm_1526 hv_1600)
          have hv_1739 : hR S_1627 407 q_548 = (some q_549) := hf_1629.fr (mem_old hm_1552) (fun q9 => (fun e9 => absurd (((kd_nO (k := 5) hq_1622 hm_1552 hk_1553)).symm.trans ((congrArg (hK _) e9).trans (kd_nO' (k := 5)))) (by decide)) q9) (rd_nOR (k := 5) hq_1622 hm_1552 hv_1601)
          have hv_1740 : hR S_1627 800 q_292 = (some q_297) := hf_1629.fr (mem_old hm_1521) (fun q9 => (fun e9 => absurd (((kd_nO (k := 5) hq_1622 hm_1521 hk_1522)).symm.trans ((congrArg (hK _) e9).trans (kd_nO' (k := 5)))) (by decide)) q9) (rd_nOR (k := 5) hq_1622 hm_1521 hv_1602)
          have hv_1741 : hR S_1627 800 q_40 = (some q_41) := hf_1629.fr (mem_old hm_1531) (fun q9 => (fun e9 => absurd (((kd_nO (k := 5) hq_1622 hm_1531 hk_1532)).symm.trans ((congrArg (hK _) e9).trans (kd_nO' (k := 5)))) (by decide)) q9) (rd_nOR (k := 5) hq_1622 hm_1531 hv_1603)
          have hv_1742 : hR S_1627 800 q_97 = (some q_102) := hf_1629.fr (mem_old hm_1579) (fun q9 => (fun e9 => absurd (((kd_nO (k := 5) hq_1622 hm_1579 hk_1580)).symm.trans ((congrArg (hK _) e9).trans (kd_nO' (k := 5)))) (by decide)) q9) (rd_nOR (k := 5) hq_1622 hm_1579 hv_1604)
          have hv_1743 : hR S_1627 900 h = (some s0) := hf_1629.fr (mem_old hm_1501) (fun q9 => (fun e9 => absurd (((kd_nO (k := 5) hq_1622 hm_1501 hk_1502)).symm.trans ((congrArg (hK _) e9).trans (kd_nO' (k := 5)))) (by decide)) q9) (rd_nOR (k := 5) hq_1622 hm_1501 hv_1605)
          have hv_1744 : hR S_1627 901 h = (some q_1) := hf_1629.fr (mem_old hm_1501) (fun q9 => (fun e9 => absurd (((kd_nO (k := 5) hq_1622 hm_1501 hk_1502)).symm.trans ((congrArg (hK _) e9).trans (kd_nO' (k := 5)))) (by decide)) q9) (rd_nOR (k := 5) hq_1622 hm_1501 hv_1606)
          have hv_1745 : hR S_1627 902 h = (some q_35) := hf_1629.fr (mem_old hm_1501) (fun q9 => (fun e9 => absurd (((kd_nO (k := 5) hq_1622 hm_1501 hk_1502)).symm.trans ((congrArg (hK _) e9).trans (kd_nO' (k := 5)))) (by decide)) q9) (rd_nOR (k := 5) hq_1622 hm_1501 hv_1607)
          have hv_1746 : hR S_1627 903 h = (some q_97) := hf_1629.fr (mem_old hm_1501) (fun q9 => (fun e9 => absurd (((kd_nO (k := 5) hq_1622 hm_1501 hk_1502)).symm.trans ((congrArg (hK _) e9).trans (kd_nO' (k := 5)))) (by decide)) q9) (rd_nOR (k := 5) hq_1622 hm_1501 hv_1608)
          have hv_1747 : hR S_1627 904 h = (some q_158) := hf_1629.fr (mem_old hm_1501) (fun q9 => (fun e9 => absurd (((kd_nO (k := 5) hq_1622 hm_1501 hk_1502)).symm.trans ((congrArg (hK _) e9).trans (kd_nO' (k := 5)))) (by decide)) q9) (rd_nOR (k := 5) hq_1622 hm_1501 hv_1609)
          have hv_1748 : hR S_1627 905 h = (some q_218) := hf_1629.fr (mem_old hm_1501) (fun q9 => (fun e9 => absurd (((kd_nO (k := 5) hq_1622 hm_1501 hk_1502)).symm.trans ((congrArg (hK _) e9).trans (kd_nO' (k := 5)))) (by decide)) q9) (rd_nOR (k := 5) hq_1622 hm_1501 hv_1610)
          have hv_1749 : hR S_1627 906 h = (some q_292) := hf_1629.fr (mem_old hm_1501) (fun q9 => (fun e9 => absurd (((kd_nO (k := 5) hq_1622 hm_1501 hk_1502)).symm.trans ((congrArg (hK _) e9).trans (kd_nO' (k := 5)))) (by decide)) q9) (rd_nOR (k := 5) hq_1622 hm_1501 hv_1611)
          have hv_1750 : hR S_1627 907 h = (some q_375) := hf_1629.fr (mem_old hm_1501) (fun q9 => (fun e9 => absurd (((kd_nO (k := 5) hq_1622 hm_1501 hk_1502)).symm.trans ((congrArg (hK _) e9).trans (kd_nO' (k := 5)))) (by decide)) q9) (rd_nOR (k := 5) hq_1622 hm_1501 hv_1612)
          have hv_1751 : hR S_1627 908 h = (some q_457) := hf_1629.fr (mem_old hm_1501) (fun q9 => (fun e9 => absurd (((kd_nO (k := 5) hq_1622 hm_1501 hk_1502)).symm.trans ((congrArg (hK _) e9).trans (kd_nO' (k := 5)))) (by decide)) q9) (rd_nOR (k := 5) hq_1622 hm_1501 hv_1613)
          have hv_1752 : hR S_1627 909 h = (some q_543) := hf_1629.fr (mem_old hm_1501) (fun q9 => (fun e9 => absurd (((kd_nO (k := 5) hq_1622 hm_1501 hk_1502)).symm.trans ((congrArg (hK _) e9).trans (kd_nO' (k := 5)))) (by decide)) q9) (rd_nOR (k := 5) hq_1622 hm_1501 hv_1614)
          have hv_1753 : hR S_1627 910 h = (some q_681) := hf_1629.fr (mem_old hm_1501) (fun q9 => (fun e9 => absurd (((kd_nO (k := 5) hq_1622 hm_1501 hk_1502)).symm.trans ((congrArg (hK _) e9).trans (kd_nO' (k := 5)))) (by decide)) q9) (rd_nOR (k := 5) hq_1622 hm_1501 hv_1615)
          have hv_1754 : hR S_1627 911 h = (some q_840) := hf_1629.fr (mem_old hm_1501) (fun q9 => (fun e9 => absurd (((kd_nO (k := 5) hq_1622 hm_1501 hk_1502)).symm.trans ((congrArg (hK _) e9).trans (kd_nO' (k := 5)))) (by decide)) q9) (rd_nOR (k := 5) hq_1622 hm_1501 hv_1616)
          have hv_1755 : hR S_1627 912 h = (some q_963) := hf_1629.fr (mem_old hm_1501) (fun q9 => (fun e9 => absurd (((kd_nO (k := 5) hq_1622 hm_1501 hk_1502)).symm.trans ((congrArg (hK _) e9).trans (kd_nO' (k := 5)))) (by decide)) q9) (rd_nOR (k := 5) hq_1622 hm_1501 hv_1617)
          have hv_1756 : hR S_1627 917 h = (some q_1090) := hf_1629.fr (mem_old hm_1501) (fun q9 => (fun e9 => absurd (((kd_nO (k := 5) hq_1622 hm_1501 hk_1502)).symm.trans ((congrArg (hK _) e9).trans (kd_nO' (k := 5)))) (by decide)) q9) (rd_nOR (k := 5) hq_1622 hm_1501 hv_1618)
          have hf_1757 : Fm (fun _ _ => False) (fun f9 b9 => b9 = h) (fun _ => False) S S_1627 := hf_1625.then hf_1629 (fun a9 ha9 => ⟨(fun f9 h9 => h9.elim), (fun f9 h9 => (fun h8 => absurd (h8 ▸ ha9) hz_1624) h9), (fun h9 => h9.elim)⟩)
          have hN_1758 : NL S [q_1, q_5, q_6, q_35, q_40, q_41, q_42, q_43, q_97, q_102, q_218, q_222, q_292, q_297, q_543, q_547, q_548, q_549, q_550, q_551, q_552, q_553, q_963, q_1090, q_1486] S_1627 := NL.mono (show NL S [q_1, q_5, q_6, q_35, q_40, q_41, q_42, q_43, q_97, q_102, q_218, q_222, q_292, q_297, q_543, q_547, q_548, q_549, q_550, q_551, q_552, q_553, q_963, q_1090, q_1486] (nO (tR S_1491 q_963 0 (some q_1486)) q_1621 5) from NL.oldO (NL.tR (S := S_1491) hN_1620)) (fun a9 h9 => hf_1629.mem h9)
          have hE_1759 : aR S_1627 q_963 0 = some q_1486 := (hf_1629.ar (mem_old hm_1576) (fun h9 => h9) 0).trans (rxA_nO (S := (tR S_1491 q_963 0 (some q_1486))) (rd_tR (S := S_1491)))
          refine j_aast (j := 1) (ci := 5) C 19  (by decide) rfl dX9_init_219 hm_1714 hk_1715 (inr_of (n := 4) hn_1716 (vp_lit (by decide))) (by decide) hm_1652 hk_1653 rfl ?_
          show J _ _ _ _ _ 220 _
          refine j_iinc (q := 0) (v := 2) (lv' := [(2, .int 2), (0, .ref h), (1, .ref s0)]) C dX9_init_220 rfl (by decide) (by rw [hn9]; decide) rfl ?_
          refine j_goto (tgt := 198) C dX9_init_223 (by decide) ?_
          refine j_iload_n C dX9_init_198 rfl 0 rfl ?_
          refine j_aload_n C dX9_init_199 rfl 1 rfl ?_
          refine j_getr (f := 912) (v := q_963) C flX9_70 dX9_init_200 hm_1637 hk_1638 (by decide) rfl hv_1755 ?_
          refine j_alen (v := 4) C dX9_init_203 hm_1714 hk_1715 (by decide) (by decide) (len_of (n := 4) hn_1716 (by decide)) ?_
          refine j_ic_ge (tgt := 226) C dX9_init_204 (by decide) (fun c9 => absurd c9 (by decide)) (fun c9 => ?_)
          refine j_aload_n C dX9_init_207 rfl 1 rfl ?_
          show J _ _ _ _ _ 208 _
          refine j_getr (f := 912) (v := q_963) C flX9_70 dX9_init_208 hm_1637 hk_1638 (by decide) rfl hv_1755 ?_
          refine j_iload_n C dX9_init_211 rfl 0 rfl ?_
          have hf_1762 : Fm (fun _ _ => False) (fun f9 b9 => b9 = h) (fun _ => False) S (tR S_1627 q_963 1 (some q_1621)) := (hf_1757.tR _ _ (fun h9 => absurd h9 hz_965))
          refine j_new (N := 13) C (ci := 5) rfl rfl klX9_68 knX5 kiX5 (M.cells (by omega)) (M.slots (by omega)) dX9_init_212 (fun q_1760 hq_1761 => ?_)
          have hz_1763 : q_1760 ∉ hL S := fun h9 => hq_1761 (hf_1762.mem h9)
          refine j_dup C dX9_init_215 rfl ?_
          have hf_1764 : Fm (fun _ _ => False) (fun f9 b9 => b9 = h) (fun _ => False) S (nO (tR S_1627 q_963 1 (some q_1621)) q_1760 5) := (hf_1762.nO _ hq_1761)
          refine j_callI C [] [.ref q_1760, .int 2, .ref q_963] mlX9_81 mcX5_init (c_X5_init (nO (tR S_1627 q_963 1 (some q_1621)) q_1760 5) q_1760 mem_new (kd_nO' (k := 5))) (M.rm (by decide) (by decide) (by omega) (by omega)) rfl rfl (Nat.le_of_ble_eq_true rfl) dX9_init_216 (fun r_1765 S_1766 hp_1767 => ?_)
          obtain ⟨rfl, hf_1768⟩ := hp_1767
          refine J.eq (st' := [.ref q_1760, .int 2, .ref q_963]) rfl rfl rfl ?_
          have hz_1769 : ∀ j, aI S_1766 q_102 j = 0 := fun j9 => (hf_1768.ai (mem_old hm_1641) (fun h9 => h9) j9).trans (hz_1630 j9)
          have hz_1770 : ∀ j, aI S_1766 q_1090 j = 0 := fun j9 => (hf_1768.ai (mem_old hm_1644) (fun h9 => h9) j9).trans (hz_1631 j9)
          have hz_1771 : ∀ j, aI S_1766 q_297 j = 0 := fun j9 => (hf_1768.ai (mem_old hm_1661) (fun h9 => h9) j9).trans (hz_1632 j9)
          have hz_1772 : ∀ j, aI S_1766 q_375 j = 0 := fun j9 => (hf_1768.ai (mem_old hm_1666) (fun h9 => h9) j9).trans (hz_1633 j9)
          have hz_1773 : ∀ j, aI S_1766 q_41 j = 0 := fun j9 => (hf_1768.ai (mem_old hm_1671) (fun h9 => h9) j9).trans (hz_1634 j9)
          have hz_1774 : ∀ j, aI S_1766 q_457 j = 0 := fun j9 => (hf_1768.ai (mem_old hm_1680) (fun h9 => h9) j9).trans (hz_1635 j9)
          have hz_1775 : ∀ j, aI S_1766 q_963 j = 0 := fun j9 => (hf_1768.ai (mem_old hm_1714) (fun h9 => h9) j9).trans (hz_1636 j9)
          have hm_1776 : h ∈ hL S_1766 := hf_1768.mem (mem_old hm_1637)
          have hk_1777 : Kd S_1766 h 9 := hf_1768.kd (mem_old hm_1637) (kd_nO (k := 5) hq_1761 hm_1637 hk_1638)
          have hm_1778 : q_1 ∈ hL S_1766 := hf_1768.mem (mem_old hm_1639)
          have hk_1779 : Kd S_1766 q_1 0 := hf_1768.kd (mem_old hm_1639) (kd_nO (k := 5) hq_1761 hm_1639 hk_1640)
          have hm_1780 : q_102 ∈ hL S_1766 := hf_1768.mem (mem_old hm_1641)
          have hk_1781 : Kd S_1766 q_102 14 := hf_1768.kd (mem_old hm_1641) (kd_nO (k := 5) hq_1761 hm_1641 hk_1642)
          have hn_1782 : Ln S_1766 q_102 16 := hf_1768.ln (mem_old hm_1641) hn_1643
          have hm_1783 : q_1090 ∈ hL S_1766 := hf_1768.mem (mem_old hm_1644)
          have hk_1784 : Kd S_1766 q_1090 14 := hf_1768.kd (mem_old hm_1644) (kd_nO (k := 5) hq_1761 hm_1644 hk_1645)
          have hn_1785 : Ln S_1766 q_1090 12 := hf_1768.ln (mem_old hm_1644) hn_1646
          have hm_1786 : q_1486 ∈ hL S_1766 := hf_1768.mem (mem_old hm_1647)
          have hk_1787 : Kd S_1766 q_1486 5 := hf_1768.kd (mem_old hm_1647) (kd_nO (k := 5) hq_1761 hm_1647 hk_1648)
          have hm_1788 : q_158 ∈ hL S_1766 := hf_1768.mem (mem_old hm_1649)
          have hk_1789 : Kd S_1766 q_158 20 := hf_1768.kd (mem_old hm_1649) (kd_nO (k := 5) hq_1761 hm_1649 hk_1650)
          have hn_1790 : Ln S_1766 q_158 16 := hf_1768.ln (mem_old hm_1649) hn_1651
          have hm_1791 : q_1621 ∈ hL S_1766 := hf_1768.mem (mem_old hm_1652)
          have hk_1792 : Kd S_1766 q_1621 5 := hf_1768.kd (mem_old hm_1652) (kd_nO (k := 5) hq_1761 hm_1652 hk_1653)
          have hm_1793 : q_1760 ∈ hL S_1766 := hf_1768.mem mem_new
          have hk_1794 : Kd S_1766 q_1760 5 := hf_1768.kd mem_new (kd_nO' (k := 5))
          have hm_1795 : q_218 ∈ hL S_1766 := hf_1768.mem (mem_old hm_1654)
          have hk_1796 : Kd S_1766 q_218 10 := hf_1768.kd (mem_old hm_1654) (kd_nO (k := 5) hq_1761 hm_1654 hk_1655)
          have hm_1797 : q_222 ∈ hL S_1766 := hf_1768.mem (mem_old hm_1656)
          have hk_1798 : Kd S_1766 q_222 15 := hf_1768.kd (mem_old hm_1656) (kd_nO (k := 5) hq_1761 hm_1656 hk_1657)
          have hn_1799 : Ln S_1766 q_222 16 := hf_1768.ln (mem_old hm_1656) hn_1658
          have hm_1800 : q_292 ∈ hL S_1766 := hf_1768.mem (mem_old hm_1659)
          have hk_1801 : Kd S_1766 q_292 8 := hf_1768.kd (mem_old hm_1659) (kd_nO (k := 5) hq_1761 hm_1659 hk_1660)
          have hm_1802 : q_297 ∈ hL S_1766 := hf_1768.mem (mem_old hm_1661)
          have hk_1803 : Kd S_1766 q_297 14 := hf_1768.kd (mem_old hm_1661) (kd_nO (k := 5) hq_1761 hm_1661 hk_1662)
          have hn_1804 : Ln S_1766 q_297 16 := hf_1768.ln (mem_old hm_1661) hn_1663
          have hm_1805 : q_35 ∈ hL S_1766 := hf_1768.mem (mem_old hm_1664)
          have hk_1806 : Kd S_1766 q_35 2 := hf_1768.kd (mem_old hm_1664) (kd_nO (k := 5) hq_1761 hm_1664 hk_1665)
          have hm_1807 : q_375 ∈ hL S_1766 := hf_1768.mem (mem_old hm_1666)
          have hk_1808 : Kd S_1766 q_375 13 := hf_1768.kd (mem_old hm_1666) (kd_nO (k := 5) hq_1761 hm_1666 hk_1667)
          have hn_1809 : Ln S_1766 q_375 24000 := hf_1768.ln (mem_old hm_1666) hn_1668
          have hm_1810 : q_40 ∈ hL S_1766 := hf_1768.mem (mem_old hm_1669)
          have hk_1811 : Kd S_1766 q_40 8 := hf_1768.kd (mem_old hm_1669) (kd_nO (k := 5) hq_1761 hm_1669 hk_1670)
          have hm_1812 : q_41 ∈ hL S_1766 := hf_1768.mem (mem_old hm_1671)
          have hk_1813 : Kd S_1766 q_41 14 := hf_1768.kd (mem_old hm_1671) (kd_nO (k := 5) hq_1761 hm_1671 hk_1672)
          have hn_1814 : Ln S_1766 q_41 16 := hf_1768.ln (mem_old hm_1671) hn_1673
          have hm_1815 : q_42 ∈ hL S_1766 := hf_1768.mem (mem_old hm_1674)
          have hk_1816 : Kd S_1766 q_42 14 := hf_1768.kd (mem_old hm_1674) (kd_nO (k := 5) hq_1761 hm_1674 hk_1675)
          have hn_1817 : Ln S_1766 q_42 119 := hf_1768.ln (mem_old hm_1674) hn_1676
          have hm_1818 : q_43 ∈ hL S_1766 := hf_1768.mem (mem_old hm_1677)
          have hk_1819 : Kd S_1766 q_43 14 := hf_1768.kd (mem_old hm_1677) (kd_nO (k := 5) hq_1761 hm_1677 hk_1678)
          have hn_1820 : Ln S_1766 q_43 8 := hf_1768.ln (mem_old hm_1677) hn_1679
          have hm_1821 : q_457 ∈ hL S_1766 := hf_1768.mem (mem_old hm_1680)
          have hk_1822 : Kd S_1766 q_457 14 := hf_1768.kd (mem_old hm_1680) (kd_nO (k := 5) hq_1761 hm_1680 hk_1681)
          have hn_1823 : Ln S_1766 q_457 16 := hf_1768.ln (mem_old hm_1680) hn_1682
          have hm_1824 : q_5 ∈ hL S_1766 := hf_1768.mem (mem_old hm_1683)
          have hk_1825 : Kd S_1766 q_5 14 := hf_1768.kd (mem_old hm_1683) (kd_nO (k := 5) hq_1761 hm_1683 hk_1684)
          have hn_1826 : Ln S_1766 q_5 20000 := hf_1768.ln (mem_old hm_1683) hn_1685
          have hm_1827 : q_543 ∈ hL S_1766 := hf_1768.mem (mem_old hm_1686)
          have hk_1828 : Kd S_1766 q_543 1 := hf_1768.kd (mem_old hm_1686) (kd_nO (k := 5) hq_1761 hm_1686 hk_1687)
          have hm_1829 : q_547 ∈ hL S_1766 := hf_1768.mem (mem_old hm_1688)
          have hk_1830 : Kd S_1766 q_547 7 := hf_1768.kd (mem_old hm_1688) (kd_nO (k := 5) hq_1761 hm_1688 hk_1689)
          have hm_1831 : q_548 ∈ hL S_1766 := hf_1768.mem (mem_old hm_1690)
          have hk_1832 : Kd S_1766 q_548 4 := hf_1768.kd (mem_old hm_1690) (kd_nO (k := 5) hq_1761 hm_1690 hk_1691)
          have hm_1833 : q_549 ∈ hL S_1766 := hf_1768.mem (mem_old hm_1692)
          have hk_1834 : Kd S_1766 q_549 14 := hf_1768.kd (mem_old hm_1692) (kd_nO (k := 5) hq_1761 hm_1692 hk_1693)
          have hn_1835 : Ln S_1766 q_549 20 := hf_1768.ln (mem_old hm_1692) hn_1694
          have hm_1836 : q_550 ∈ hL S_1766 := hf_1768.mem (mem_old hm_1695)
          have hk_1837 : Kd S_1766 q_550 10 := hf_1768.kd (mem_old hm_1695) (kd_nO (k := 5) hq_1761 hm_1695 hk_1696)
          have hm_1838 : q_551 ∈ hL S_1766 := hf_1768.mem (mem_old hm_1697)
          have hk_1839 : Kd S_1766 q_551 15 := hf_1768.kd (mem_old hm_1697) (kd_nO (k := 5) hq_1761 hm_1697 hk_1698)
          have hn_1840 : Ln S_1766 q_551 16 := hf_1768.ln (mem_old hm_1697) hn_1699
          have hm_1841 : q_552 ∈ hL S_1766 := hf_1768.mem (mem_old hm_1700)
          have hk_1842 : Kd S_1766 q_552 14 := hf_1768.kd (mem_old hm_1700) (kd_nO (k := 5) hq_1761 hm_1700 hk_1701)
          have hn_1843 : Ln S_1766 q_552 8 := hf_1768.ln (mem_old hm_1700) hn_1702
          have hm_1844 : q_553 ∈ hL S_1766 := hf_1768.mem (mem_old hm_1703)
          have hk_1845 : Kd S_1766 q_553 14 := hf_1768.kd (mem_old hm_1703) (kd_nO (k := 5) hq_1761 hm_1703 hk_1704)
          have hn_1846 : Ln S_1766 q_553 8 := hf_1768.ln (mem_old hm_1703) hn_1705
          have hm_1847 : q_6 ∈ hL S_1766 := hf_1768.mem (mem_old hm_1706)
          have hk_1848 : Kd S_1766 q_6 14 := hf_1768.kd (mem_old hm_1706) (kd_nO (k := 5) hq_1761 hm_1706 hk_1707)
          have hn_1849 : Ln S_1766 q_6 25 := hf_1768.ln (mem_old hm_1706) hn_1708
          have hm_1850 : q_681 ∈ hL S_1766 := hf_1768.mem (mem_old hm_1709)
          have hk_1851 : Kd S_1766 q_681 1 := hf_1768.kd (mem_old hm_1709) (kd_nO (k := 5) hq_1761 hm_1709 hk_1710)
          have hm_1852 : q_840 ∈ hL S_1766 := hf_1768.mem (mem_old hm_1711)
          have hk_1853 : Kd S_1766 q_840 18 := hf_1768.kd (mem_old hm_1711) (kd_nO (k := 5) hq_1761 hm_1711 hk_1712)
          have hn_1854 : Ln S_1766 q_840 3 := hf_1768.ln (mem_old hm_1711) hn_1713
          have hm_1855 : q_963 ∈ hL S_1766 := hf_1768.mem (mem_old hm_1714)
          have hk_1856 : Kd S_1766 q_963 19 := hf_1768.kd (mem_old hm_1714) (kd_nO (k := 5) hq_1761 hm_1714 hk_1715)
          have hn_1857 : Ln S_1766 q_963 4 := hf_1768.ln (mem_old hm_1714) hn_1716
          have hm_1858 : q_97 ∈ hL S_1766 := hf_1768.mem (mem_old hm_1717)
          have hk_1859 : Kd S_1766 q_97 8 := hf_1768.kd (mem_old hm_1717) (kd_nO (k := 5) hq_1761 hm_1717 hk_1718)
          have hv_1860 : hI S_1766 1000 q_218 = 1 := hf_1768.fi (mem_old hm_1654) (fun h9 => h9) (rd_nOI (k := 5) hq_1761 hm_1654 hv_1719)
          have hv_1861 : hI S_1766 1001 q_218 = 1 := hf_1768.fi (mem_old hm_1654) (fun h9 => h9) (rd_nOI (k := 5) hq_1761 hm_1654 hv_1720)
          have hv_1862 : hI S_1766 2 q_1 = 0 := hf_1768.fi (mem_old hm_1639) (fun h9 => h9) (rd_nOI (k := 5) hq_1761 hm_1639 hv_1721)
          have hv_1863 : hI S_1766 206 q_35 = 0 := hf_1768.fi (mem_old hm_1664) (fun h9 => h9) (rd_nOI (k := 5) hq_1761 hm_1664 hv_1722)
          have hv_1864 : hI S_1766 209 q_35 = 0 := hf_1768.fi (mem_old hm_1664) (fun h9 => h9) (rd_nOI (k := 5) hq_1761 hm_1664 hv_1723)
          have hv_1865 : hI S_1766 3 q_1 = 0 := hf_1768.fi (mem_old hm_1639) (fun h9 => h9) (rd_nOI (k := 5) hq_1761 hm_1639 hv_1724)
          have hv_1866 : hI S_1766 4 q_1 = 0 := hf_1768.fi (mem_old hm_1639) (fun h9 => h9) (rd_nOI (k := 5) hq_1761 hm_1639 hv_1725)
          have hv_1867 : hI S_1766 5 q_1 = 0 := hf_1768.fi (mem_old hm_1639) (fun h9 => h9) (rd_nOI (k := 5) hq_1761 hm_1639 hv_1726)
          have hv_1868 : hR S_1766 0 q_1 = (some q_5) := hf_1768.fr (mem_old hm_1639) (fun q9 => (fun e9 => absurd (((kd_nO (k := 5) hq_1761 hm_1639 hk_1640)).symm.trans ((congrArg (hK _) e9).trans (kd_nO' (k := 5)))) (by decide)) q9) (rd_nOR (k := 5) hq_1761 hm_1639 hv_1727)
          have hv_1869 : hR S_1766 1 q_1 = (some q_6) := hf_1768.fr (mem_old hm_1639) (fun q9 => (fun e9 => absurd (((kd_nO (k := 5) hq_1761 hm_1639 hk_1640)).symm.trans ((congrArg (hK _) e9).trans (kd_nO' (k := 5)))) (by decide)) q9) (rd_nOR (k := 5) hq_1761 hm_1639 hv_1728)
          have hv_1870 : hR S_1766 100 q_543 = (some q_547) := hf_1768.fr (mem_old hm_1686) (fun q9 => (fun e9 => absurd (((kd_nO (k := 5) hq_1761 hm_1686 hk_1687)).symm.trans ((congrArg (hK _) e9).trans (kd_nO' (k := 5)))) (by decide)) q9) (rd_nOR (k := 5) hq_1761 hm_1686 hv_1729)
          have hv_1871 : hR S_1766 1003 q_218 = (some q_222) := hf_1768.fr (mem_old hm_1654) (fun q9 => (fun e9 => absurd (((kd_nO (k := 5) hq_1761 hm_1654 hk_1655)).symm.trans ((congrArg (hK _) e9).trans (kd_nO' (k := 5)))) (by decide)) q9) (rd_nOR (k := 5) hq_1761 hm_1654 hv_1730)
          have hv_1872 : hR S_1766 1003 q_550 = (some q_551) := hf_1768.fr (mem_old hm_1695) (fun q9 => (fun e9 => absurd (((kd_nO (k := 5) hq_1761 hm_1695 hk_1696)).symm.trans ((congrArg (hK _) e9).trans (kd_nO' (k := 5)))) (by decide)) q9) (rd_nOR (k := 5) hq_1761 hm_1695 hv_1731)
          have hv_1873 : hR S_1766 101 q_543 = (some q_548) := hf_1768.fr (mem_old hm_1686) (fun q9 => (fun e9 => absurd (((kd_nO (k := 5) hq_1761 hm_1686 hk_1687)).symm.trans ((congrArg (hK _) e9).trans (kd_nO' (k := 5)))) (by decide)) q9) (rd_nOR (k := 5) hq_1761 hm_1686 hv_1732)
          have hv_1874 : hR S_1766 102 q_543 = (some q_550) := hf_1768.fr (mem_old hm_1686) (fun q9 => (fun e9 => absurd (((kd_nO (k := 5) hq_1761 hm_1686 hk_1687)).symm.trans ((congrArg (hK _) e9).trans (kd_nO' (k := 5)))) (by decide)) q9) (rd_nOR (k := 5) hq_1761 hm_1686 hv_1733)
          have hv_1875 : hR S_1766 103 q_543 = (some q_552) := hf_1768.fr (mem_old hm_1686) (fun q9 => (fun e9 => absurd (((kd_nO (k := 5) hq_1761 hm_1686 hk_1687)).symm.trans ((congrArg (hK _) e9).trans (kd_nO' (k := 5)))) (by decide)) q9) (rd_nOR (k := 5) hq_1761 hm_1686 hv_1734)
          have hv_1876 : hR S_1766 104 q_543 = (some q_553) := hf_1768.fr (mem_old hm_1686) (fun q9 => (fun e9 => absurd (((kd_nO (k := 5) hq_1761 hm_1686 hk_1687)).symm.trans ((congrArg (hK _) e9).trans (kd_nO' (k := 5)))) (by decide)) q9) (rd_nOR (k := 5) hq_1761 hm_1686 hv_1735)
          have hv_1877 : hR S_1766 200 q_35 = (some q_40) := hf_1768.fr (mem_old hm_1664) (fun q9 => (fun e9 => absurd (((kd_nO (k := 5) hq_1761 hm_1664 hk_1665)).symm.trans ((congrArg (hK _) e9).trans (kd_nO' (k := 5)))) (by decide)) q9) (rd_nOR (k := 5) hq_1761 hm_1664 hv_1736)
          have hv_1878 : hR S_1766 201 q_35 = (some q_42) := hf_1768.fr (mem_old hm_1664) (fun q9 => (fun e9 => absurd (((kd_nO (k := 5) hq_1761 hm_1664 hk_1665)).symm.trans ((congrArg (hK _) e9).trans (kd_nO' (k := 5)))) (by decide)) q9) (rd_nOR (k := 5) hq_1761 hm_1664 hv_1737)
          have hv_1879 : hR S_1766 207 q_35 = (some q_43) := hf_1768.fr (mem_old hm_1664) (fun q9 => (fun e9 => absurd (((kd_nO (k := 5) hq_1761 hm_1664 hk_1665)).symm.trans ((congrArg (hK _) e9).trans (kd_nO' (k := 5)))) (by decide)) q9) (rd_nOR (k := 5) hq_1761 hm_1664 hv_1738)
          have hv_1880 : hR S_1766 407 q_548 = (some q_549) := hf_1768.fr (mem_old hm_1690) (fun q9 => (fun e9 => absurd (((kd_nO (k := 5) hq_1761 hm_1690 hk_1691)).symm.trans ((congrArg (hK _) e9).trans (kd_nO' (k := 5)))) (by decide)) q9) (rd_nOR (k := 5) hq_1761 hm_1690 hv_1739)
          have hv_1881 : hR S_1766 800 q_292 = (some q_297) := hf_1768.fr (mem_old hm_1659) (fun q9 => (fun e9 => absurd (((kd_nO (k := 5) hq_1761 hm_1659 hk_1660)).symm.trans ((congrArg (hK _) e9).trans (kd_nO' (k := 5)))) (by decide)) q9) (rd_nOR (k := 5) hq_1761 hm_1659 hv_1740)
          have hv_1882 : hR S_1766 800 q_40 = (some q_41) := hf_1768.fr (mem_old hm_1669) (fun q9 => (fun e9 => absurd (((kd_nO (k := 5) hq_1761 hm_1669 hk_1670)).symm.trans ((congrArg (hK _) e9).trans (kd_nO' (k := 5)))) (by decide)) q9) (rd_nOR (k := 5) hq_1761 hm_1669 hv_1741)
          have hv_1883 : hR S_1766 800 q_97 = (some q_102) := hf_1768.fr (mem_old hm_1717) (fun q9 => (fun e9 => absurd (((kd_nO (k := 5) hq_1761 hm_1717 hk_1718)).symm.trans ((congrArg (hK _) e9).trans (kd_nO' (k := 5)))) (by decide)) q9) (rd_nOR (k := 5) hq_1761 hm_1717 hv_1742)
          have hv_1884 : hR S_1766 900 h = (some s0) := hf_1768.fr (mem_old hm_1637) (fun q9 => (fun e9 => absurd (((kd_nO (k := 5) hq_1761 hm_1637 hk_1638)).symm.trans ((congrArg (hK _) e9).trans (kd_nO' (k := 5)))) (by decide)) q9) (rd_nOR (k := 5) hq_1761 hm_1637 hv_1743)
          have hv_1885 : hR S_1766 901 h = (some q_1) := hf_1768.fr (mem_old hm_1637) (fun q9 => (fun e9 => absurd (((kd_nO (k := 5) hq_1761 hm_1637 hk_1638)).symm.trans ((congrArg (hK _) e9).trans (kd_nO' (k := 5)))) (by decide)) q9) (rd_nOR (k := 5) hq_1761 hm_1637 hv_1744)
          have hv_1886 : hR S_1766 902 h = (some q_35) := hf_1768.fr (mem_old hm_1637) (fun q9 => (fun e9 => absurd (((kd_nO (k := 5) hq_1761 hm_1637 hk_1638)).symm.trans ((congrArg (hK _) e9).trans (kd_nO' (k := 5)))) (by decide)) q9) (rd_nOR (k := 5) hq_1761 hm_1637 hv_1745)
          have hv_1887 : hR S_1766 903 h = (some q_97) := hf_1768.fr (mem_old hm_1637) (fun q9 => (fun e9 => absurd (((kd_nO (k := 5) hq_1761 hm_1637 hk_1638)).symm.trans ((congrArg (hK _) e9).trans (kd_nO' (k := 5)))) (by decide)) q9) (rd_nOR (k := 5) hq_1761 hm_1637 hv_1746)
          have hv_1888 : hR S_1766 904 h = (some q_158) := hf_1768.fr (mem_old hm_1637) (fun q9 => (fun e9 => absurd (((kd_nO (k := 5) hq_1761 hm_1637 hk_1638)).symm.trans ((congrArg (hK _) e9).trans (kd_nO' (k := 5)))) (by decide)) q9) (rd_nOR (k := 5) hq_1761 hm_1637 hv_1747)
          have hv_1889 : hR S_1766 905 h = (some q_218) := hf_1768.fr (mem_old hm_1637) (fun q9 => (fun e9 => absurd (((kd_nO (k := 5) hq_1761 hm_1637 hk_1638)).symm.trans ((congrArg (hK _) e9).trans (kd_nO' (k := 5)))) (by decide)) q9) (rd_nOR (k := 5) hq_1761 hm_1637 hv_1748)
          have hv_1890 : hR S_1766 906 h = (some q_292) := hf_1768.fr (mem_old hm_1637) (fun q9 => (fun e9 => absurd (((kd_nO (k := 5) hq_1761 hm_1637 hk_1638)).symm.trans ((congrArg (hK _) e9).trans (kd_nO' (k := 5)))) (by decide)) q9) (rd_nOR (k := 5) hq_1761 hm_1637 hv_1749)
          have hv_1891 : hR S_1766 907 h = (some q_375) := hf_1768.fr (mem_old hm_1637) (fun q9 => (fun e9 => absurd (((kd_nO (k := 5) hq_1761 hm_1637 hk_1638)).symm.trans ((congrArg (hK _) e9).trans (kd_nO' (k := 5)))) (by decide)) q9) (rd_nOR (k := 5) hq_1761 hm_1637 hv_1750)
          have hv_1892 : hR S_1766 908 h = (some q_457) := hf_1768.fr (mem_old hm_1637) (fun q9 => (fun e9 => absurd (((kd_nO (k := 5) hq_1761 hm_1637 hk_1638)).symm.trans ((congrArg (hK _) e9).trans (kd_nO' (k := 5)))) (by decide)) q9) (rd_nOR (k := 5) hq_1761 hm_1637 hv_1751)
          have hv_1893 : hR S_1766 909 h = (some q_543) := hf_1768.fr (mem_old hm_1637) (fun q9 => (fun e9 => absurd (((kd_nO (k := 5) hq_1761 hm_1637 hk_1638)).symm.trans ((congrArg (hK _) e9).trans (kd_nO' (k := 5)))) (by decide)) q9) (rd_nOR (k := 5) hq_1761 hm_1637 hv_1752)
          have hv_1894 : hR S_1766 910 h = (some q_681) := hf_1768.fr (mem_old hm_1637) (fun q9 => (fun e9 => absurd (((kd_nO (k := 5) hq_1761 hm_1637 hk_1638)).symm.trans ((congrArg (hK _) e9).trans (kd_nO' (k := 5)))) (by decide)) q9) (rd_nOR (k := 5) hq_1761 hm_1637 hv_1753)
          have hv_1895 : hR S_1766 911 h = (some q_840) := hf_1768.fr (mem_old hm_1637) (fun q9 => (fun e9 => absurd (((kd_nO (k := 5) hq_1761 hm_1637 hk_1638)).symm.trans ((congrArg (hK _) e9).trans (kd_nO' (k := 5)))) (by decide)) q9) (rd_nOR (k := 5) hq_1761 hm_1637 hv_1754)
          have hv_1896 : hR S_1766 912 h = (some q_963) := hf_1768.fr (mem_old hm_1637) (fun q9 => (fun e9 => absurd (((kd_nO (k := 5) hq_1761 hm_1637 hk_1638)).symm.trans ((congrArg (hK _) e9).trans (kd_nO' (k := 5)))) (by decide)) q9) (rd_nOR (k := 5) hq_1761 hm_1637 hv_1755)
          have hv_1897 : hR S_1766 917 h = (some q_1090) := hf_1768.fr (mem_old hm_1637) (fun q9 => (fun e9 => absurd (((kd_nO (k := 5) hq_1761 hm_1637 hk_1638)).symm.trans ((congrArg (hK _) e9).trans (kd_nO' (k := 5)))) (by decide)) q9) (rd_nOR (k := 5) hq_1761 hm_1637 hv_1756)
          have hf_1898 : Fm (fun _ _ => False) (fun f9 b9 => b9 = h) (fun _ => False) S S_1766 := hf_1764.then hf_1768 (fun a9 ha9 => ⟨(fun f9 h9 => h9.elim), (fun f9 h9 => (fun h8 => absurd (h8 ▸ ha9) hz_1763) h9), (fun h9 => h9.elim)⟩)
          have hN_1899 : NL S [q_1, q_5, q_6, q_35, q_40, q_41, q_42, q_43, q_97, q_102, q_218, q_222, q_292, q_297, q_543, q_547, q_548, q_549, q_550, q_551, q_552, q_553, q_963, q_1090, q_1486] S_1766 := NL.mono (show NL S [q_1, q_5, q_6, q_35, q_40, q_41, q_42, q_43, q_97, q_102, q_218, q_222, q_292, q_297, q_543, q_547, q_548, q_549, q_550, q_551, q_552, q_553, q_963, q_1090, q_1486] (nO (tR S_1627 q_963 1 (some q_1621)) q_1760 5) from NL.oldO (NL.tR (S := S_1627) hN_1758)) (fun a9 h9 => hf_1768.mem h9)
          have hE_1900 : aR S_1766 q_963 0 = some q_1486 := (hf_1768.ar (mem_old hm_1714) (fun h9 => h9) 0).trans (rxA_nO (S := (tR S_1627 q_963 1 (some q_1621))) (rd_tRj (S := S_1627) (j := 1) (by decide) hE_1759))
          refine j_aast (j := 2) (ci := 5) C 19  (by decide) rfl dX9_init_219 hm_1855 hk_1856 (inr_of (n := 4) hn_1857 (vp_lit (by decide))) (by decide) hm_1793 hk_1794 rfl ?_
          refine j_iinc (q := 0) (v := 3) (lv' := [(2, .int 3), (0, .ref h), (1, .ref s0)]) C dX9_init_220 rfl (by decide) (by rw [hn9]; decide) rfl ?_
          refine j_goto (tgt := 198) C dX9_init_223 (by decide) ?_
          show J _ _ _ _ _ 198 _
          refine j_iload_n C dX9_init_198 rfl 0 rfl ?_
          refine j_aload_n C dX9_init_199 rfl 1 rfl ?_
          refine j_getr (f := 912) (v := q_963) C flX9_70 dX9_init_200 hm_1776 hk_1777 (by decide) rfl hv_1896 ?_
          refine j_alen (v := 4) C dX9_init_203 hm_1855 hk_1856 (by decide) (by decide) (len_of (n := 4) hn_1857 (by decide)) ?_
          refine j_ic_ge (tgt := 226) C dX9_init_204 (by decide) (fun c9 => absurd c9 (by decide)) (fun c9 => ?_)
          refine j_aload_n C dX9_init_207 rfl 1 rfl ?_
          refine j_getr (f := 912) (v := q_963) C flX9_70 dX9_init_208 hm_1776 hk_1777 (by decide) rfl hv_1896 ?_
          refine j_iload_n C dX9_init_211 rfl 0 rfl ?_
          show J _ _ _ _ _ 212 _
          have hf_1903 : Fm (fun _ _ => False) (fun f9 b9 => b9 = h) (fun _ => False) S (tR S_1766 q_963 2 (some q_1760)) := (hf_1898.tR _ _ (fun h9 => absurd h9 hz_965))
          refine j_new (N := 13) C (ci := 5) rfl rfl klX9_68 knX5 kiX5 (M.cells (by omega)) (M.slots (by omega)) dX9_init_212 (fun q_1901 hq_1902 => ?_)
          have hz_1904 : q_1901 ∉ hL S := fun h9 => hq_1902 (hf_1903.mem h9)
          refine j_dup C dX9_init_215 rfl ?_
          have hf_1905 : Fm (fun _ _ => False) (fun f9 b9 => b9 = h) (fun _ => False) S (nO (tR S_1766 q_963 2 (some q_1760)) q_1901 5) := (hf_1903.nO _ hq_1902)
          refine j_callI C [] [.ref q_1901, .int 3, .ref q_963] mlX9_81 mcX5_init (c_X5_init (nO (tR S_1766 q_963 2 (some q_1760)) q_1901 5) q_1901 mem_new (kd_nO' (k := 5))) (M.rm (by decide) (by decide) (by omega) (by omega)) rfl rfl (Nat.le_of_ble_eq_true rfl) dX9_init_216 (fun r_1906 S_1907 hp_1908 => ?_)
          obtain ⟨rfl, hf_1909⟩ := hp_1908
          refine J.eq (st' := [.ref q_1901, .int 3, .ref q_963]) rfl rfl rfl ?_
          have hz_1910 : ∀ j, aI S_1907 q_102 j = 0 := fun j9 => (hf_1909.ai (mem_old hm_1780) (fun h9 => h9) j9).trans (hz_1769 j9)
          have hz_1911 : ∀ j, aI S_1907 q_1090 j = 0 := fun j9 => (hf_1909.ai (mem_old hm_1783) (fun h9 => h9) j9).trans (hz_1770 j9)
          have hz_1912 : ∀ j, aI S_1907 q_297 j = 0 := fun j9 => (hf_1909.ai (mem_old hm_1802) (fun h9 => h9) j9).trans (hz_1771 j9)
          have hz_1913 : ∀ j, aI S_1907 q_375 j = 0 := fun j9 => (hf_1909.ai (mem_old hm_1807) (fun h9 => h9) j9).trans (hz_1772 j9)
          have hz_1914 : ∀ j, aI S_1907 q_41 j = 0 := fun j9 => (hf_1909.ai (mem_old hm_1812) (fun h9 => h9) j9).trans (hz_1773 j9)
          have hz_1915 : ∀ j, aI S_1907 q_457 j = 0 := fun j9 => (hf_1909.ai (mem_old hm_1821) (fun h9 => h9) j9).trans (hz_1774 j9)
          have hz_1916 : ∀ j, aI S_1907 q_963 j = 0 := fun j9 => (hf_1909.ai (mem_old hm_1855) (fun h9 => h9) j9).trans (hz_1775 j9)
          have hm_1917 : h ∈ hL S_1907 := hf_1909.mem (mem_old hm_1776)
          have hk_1918 : Kd S_1907 h 9 := hf_1909.kd (mem_old hm_1776) (kd_nO (k := 5) hq_1902 hm_1776 hk_1777)
          have hm_1919 : q_1 ∈ hL S_1907 := hf_1909.mem (mem_old hm_1778)
          have hk_1920 : Kd S_1907 q_1 0 := hf_1909.kd (mem_old hm_1778) (kd_nO (k := 5) hq_1902 hm_1778 hk_1779)
          have hm_1921 : q_102 ∈ hL S_1907 := hf_1909.mem (mem_old hm_1780)
          have hk_1922 : Kd S_1907 q_102 14 := hf_1909.kd (mem_old hm_1780) (kd_nO (k := 5) hq_1902 hm_1780 hk_1781)
          have hn_1923 : Ln S_1907 q_102 16 := hf_1909.ln (mem_old hm_1780) hn_1782
          have hm_1924 : q_1090 ∈ hL S_1907 := hf_1909.mem (mem_old hm_1783)
          have hk_1925 : Kd S_1907 q_1090 14 := hf_1909.kd (mem_old hm_1783) (kd_nO (k := 5) hq_1902 hm_1783 hk_1784)
          have hn_1926 : Ln S_1907 q_1090 12 := hf_1909.ln (mem_old hm_1783) hn_1785
          have hm_1927 : q_1486 ∈ hL S_1907 := hf_1909.mem (mem_old hm_1786)
          have hk_1928 : Kd S_1907 q_1486 5 := hf_1909.kd (mem_old hm_1786) (kd_nO (k := 5) hq_1902 hm_1786 hk_1787)
          have hm_1929 : q_158 ∈ hL S_1907 := hf_1909.mem (mem_old hm_1788)
          have hk_1930 : Kd S_1907 q_158 20 := hf_1909.kd (mem_old hm_1788) (kd_nO (k := 5) hq_1902 hm_1788 hk_1789)
          have hn_1931 : Ln S_1907 q_158 16 := hf_1909.ln (mem_old hm_1788) hn_1790
          have hm_1932 : q_1621 ∈ hL S_1907 := hf_1909.mem (mem_old hm_1791)
          have hk_1933 : Kd S_1907 q_1621 5 := hf_1909.kd (mem_old hm_1791) (kd_nO (k := 5) hq_1902 hm_1791 hk_1792)
          have hm_1934 : q_1760 ∈ hL S_1907 := hf_1909.mem (mem_old hm_1793)
          have hk_1935 : Kd S_1907 q_1760 5 := hf_1909.kd (mem_old hm_1793) (kd_nO (k := 5) hq_1902 hm_1793 hk_1794)
          have hm_1936 : q_1901 ∈ hL S_1907 := hf_1909.mem mem_new
          have hk_1937 : Kd S_1907 q_1901 5 := hf_1909.kd mem_new (kd_nO' (k := 5))
          have hm_1938 : q_218 ∈ hL S_1907 := hf_1909.mem (mem_old hm_1795)
          have hk_1939 : Kd S_1907 q_218 10 := hf_1909.kd (mem_old hm_1795) (kd_nO (k := 5) hq_1902 hm_1795 hk_1796)
          have hm_1940 : q_222 ∈ hL S_1907 := hf_1909.mem (mem_old hm_1797)
          have hk_1941 : Kd S_1907 q_222 15 := hf_1909.kd (mem_old hm_1797) (kd_nO (k := 5) hq_1902 hm_1797 hk_1798)
          have hn_1942 : Ln S_1907 q_222 16 := hf_1909.ln (mem_old hm_1797) hn_1799
          have hm_1943 : q_292 ∈ hL S_1907 := hf_1909.mem (mem_old hm_1800)
          have hk_1944 : Kd S_1907 q_292 8 := hf_1909.kd (mem_old hm_1800) (kd_nO (k := 5) hq_1902 hm_1800 hk_1801)
          have hm_1945 : q_297 ∈ hL S_1907 := hf_1909.mem (mem_old hm_1802)
          have hk_1946 : Kd S_1907 q_297 14 := hf_1909.kd (mem_old hm_1802) (kd_nO (k := 5) hq_1902 hm_1802 hk_1803)
          have hn_1947 : Ln S_1907 q_297 16 := hf_1909.ln (mem_old hm_1802) hn_1804
          have hm_1948 : q_35 ∈ hL S_1907 := hf_1909.mem (mem_old hm_1805)
          have hk_1949 : Kd S_1907 q_35 2 := hf_1909.kd (mem_old hm_1805) (kd_nO (k := 5) hq_1902 hm_1805 hk_1806)
          have hm_1950 : q_375 ∈ hL S_1907 := hf_1909.mem (mem_old hm_1807)
          have hk_1951 : Kd S_1907 q_375 13 := hf_1909.kd (mem_old hm_1807) (kd_nO (k := 5) hq_1902 hm_1807 hk_1808)
          have hn_1952 : Ln S_1907 q_375 24000 := hf_1909.ln (mem_old hm_1807) hn_1809
          have hm_1953 : q_40 ∈ hL S_1907 := hf_1909.mem (mem_old hm_1810)
          have hk_1954 : Kd S_1907 q_40 8 := hf_1909.kd (mem_old hm_1810) (kd_nO (k := 5) hq_1902 hm_1810 hk_1811)
          have hm_1955 : q_41 ∈ hL S_1907 := hf_1909.mem (mem_old hm_1812)
          have hk_1956 : Kd S_1907 q_41 14 := hf_1909.kd (mem_old hm_1812) (kd_nO (k := 5) hq_1902 hm_1812 hk_1813)
          have hn_1957 : Ln S_1907 q_41 16 := hf_1909.ln (mem_old hm_1812) hn_1814
          have hm_1958 : q_42 ∈ hL S_1907 := hf_1909.mem (mem_old hm_1815)
          have hk_1959 : Kd S_1907 q_42 14 := hf_1909.kd (mem_old hm_1815) (kd_nO (k := 5) hq_1902 hm_1815 hk_1816)
          have hn_1960 : Ln S_1907 q_42 119 := hf_1909.ln (mem_old hm_1815) hn_1817
          have hm_1961 : q_43 ∈ hL S_1907 := hf_1909.mem (mem_old hm_1818)
          have hk_1962 : Kd S_1907 q_43 14 := hf_1909.kd (mem_old hm_1818) (kd_nO (k := 5) hq_1902 hm_1818 hk_1819)
          have hn_1963 : Ln S_1907 q_43 8 := hf_1909.ln (mem_old hm_1818) hn_1820
          have hm_1964 : q_457 ∈ hL S_1907 := hf_1909.mem (mem_old hm_1821)
          have hk_1965 : Kd S_1907 q_457 14 := hf_1909.kd (mem_old hm_1821) (kd_nO (k := 5) hq_1902 hm_1821 hk_1822)
          have hn_1966 : Ln S_1907 q_457 16 := hf_1909.ln (mem_old hm_1821) hn_1823
          have hm_1967 : q_5 ∈ hL S_1907 := hf_1909.mem (mem_old hm_1824)
          have hk_1968 : Kd S_1907 q_5 14 := hf_1909.kd (mem_old hm_1824) (kd_nO (k := 5) hq_1902 hm_1824 hk_1825)
          have hn_1969 : Ln S_1907 q_5 20000 := hf_1909.ln (mem_old hm_1824) hn_1826
          have hm_1970 : q_543 ∈ hL S_1907 := hf_1909.mem (mem_old hm_1827)
          have hk_1971 : Kd S_1907 q_543 1 := hf_1909.kd (mem_old hm_1827) (kd_nO (k := 5) hq_1902 hm_1827 hk_1828)
          have hm_1972 : q_547 ∈ hL S_1907 := hf_1909.mem (mem_old hm_1829)
          have hk_1973 : Kd S_1907 q_547 7 := hf_1909.kd (mem_old hm_1829) (kd_nO (k := 5) hq_1902 hm_1829 hk_1830)
          have hm_1974 : q_548 ∈ hL S_1907 := hf_1909.mem (mem_old hm_1831)
          have hk_1975 : Kd S_1907 q_548 4 := hf_1909.kd (mem_old hm_1831) (kd_nO (k := 5) hq_1902 hm_1831 hk_1832)
          have hm_1976 : q_549 ∈ hL S_1907 := hf_1909.mem (mem_old hm_1833)
          have hk_1977 : Kd S_1907 q_549 14 := hf_1909.kd (mem_old hm_1833) (kd_nO (k := 5) hq_1902 hm_1833 hk_1834)
          have hn_1978 : Ln S_1907 q_549 20 := hf_1909.ln (mem_old hm_1833) hn_1835
          have hm_1979 : q_550 ∈ hL S_1907 := hf_1909.mem (mem_old hm_1836)
          have hk_1980 : Kd S_1907 q_550 10 := hf_1909.kd (mem_old hm_1836) (kd_nO (k := 5) hq_1902 hm_1836 hk_1837)
          have hm_1981 : q_551 ∈ hL S_1907 := hf_1909.mem (mem_old hm_1838)
          have hk_1982 : Kd S_1907 q_551 15 := hf_1909.kd (mem_old hm_1838) (kd_nO (k := 5) hq_1902 hm_1838 hk_1839)
          have hn_1983 : Ln S_1907 q_551 16 := hf_1909.ln (mem_old hm_1838) hn_1840
          have hm_1984 : q_552 ∈ hL S_1907 := hf_1909.mem (mem_old hm_1841)
          have hk_1985 : Kd S_1907 q_552 14 := hf_1909.kd (mem_old hm_1841) (kd_nO (k := 5) hq_1902 hm_1841 hk_1842)
          have hn_1986 : Ln S_1907 q_552 8 := hf_1909.ln (mem_old hm_1841) hn_1843
          have hm_1987 : q_553 ∈ hL S_1907 := hf_1909.mem (mem_old hm_1844)
          have hk_1988 : Kd S_1907 q_553 14 := hf_1909.kd (mem_old hm_1844) (kd_nO (k := 5) hq_1902 hm_1844 hk_1845)
          have hn_1989 : Ln S_1907 q_553 8 := hf_1909.ln (mem_old hm_1844) hn_1846
          have hm_1990 : q_6 ∈ hL S_1907 := hf_1909.mem (mem_old hm_1847)
          have hk_1991 : Kd S_1907 q_6 14 := hf_1909.kd (mem_old hm_1847) (kd_nO (k := 5) hq_1902 hm_1847 hk_1848)
          have hn_1992 : Ln S_1907 q_6 25 := hf_1909.ln (mem_old hm_1847) hn_1849
          have hm_1993 : q_681 ∈ hL S_1907 := hf_1909.mem (mem_old hm_1850)
          have hk_1994 : Kd S_1907 q_681 1 := hf_1909.kd (mem_old hm_1850) (kd_nO (k := 5) hq_1902 hm_1850 hk_1851)
          have hm_1995 : q_840 ∈ hL S_1907 := hf_1909.mem (mem_old hm_1852)
          have hk_1996 : Kd S_1907 q_840 18 := hf_1909.kd (mem_old hm_1852) (kd_nO (k := 5) hq_1902 hm_1852 hk_1853)
          have hn_1997 : Ln S_1907 q_840 3 := hf_1909.ln (mem_old hm_1852) hn_1854
          have hm_1998 : q_963 ∈ hL S_1907 := hf_1909.mem (mem_old hm_1855)
          have hk_1999 : Kd S_1907 q_963 19 := hf_1909.kd (mem_old hm_1855) (kd_nO (k := 5) hq_1902 hm_1855 hk_1856)
          have hn_2000 : Ln S_1907 q_963 4 := hf_1909.ln (mem_old hm_1855) hn_1857
          have hm_2001 : q_97 ∈ hL S_1907 := hf_1909.mem (mem_old hm_1858)
          have hk_2002 : Kd S_1907 q_97 8 := hf_1909.kd (mem_old hm_1858) (kd_nO (k := 5) hq_1902 hm_1858 hk_1859)
          have hv_2003 : hI S_1907 1000 q_218 = 1 := hf_1909.fi (mem_old hm_1795) (fun h9 => h9) (rd_nOI (k := 5) hq_1902 hm_1795 hv_1860)
          have hv_2004 : hI S_1907 1001 q_218 = 1 := hf_1909.fi (mem_old hm_1795) (fun h9 => h9) (rd_nOI (k := 5) hq_1902 hm_1795 hv_1861)
          have hv_2005 : hI S_1907 2 q_1 = 0 := hf_1909.fi (mem_old hm_1778) (fun h9 => h9) (rd_nOI (k := 5) hq_1902 hm_1778 hv_1862)
          have hv_2006 : hI S_1907 206 q_35 = 0 := hf_1909.fi (mem_old hm_1805) (fun h9 => h9) (rd_nOI (k := 5) hq_1902 hm_1805 hv_1863)
          have hv_2007 : hI S_1907 209 q_35 = 0 := hf_1909.fi (mem_old hm_1805) (fun h9 => h9) (rd_nOI (k := 5) hq_1902 hm_1805 hv_1864)
          have hv_2008 : hI S_1907 3 q_1 = 0 := hf_1909.fi (mem_old hm_1778) (fun h9 => h9) (rd_nOI (k := 5) hq_1902 hm_1778 hv_1865)
          have hv_2009 : hI S_1907 4 q_1 = 0 := hf_1909.fi (mem_old hm_1778) (fun h9 => h9) (rd_nOI (k := 5) hq_1902 hm_1778 hv_1866)
          have hv_2010 : hI S_1907 5 q_1 = 0 := hf_1909.fi (mem_old hm_1778) (fun h9 => h9) (rd_nOI (k := 5) hq_1902 hm_1778 hv_1867)
          have hv_2011 : hR S_1907 0 q_1 = (some q_5) := hf_1909.fr (mem_old hm_1778) (fun q9 => (fun e9 => absurd (((kd_nO (k := 5) hq_1902 hm_1778 hk_1779)).symm.trans ((congrArg (hK _) e9).trans (kd_nO' (k := 5)))) (by decide)) q9) (rd_nOR (k := 5) hq_1902 hm_1778 hv_1868)
          have hv_2012 : hR S_1907 1 q_1 = (some q_6) := hf_1909.fr (mem_old hm_1778) (fun q9 => (fun e9 => absurd (((kd_nO (k := 5) hq_1902 hm_1778 hk_1779)).symm.trans ((congrArg (hK _) e9).trans (kd_nO' (k := 5)))) (by decide)) q9) (rd_nOR (k := 5) hq_1902 hm_1778 hv_1869)
          have hv_2013 : hR S_1907 100 q_543 = (some q_547) := hf_1909.fr (mem_old hm_1827) (fun q9 => (fun e9 => absurd (((kd_nO (k := 5) hq_1902 hm_1827 hk_1828)).symm.trans ((congrArg (hK _) e9).trans (kd_nO' (k := 5)))) (by decide)) q9) (rd_nOR (k := 5) hq_1902 hm_1827 hv_1870)
          have hv_2014 : hR S_1907 1003 q_218 = (some q_222) := hf_1909.fr (mem_old hm_1795) (fun q9 => (fun e9 => absurd (((kd_nO (k := 5) hq_1902 hm_1795 hk_1796)).symm.trans ((congrArg (hK _) e9).trans (kd_nO' (k := 5)))) (by decide)) q9) (rd_nOR (k := 5) hq_1902 hm_1795 hv_1871)
          have hv_2015 : hR S_1907 1003 q_550 = (some q_551) := hf_1909.fr (mem_old hm_1836) (fun q9 => (fun e9 => absurd (((kd_nO (k := 5) hq_1902 hm_1836 hk_1837)).symm.trans ((congrArg (hK _) e9).trans (kd_nO' (k := 5)))) (by decide)) q9) (rd_nOR (k := 5) hq_1902 hm_1836 hv_1872)
          have hv_2016 : hR S_1907 101 q_543 = (some q_548) := hf_1909.fr (mem_old hm_1827) (fun q9 => (fun e9 => absurd (((kd_nO (k := 5) hq_1902 hm_1827 hk_1828)).symm.trans ((congrArg (hK _) e9).trans (kd_nO' (k := 5)))) (by decide)) q9) (rd_nOR (k := 5) hq_1902 hm_1827 hv_1873)
          have hv_2017 : hR S_1907 102 q_543 = (some q_550) := hf_1909.fr (mem_old hm_1827) (fun q9 => (fun e9 => absurd (((kd_nO (k := 5) hq_1902 hm_1827 hk_1828)).symm.trans ((congrArg (hK _) e9).trans (kd_nO' (k := 5)))) (by decide)) q9) (rd_nOR (k := 5) hq_1902 hm_1827 hv_1874)
          have hv_2018 : hR S_1907 103 q_543 = (some q_552) := hf_1909.fr (mem_old hm_1827) (fun q9 => (fun e9 => absurd (((kd_nO (k := 5) hq_1902 hm_1827 hk_1828)).symm.trans ((congrArg (hK _) e9).trans (kd_nO' (k := 5)))) (by decide)) q9) (rd_nOR (k := 5) hq_1902 hm_1827 hv_1875)
          have hv_2019 : hR S_1907 104 q_543 = (some q_553) := hf_1909.fr (mem_old hm_1827) (fun q9 => (fun e9 => absurd (((kd_nO (k := 5) hq_1902 hm_1827 hk_1828)).symm.trans ((congrArg (hK _) e9).trans (kd_nO' (k := 5)))) (by decide)) q9) (rd_nOR (k := 5) hq_1902 hm_1827 hv_1876)
          have hv_2020 : hR S_1907 200 q_35 = (some q_40) := hf_1909.fr (mem_old hm_1805) (fun q9 => (fun e9 => absurd (((kd_nO (k := 5) hq_1902 hm_1805 hk_1806)).symm.trans ((congrArg (hK _) e9).trans (kd_nO' (k := 5)))) (by decide)) q9) (rd_nOR (k := 5) hq_1902 hm_1805 hv_1877)
          have hv_2021 : hR S_1907 201 q_35 = (some q_42) := hf_1909.fr (mem_old hm_1805) (fun q9 => (fun e9 => absurd (((kd_nO (k := 5) hq_1902 hm_1805 hk_1806)).symm.trans ((congrArg (hK _) e9).trans (kd_nO' (k := 5)))) (by decide)) q9) (rd_nOR (k := 5) hq_1902 hm_1805 hv_1878)
          have hv_2022 : hR S_1907 207 q_35 = (some q_43) := hf_1909.fr (mem_old hm_1805) (fun q9 => (fun e9 => absurd (((kd_nO (k := 5) hq_1902 hm_1805 hk_1806)).symm.trans ((congrArg (hK _) e9).trans (kd_nO' (k := 5)))) (by decide)) q9) (rd_nOR (k := 5) hq_1902 hm_1805 hv_1879)
          have hv_2023 : hR S_1907 407 q_548 = (some q_549) := hf_1909.fr (mem_old hm_1831) (fun q9 => (fun e9 => absurd (((kd_nO (k := 5) hq_1902 hm_1831 hk_1832)).symm.trans ((congrArg (hK _) e9).trans (kd_nO' (k := 5)))) (by decide)) q9) (rd_nOR (k := 5) hq_1902 hm_1831 hv_1880)
          have hv_2024 : hR S_1907 800 q_292 = (some q_297) := hf_1909.fr (mem_old hm_1800) (fun q9 => (fun e9 => absurd (((kd_nO (k := 5) hq_1902 hm_1800 hk_1801)).symm.trans ((congrArg (hK _) e9).trans (kd_nO' (k := 5)))) (by decide)) q9) (rd_nOR (k := 5) hq_1902 hm_1800 hv_1881)
          have hv_2025 : hR S_1907 800 q_40 = (some q_41) := hf_1909.fr (mem_old hm_1810) (fun q9 => (fun e9 => absurd (((kd_nO (k := 5) hq_1902 hm_1810 hk_1811)).symm.trans ((congrArg (hK _) e9).trans (kd_nO' (k := 5)))) (by decide)) q9) (rd_nOR (k := 5) hq_1902 hm_1810 hv_1882)
          have hv_2026 : hR S_1907 800 q_97 = (some q_102) := hf_1909.fr (mem_old hm_1858) (fun q9 => (fun e9 => absurd (((kd_nO (k := 5) hq_1902 hm_1858 hk_1859)).symm.trans ((congrArg (hK _) e9).trans (kd_nO' (k := 5)))) (by decide)) q9) (rd_nOR (k := 5) hq_1902 hm_1858 hv_1883)
          have hv_2027 : hR S_1907 900 h = (some s0) := hf_1909.fr (mem_old hm_1776) (fun q9 => (fun e9 => absurd (((kd_nO (k := 5) hq_1902 hm_1776 hk_1777)).symm.trans ((congrArg (hK _) e9).trans (kd_nO' (k := 5)))) (by decide)) q9) (rd_nOR (k := 5) hq_1902 hm_1776 hv_1884)
          have hv_2028 : hR S_1907 901 h = (some q_1) := hf_1909.fr (mem_old hm_1776) (fun q9 => (fun e9 => absurd (((kd_nO (k := 5) hq_1902 hm_1776 hk_1777)).symm.trans ((congrArg (hK _) e9).trans (kd_nO' (k := 5)))) (by decide)) q9) (rd_nOR (k := 5) hq_1902 hm_1776 hv_1885)
          have hv_2029 : hR S_1907 902 h = (some q_35) := hf_1909.fr (mem_old hm_1776) (fun q9 => (fun e9 => absurd (((kd_nO (k := 5) hq_1902 hm_1776 hk_1777)).symm.trans ((congrArg (hK _) e9).trans (kd_nO' (k := 5)))) (by decide)) q9) (rd_nOR (k := 5) hq_1902 hm_1776 hv_1886)
          have hv_2030 : hR S_1907 903 h = (some q_97) := hf_1909.fr (mem_old hm_1776) (fun q9 => (fun e9 => absurd (((kd_nO (k := 5) hq_1902 hm_1776 hk_1777)).symm.trans ((congrArg (hK _) e9).trans (kd_nO' (k := 5)))) (by decide)) q9) (rd_nOR (k := 5) hq_1902 hm_1776 hv_1887)
          have hv_2031 : hR S_1907 904 h = (some q_158) := hf_1909.fr (mem_old hm_1776) (fun q9 => (fun e9 => absurd (((kd_nO (k := 5) hq_1902 hm_1776 hk_1777)).symm.trans ((congrArg (hK _) e9).trans (kd_nO' (k := 5)))) (by decide)) q9) (rd_nOR (k := 5) hq_1902 hm_1776 hv_1888)
          have hv_2032 : hR S_1907 905 h = (some q_218) := hf_1909.fr (mem_old hm_1776) (fun q9 => (fun e9 => absurd (((kd_nO (k := 5) hq_1902 hm_1776 hk_1777)).symm.trans ((congrArg (hK _) e9).trans (kd_nO' (k := 5)))) (by decide)) q9) (rd_nOR (k := 5) hq_1902 hm_1776 hv_1889)
          have hv_2033 : hR S_1907 906 h = (some q_292) := hf_1909.fr (mem_old hm_1776) (fun q9 => (fun e9 => absurd (((kd_nO (k := 5) hq_1902 hm_1776 hk_1777)).symm.trans ((congrArg (hK _) e9).trans (kd_nO' (k := 5)))) (by decide)) q9) (rd_nOR (k := 5) hq_1902 hm_1776 hv_1890)
          have hv_2034 : hR S_1907 907 h = (some q_375) := hf_1909.fr (mem_old hm_1776) (fun q9 => (fun e9 => absurd (((kd_nO (k := 5) hq_1902 hm_1776 hk_1777)).symm.trans ((congrArg (hK _) e9).trans (kd_nO' (k := 5)))) (by decide)) q9) (rd_nOR (k := 5) hq_1902 hm_1776 hv_1891)
          have hv_2035 : hR S_1907 908 h = (some q_457) := hf_1909.fr (mem_old hm_1776) (fun q9 => (fun e9 => absurd (((kd_nO (k := 5) hq_1902 hm_1776 hk_1777)).symm.trans ((congrArg (hK _) e9).trans (kd_nO' (k := 5)))) (by decide)) q9) (rd_nOR (k := 5) hq_1902 hm_1776 hv_1892)
          have hv_2036 : hR S_1907 909 h = (some q_543) := hf_1909.fr (mem_old hm_1776) (fun q9 => (fun e9 => absurd (((kd_nO (k := 5) hq_1902 hm_1776 hk_1777)).symm.trans ((congrArg (hK _) e9).trans (kd_nO' (k := 5)))) (by decide)) q9) (rd_nOR (k := 5) hq_1902 hm_1776 hv_1893)
          have hv_2037 : hR S_1907 910 h = (some q_681) := hf_1909.fr (mem_old hm_1776) (fun q9 => (fun e9 => absurd (((kd_nO (k := 5) hq_1902 hm_1776 hk_1777)).symm.trans ((congrArg (hK _) e9).trans (kd_nO' (k := 5)))) (by decide)) q9) (rd_nOR (k := 5) hq_1902 hm_1776 hv_1894)
          have hv_2038 : hR S_1907 911 h = (some q_840) := hf_1909.fr (mem_old hm_1776) (fun q9 => (fun e9 => absurd (((kd_nO (k := 5) hq_1902 hm_1776 hk_1777)).symm.trans ((congrArg (hK _) e9).trans (kd_nO' (k := 5)))) (by decide)) q9) (rd_nOR (k := 5) hq_1902 hm_1776 hv_1895)
          have hv_2039 : hR S_1907 912 h = (some q_963) := hf_1909.fr (mem_old hm_1776) (fun q9 => (fun e9 => absurd (((kd_nO (k := 5) hq_1902 hm_1776 hk_1777)).symm.trans ((congrArg (hK _) e9).trans (kd_nO' (k := 5)))) (by decide)) q9) (rd_nOR (k := 5) hq_1902 hm_1776 hv_1896)
          have hv_2040 : hR S_1907 917 h = (some q_1090) := hf_1909.fr (mem_old hm_1776) (fun q9 => (fun e9 => absurd (((kd_nO (k := 5) hq_1902 hm_1776 hk_1777)).symm.trans ((congrArg (hK _) e9).trans (kd_nO' (k := 5)))) (by decide)) q9) (rd_nOR (k := 5) hq_1902 hm_1776 hv_1897)
          have hf_2041 : Fm (fun _ _ => False) (fun f9 b9 => b9 = h) (fun _ => False) S S_1907 := hf_1905.then hf_1909 (fun a9 ha9 => ⟨(fun f9 h9 => h9.elim), (fun f9 h9 => (fun h8 => absurd (h8 ▸ ha9) hz_1904) h9), (fun h9 => h9.elim)⟩)
          have hN_2042 : NL S [q_1, q_5, q_6, q_35, q_40, q_41, q_42, q_43, q_97, q_102, q_218, q_222, q_292, q_297, q_543, q_547, q_548, q_549, q_550, q_551, q_552, q_553, q_963, q_1090, q_1486] S_1907 := NL.mono (show NL S [q_1, q_5, q_6, q_35, q_40, q_41, q_42, q_43, q_97, q_102, q_218, q_222, q_292, q_297, q_543, q_547, q_548, q_549, q_550, q_551, q_552, q_553, q_963, q_1090, q_1486] (nO (tR S_1766 q_963 2 (some q_1760)) q_1901 5) from NL.oldO (NL.tR (S := S_1766) hN_1899)) (fun a9 h9 => hf_1909.mem h9)
          have hE_2043 : aR S_1907 q_963 0 = some q_1486 := (hf_1909.ar (mem_old hm_1855) (fun h9 => h9) 0).trans (rxA_nO (S := (tR S_1766 q_963 2 (some q_1760))) (rd_tRj (S := S_1766) (j := 2) (by decide) hE_1900))
          refine j_aast (j := 3) (ci := 5) C 19  (by decide) rfl dX9_init_219 hm_1998 hk_1999 (inr_of (n := 4) hn_2000 (vp_lit (by decide))) (by decide) hm_1936 hk_1937 rfl ?_
          refine j_iinc (q := 0) (v := 4) (lv' := [(2, .int 4), (0, .ref h), (1, .ref s0)]) C dX9_init_220 rfl (by decide) (by rw [hn9]; decide) rfl ?_
          refine j_goto (tgt := 198) C dX9_init_223 (by decide) ?_
          refine j_iload_n C dX9_init_198 rfl 0 rfl ?_
          refine j_aload_n C dX9_init_199 rfl 1 rfl ?_
          show J _ _ _ _ _ 200 _
          refine j_getr (f := 912) (v := q_963) C flX9_70 dX9_init_200 hm_1917 hk_1918 (by decide) rfl hv_2039 ?_
          refine j_alen (v := 4) C dX9_init_203 hm_1998 hk_1999 (by decide) (by decide) (len_of (n := 4) hn_2000 (by decide)) ?_
          refine j_ic_ge (tgt := 226) C dX9_init_204 (by decide) (fun c9 => ?_) (fun c9 => absurd (by decide) c9)
          refine j_aload_n C dX9_init_226 rfl 1 rfl ?_
          have hf_2046 : Fm (fun _ _ => False) (fun f9 b9 => b9 = h) (fun _ => False) S (tR S_1907 q_963 3 (some q_1901)) := (hf_2041.tR _ _ (fun h9 => absurd h9 hz_965))
          refine j_new (N := 13) C (ci := 5) rfl rfl klX9_68 knX5 kiX5 (M.cells (by omega)) (M.slots (by omega)) dX9_init_227 (fun q_2044 hq_2045 => ?_)
          have hz_2047 : q_2044 ∉ hL S := fun h9 => hq_2045 (hf_2046.mem h9)
          refine j_dup C dX9_init_230 rfl ?_
          have hf_2048 : Fm (fun _ _ => False) (fun f9 b9 => b9 = h) (fun _ => False) S (nO (tR S_1907 q_963 3 (some q_1901)) q_2044 5) := (hf_2046.nO _ hq_2045)
          refine j_callI C [] [.ref q_2044, .ref h] mlX9_81 mcX5_init (c_X5_init (nO (tR S_1907 q_963 3 (some q_1901)) q_2044 5) q_2044 mem_new (kd_nO' (k := 5))) (M.rm (by decide) (by decide) (by omega) (by omega)) rfl rfl (Nat.le_of_ble_eq_true rfl) dX9_init_231 (fun r_2049 S_2050 hp_2051 => ?_)
          obtain ⟨rfl, hf_2052⟩ := hp_2051
          refine J.eq (st' := [.ref q_2044, .ref h]) rfl rfl rfl ?_
          have hz_2053 : ∀ j, aI S_2050 q_102 j = 0 := fun j9 => (hf_2052.ai (mem_old hm_1921) (fun h9 => h9) j9).trans (hz_1910 j9)
          have hz_2054 : ∀ j, aI S_2050 q_1090 j = 0 := fun j9 => (hf_2052.ai (mem_old hm_1924) (fun h9 => h9) j9).trans (hz_1911 j9)
          have hz_2055 : ∀ j, aI S_2050 q_297 j = 0 := fun j9 => (hf_2052.ai (mem_old hm_1945) (fun h9 => h9) j9).trans (hz_1912 j9)
          have hz_2056 : ∀ j, aI S_2050 q_375 j = 0 := fun j9 => (hf_2052.ai (mem_old hm_1950) (fun h9 => h9) j9).trans (hz_1913 j9)
          have hz_2057 : ∀ j, aI S_2050 q_41 j = 0 := fun j9 => (hf_2052.ai (mem_old hm_1955) (fun h9 => h9) j9).trans (hz_1914 j9)
          have hz_2058 : ∀ j, aI S_2050 q_457 j = 0 := fun j9 => (hf_2052.ai (mem_old hm_1964) (fun h9 => h9) j9).trans (hz_1915 j9)
          have hz_2059 : ∀ j, aI S_2050 q_963 j = 0 := fun j9 => (hf_2052.ai (mem_old hm_1998) (fun h9 => h9) j9).trans (hz_1916 j9)
          have hm_2060 : h ∈ hL S_2050 := hf_2052.mem (mem_old hm_1917)
          have hk_2061 : Kd S_2050 h 9 := hf_2052.kd (mem_old hm_1917) (kd_nO (k := 5) hq_2045 hm_1917 hk_1918)
          have hm_2062 : q_1 ∈ hL S_2050 := hf_2052.mem (mem_old hm_1919)
          have hk_2063 : Kd S_2050 q_1 0 := hf_2052.kd (mem_old hm_1919) (kd_nO (k := 5) hq_2045 hm_1919 hk_1920)
          have hm_2064 : q_102 ∈ hL S_2050 := hf_2052.mem (mem_old hm_1921)
          have hk_2065 : Kd S_2050 q_102 14 := hf_2052.kd (mem_old hm_1921) (kd_nO (k := 5) hq_2045 hm_1921 hk_1922)
          have hn_2066 : Ln S_2050 q_102 16 := hf_2052.ln (mem_old hm_1921) hn_1923
          have hm_2067 : q_1090 ∈ hL S_2050 := hf_2052.mem (mem_old hm_1924)
          have hk_2068 : Kd S_2050 q_1090 14 := hf_2052.kd (mem_old hm_1924) (kd_nO (k := 5) hq_2045 hm_1924 hk_1925)
          have hn_2069 : Ln S_2050 q_1090 12 := hf_2052.ln (mem_old hm_1924) hn_1926
          have hm_2070 : q_1486 ∈ hL S_2050 := hf_2052.mem (mem_old hm_1927)
          have hk_2071 : Kd S_2050 q_1486 5 := hf_2052.kd (mem_old hm_1927) (kd_nO (k := 5) hq_2045 hm_1927 hk_1928)
          have hm_2072 : q_158 ∈ hL S_2050 := hf_2052.mem (mem_old hm_1929)
          have hk_2073 : Kd S_2050 q_158 20 := hf_2052.kd (mem_old hm_1929) (kd_nO (k := 5) hq_2045 hm_1929 hk_1930)
          have hn_2074 : Ln S_2050 q_158 16 := hf_2052.ln (mem_old hm_1929) hn_1931
          have hm_2075 : q_1621 ∈ hL S_2050 := hf_2052.mem (mem_old hm_1932)
          have hk_2076 : Kd S_2050 q_1621 5 := hf_2052.kd (mem_old hm_1932) (kd_nO (k := 5) hq_2045 hm_1932 hk_1933)
          have hm_2077 : q_1760 ∈ hL S_2050 := hf_2052.mem (mem_old hm_1934)
          have hk_2078 : Kd S_2050 q_1760 5 := hf_2052.kd (mem_old hm_1934) (kd_nO (k := 5) hq_2045 hm_1934 hk_1935)
          have hm_2079 : q_1901 ∈ hL S_2050 := hf_2052.mem (mem_old hm_1936)
          have hk_2080 : Kd S_2050 q_1901 5 := hf_2052.kd (mem_old hm_1936) (kd_nO (k := 5) hq_2045 hm_1936 hk_1937)
          have hm_2081 : q_2044 ∈ hL S_2050 := hf_2052.mem mem_new
          have hk_2082 : Kd S_2050 q_2044 5 := hf_2052.kd mem_new (kd_nO' (k := 5))
          have hm_2083 : q_218 ∈ hL S_2050 := hf_2052.mem (mem_old hm_1938)
          have hk_2084 : Kd S_2050 q_218 10 := hf_2052.kd (mem_old hm_1938) (kd_nO (k := 5) hq_2045 hm_1938 hk_1939)
          have hm_2085 : q_222 ∈ hL S_2050 := hf_2052.mem (mem_old hm_1940)
          have hk_2086 : Kd S_2050 q_222 15 := hf_2052.kd (mem_old hm_1940) (kd_nO (k := 5) hq_2045 hm_1940 hk_1941)
          have hn_2087 : Ln S_2050 q_222 16 := hf_2052.ln (mem_old hm_1940) hn_1942
          have hm_2088 : q_292 ∈ hL S_2050 := hf_2052.mem (mem_old hm_1943)
          have hk_2089 : Kd S_2050 q_292 8 := hf_2052.kd (mem_old hm_1943) (kd_nO (k := 5) hq_2045 hm_1943 hk_1944)
          have hm_2090 : q_297 ∈ hL S_2050 := hf_2052.mem (mem_old hm_1945)
          have hk_2091 : Kd S_2050 q_297 14 := hf_2052.kd (mem_old hm_1945) (kd_nO (k := 5) hq_2045 hm_1945 hk_1946)
          have hn_2092 : Ln S_2050 q_297 16 := hf_2052.ln (mem_old hm_1945) hn_1947
          have hm_2093 : q_35 ∈ hL S_2050 := hf_2052.mem (mem_old hm_1948)
          have hk_2094 : Kd S_2050 q_35 2 := hf_2052.kd (mem_old hm_1948) (kd_nO (k := 5) hq_2045 hm_1948 hk_1949)
          have hm_2095 : q_375 ∈ hL S_2050 := hf_2052.mem (mem_old hm_1950)
          have hk_2096 : Kd S_2050 q_375 13 := hf_2052.kd (mem_old hm_1950) (kd_nO (k := 5) hq_2045 hm_1950 hk_1951)
          have hn_2097 : Ln S_2050 q_375 24000 := hf_2052.ln (mem_old hm_1950) hn_1952
          have hm_2098 : q_40 ∈ hL S_2050 := hf_2052.mem (mem_old hm_1953)
          have hk_2099 : Kd S_2050 q_40 8 := hf_2052.kd (mem_old hm_1953) (kd_nO (k := 5) hq_2045 hm_1953 hk_1954)
          have hm_2100 : q_41 ∈ hL S_2050 := hf_2052.mem (mem_old hm_1955)
          have hk_2101 : Kd S_2050 q_41 14 := hf_2052.kd (mem_old hm_1955) (kd_nO (k := 5) hq_2045 hm_1955 hk_1956)
          have hn_2102 : Ln S_2050 q_41 16 := hf_2052.ln (mem_old hm_1955) hn_1957
          have hm_2103 : q_42 ∈ hL S_2050 := hf_2052.mem (mem_old hm_1958)
          have hk_2104 : Kd S_2050 q_42 14 := hf_2052.kd (mem_old hm_1958) (kd_nO (k := 5) hq_2045 hm_1958 hk_1959)
          have hn_2105 : Ln S_2050 q_42 119 := hf_2052.ln (mem_old hm_1958) hn_1960
          have hm_2106 : q_43 ∈ hL S_2050 := hf_2052.mem (mem_old hm_1961)
          have hk_2107 : Kd S_2050 q_43 14 := hf_2052.kd (mem_old hm_1961) (kd_nO (k := 5) hq_2045 hm_1961 hk_1962)
          have hn_2108 : Ln S_2050 q_43 8 := hf_2052.ln (mem_old hm_1961) hn_1963
          have hm_2109 : q_457 ∈ hL S_2050 := hf_2052.mem (mem_old hm_1964)
          have hk_2110 : Kd S_2050 q_457 14 := hf_2052.kd (mem_old hm_1964) (kd_nO (k := 5) hq_2045 hm_1964 hk_1965)
          have hn_2111 : Ln S_2050 q_457 16 := hf_2052.ln (mem_old hm_1964) hn_1966
          have hm_2112 : q_5 ∈ hL S_2050 := hf_2052.mem (mem_old hm_1967)
          have hk_2113 : Kd S_2050 q_5 14 := hf_2052.kd (mem_old hm_1967) (kd_nO (k := 5) hq_2045 hm_1967 hk_1968)
          have hn_2114 : Ln S_2050 q_5 20000 := hf_2052.ln (mem_old hm_1967) hn_1969
          have hm_2115 : q_543 ∈ hL S_2050 := hf_2052.mem (mem_old hm_1970)
          have hk_2116 : Kd S_2050 q_543 1 := hf_2052.kd (mem_old hm_1970) (kd_nO (k := 5) hq_2045 hm_1970 hk_1971)
          have hm_2117 : q_547 ∈ hL S_2050 := hf_2052.mem (mem_old hm_1972)
          have hk_2118 : Kd S_2050 q_547 7 := hf_2052.kd (mem_old hm_1972) (kd_nO (k := 5) hq_2045 hm_1972 hk_1973)
          have hm_2119 : q_548 ∈ hL S_2050 := hf_2052.mem (mem_old hm_1974)
          have hk_2120 : Kd S_2050 q_548 4 := hf_2052.kd (mem_old hm_1974) (kd_nO (k := 5) hq_2045 hm_1974 hk_1975)
          have hm_2121 : q_549 ∈ hL S_2050 := hf_2052.mem (mem_old hm_1976)
          have hk_2122 : Kd S_2050 q_549 14 := hf_2052.kd (mem_old hm_1976) (kd_nO (k := 5) hq_2045 hm_1976 hk_1977)
          have hn_2123 : Ln S_2050 q_549 20 := hf_2052.ln (mem_old hm_1976) hn_1978
          have hm_2124 : q_550 ∈ hL S_2050 := hf_2052.mem (mem_old hm_1979)
          have hk_2125 : Kd S_2050 q_550 10 := hf_2052.kd (mem_old hm_1979) (kd_nO (k := 5) hq_2045 hm_1979 hk_1980)
          have hm_2126 : q_551 ∈ hL S_2050 := hf_2052.mem (mem_old hm_1981)
          have hk_2127 : Kd S_2050 q_551 15 := hf_2052.kd (mem_old hm_1981) (kd_nO (k := 5) hq_2045 hm_1981 hk_1982)
          have hn_2128 : Ln S_2050 q_551 16 := hf_2052.ln (mem_old hm_1981) hn_1983
          have hm_2129 : q_552 ∈ hL S_2050 := hf_2052.mem (mem_old hm_1984)
          have hk_2130 : Kd S_2050 q_552 14 := hf_2052.kd (mem_old hm_1984) (kd_nO (k := 5) hq_2045 hm_1984 hk_1985)
          have hn_2131 : Ln S_2050 q_552 8 := hf_2052.ln (mem_old hm_1984) hn_1986
          have hm_2132 : q_553 ∈ hL S_2050 := hf_2052.mem (mem_old hm_1987)
          have hk_2133 : Kd S_2050 q_553 14 := hf_2052.kd (mem_old hm_1987) (kd_nO (k := 5) hq_2045 hm_1987 hk_1988)
          have hn_2134 : Ln S_2050 q_553 8 := hf_2052.ln (mem_old hm_1987) hn_1989
          have hm_2135 : q_6 ∈ hL S_2050 := hf_2052.mem (mem_old hm_1990)
          have hk_2136 : Kd S_2050 q_6 14 := hf_2052.kd (mem_old hm_1990) (kd_nO (k := 5) hq_2045 hm_1990 hk_1991)
          have hn_2137 : Ln S_2050 q_6 25 := hf_2052.ln (mem_old hm_1990) hn_1992
          have hm_2138 : q_681 ∈ hL S_2050 := hf_2052.mem (mem_old hm_1993)
          have hk_2139 : Kd S_2050 q_681 1 := hf_2052.kd (mem_old hm_1993) (kd_nO (k := 5) hq_2045 hm_1993 hk_1994)
          have hm_2140 : q_840 ∈ hL S_2050 := hf_2052.mem (mem_old hm_1995)
          have hk_2141 : Kd S_2050 q_840 18 := hf_2052.kd (mem_old hm_1995) (kd_nO (k := 5) hq_2045 hm_1995 hk_1996)
          have hn_2142 : Ln S_2050 q_840 3 := hf_2052.ln (mem_old hm_1995) hn_1997
          have hm_2143 : q_963 ∈ hL S_2050 := hf_2052.mem (mem_old hm_1998)
          have hk_2144 : Kd S_2050 q_963 19 := hf_2052.kd (mem_old hm_1998) (kd_nO (k := 5) hq_2045 hm_1998 hk_1999)
          have hn_2145 : Ln S_2050 q_963 4 := hf_2052.ln (mem_old hm_1998) hn_2000
          have hm_2146 : q_97 ∈ hL S_2050 := hf_2052.mem (mem_old hm_2001)
          have hk_2147 : Kd S_2050 q_97 8 := hf_2052.kd (mem_old hm_2001) (kd_nO (k := 5) hq_2045 hm_2001 hk_2002)
          have hv_2148 : hI S_2050 1000 q_218 = 1 := hf_2052.fi (mem_old hm_1938) (fun h9 => h9) (rd_nOI (k := 5) hq_2045 hm_1938 hv_2003)
          have hv_2149 : hI S_2050 1001 q_218 = 1 := hf_2052.fi (mem_old hm_1938) (fun h9 => h9) (rd_nOI (k := 5) hq_2045 hm_1938 hv_2004)
          have hv_2150 : hI S_2050 2 q_1 = 0 := hf_2052.fi (mem_old hm_1919) (fun h9 => h9) (rd_nOI (k := 5) hq_2045 hm_1919 hv_2005)
          have hv_2151 : hI S_2050 206 q_35 = 0 := hf_2052.fi (mem_old hm_1948) (fun h9 => h9) (rd_nOI (k := 5) hq_2045 hm_1948 hv_2006)
          have hv_2152 : hI S_2050 209 q_35 = 0 := hf_2052.fi (mem_old hm_1948) (fun h9 => h9) (rd_nOI (k := 5) hq_2045 hm_1948 hv_2007)
          have hv_2153 : hI S_2050 3 q_1 = 0 := hf_2052.fi (mem_old hm_1919) (fun h9 => h9) (rd_nOI (k := 5) hq_2045 hm_1919 hv_2008)
          have hv_2154 : hI S_2050 4 q_1 = 0 := hf_2052.fi (mem_old hm_1919) (fun h9 => h9) (rd_nOI (k := 5) hq_2045 hm_1919 hv_2009)
          have hv_2155 : hI S_2050 5 q_1 = 0 := hf_2052.fi (mem_old hm_1919) (fun h9 => h9) (rd_nOI (k := 5) hq_2045 hm_1919 hv_2010)
          have hv_2156 : hR S_2050 0 q_1 = (some q_5) := hf_2052.fr (mem_old hm_1919) (fun q9 => (fun e9 => absurd (((kd_nO (k := 5) hq_2045 hm_1919 hk_1920)).symm.trans ((congrArg (hK _) e9).trans (kd_nO' (k := 5)))) (by decide)) q9) (rd_nOR (k := 5) hq_2045 hm_1919 hv_2011)
          have hv_2157 : hR S_2050 1 q_1 = (some q_6) := hf_2052.fr (mem_old hm_1919) (fun q9 => (fun e9 => absurd (((kd_nO (k := 5) hq_2045 hm_1919 hk_1920)).symm.trans ((congrArg (hK _) e9).trans (kd_nO' (k := 5)))) (by decide)) q9) (rd_nOR (k := 5) hq_2045 hm_1919 hv_2012)
          have hv_2158 : hR S_2050 100 q_543 = (some q_547) := hf_2052.fr (mem_old hm_1970) (fun q9 => (fun e9 => absurd (((kd_nO (k := 5) hq_2045 hm_1970 hk_1971)).symm.trans ((congrArg (hK _) e9).trans (kd_nO' (k := 5)))) (by decide)) q9) (rd_nOR (k := 5) hq_2045 hm_1970 hv_2013)
          have hv_2159 : hR S_2050 1003 q_218 = (some q_222) := hf_2052.fr (mem_old hm_1938) (fun q9 => (fun e9 => absurd (((kd_nO (k := 5) hq_2045 hm_1938 hk_1939)).symm.trans ((congrArg (hK _) e9).trans (kd_nO' (k := 5)))) (by decide)) q9) (rd_nOR (k := 5) hq_2045 hm_1938 hv_2014)
          have hv_2160 : hR S_2050 1003 q_550 = (some q_551) := hf_2052.fr (mem_old hm_1979) (fun q9 => (fun e9 => absurd (((kd_nO (k := 5) hq_2045 hm_1979 hk_1980)).symm.trans ((congrArg (hK _) e9).trans (kd_nO' (k := 5)))) (by decide)) q9) (rd_nOR (k := 5) hq_2045 hm_1979 hv_2015)
          have hv_2161 : hR S_2050 101 q_543 = (some q_548) := hf_2052.fr (mem_old hm_1970) (fun q9 => (fun e9 => absurd (((kd_nO (k := 5) hq_2045 hm_1970 hk_1971)).symm.trans ((congrArg (hK _) e9).trans (kd_nO' (k := 5)))) (by decide)) q9) (rd_nOR (k := 5) hq_2045 hm_1970 hv_2016)
          have hv_2162 : hR S_2050 102 q_543 = (some q_550) := hf_2052.fr (mem_old hm_1970) (fun q9 => (fun e9 => absurd (((kd_nO (k := 5) hq_2045 hm_1970 hk_1971)).symm.trans ((congrArg (hK _) e9).trans (kd_nO' (k := 5)))) (by decide)) q9) (rd_nOR (k := 5) hq_2045 hm_1970 hv_2017)
          have hv_2163 : hR S_2050 103 q_543 = (some q_552) := hf_2052.fr (mem_old hm_1970) (fun q9 => (fun e9 => absurd (((kd_nO (k := 5) hq_2045 hm_1970 hk_1971)).symm.trans ((congrArg (hK _) e9).trans (kd_nO' (k := 5)))) (by decide)) q9) (rd_nOR (k := 5) hq_2045 hm_1970 hv_2018)
          have hv_2164 : hR S_2050 104 q_543 = (some q_553) := hf_2052.fr (mem_old hm_1970) (fun q9 => (fun e9 => absurd (((kd_nO (k := 5) hq_2045 hm_1970 hk_1971)).symm.trans ((congrArg (hK _) e9).trans (kd_nO' (k := 5)))) (by decide)) q9) (rd_nOR (k := 5) hq_2045 hm_1970 hv_2019)
          have hv_2165 : hR S_2050 200 q_35 = (some q_40) := hf_2052.fr (mem_old hm_1948) (fun q9 => (fun e9 => absurd (((kd_nO (k := 5) hq_2045 hm_1948 hk_1949)).symm.trans ((congrArg (hK _) e9).trans (kd_nO' (k := 5)))) (by decide)) q9) (rd_nOR (k := 5) hq_2045 hm_1948 hv_2020)
          have hv_2166 : hR S_2050 201 q_35 = (some q_42) := hf_2052.fr (mem_old hm_1948) (fun q9 => (fun e9 => absurd (((kd_nO (k := 5) hq_2045 hm_1948 hk_1949)).symm.trans ((congrArg (hK _) e9).trans (kd_nO' (k := 5)))) (by decide)) q9) (rd_nOR (k := 5) hq_2045 hm_1948 hv_2021)
          have hv_2167 : hR S_2050 207 q_35 = (some q_43) := hf_2052.fr (mem_old hm_1948) (fun q9 => (fun e9 => absurd (((kd_nO (k := 5) hq_2045 hm_1948 hk_1949)).symm.trans ((congrArg (hK _) e9).trans (kd_nO' (k := 5)))) (by decide)) q9) (rd_nOR (k := 5) hq_2045 hm_1948 hv_2022)
          have hv_2168 : hR S_2050 407 q_548 = (some q_549) := hf_2052.fr (mem_old hm_1974) (fun q9 => (fun e9 => absurd (((kd_nO (k := 5) hq_2045 hm_1974 hk_1975)).symm.trans ((congrArg (hK _) e9).trans (kd_nO' (k := 5)))) (by decide)) q9) (rd_nOR (k := 5) hq_2045 hm_1974 hv_2023)
          have hv_2169 : hR S_2050 800 q_292 = (some q_297) := hf_2052.fr (mem_old hm_1943) (fun q9 => (fun e9 => absurd (((kd_nO (k := 5) hq_2045 hm_1943 hk_1944)).symm.trans ((congrArg (hK _) e9).trans (kd_nO' (k := 5)))) (by decide)) q9) (rd_nOR (k := 5) hq_2045 hm_1943 hv_2024)
          have hv_2170 : hR S_2050 800 q_40 = (some q_41) := hf_2052.fr (mem_old hm_1953) (fun q9 => (fun e9 => absurd (((kd_nO (k := 5) hq_2045 hm_1953 hk_1954)).symm.trans ((congrArg (hK _) e9).trans (kd_nO' (k := 5)))) (by decide)) q9) (rd_nOR (k := 5) hq_2045 hm_1953 hv_2025)
          have hv_2171 : hR S_2050 800 q_97 = (some q_102) := hf_2052.fr (mem_old hm_2001) (fun q9 => (fun e9 => absurd (((kd_nO (k := 5) hq_2045 hm_2001 hk_2002)).symm.trans ((congrArg (hK _) e9).trans (kd_nO' (k := 5)))) (by decide)) q9) (rd_nOR (k := 5) hq_2045 hm_2001 hv_2026)
          have hv_2172 : hR S_2050 900 h = (some s0) := hf_2052.fr (mem_old hm_1917) (fun q9 => (fun e9 => absurd (((kd_nO (k := 5) hq_2045 hm_1917 hk_1918)).symm.trans ((congrArg (hK _) e9).trans (kd_nO' (k := 5)))) (by decide)) q9) (rd_nOR (k := 5) hq_2045 hm_1917 hv_2027)
          have hv_2173 : hR S_2050 901 h = (some q_1) := hf_2052.fr (mem_old hm_1917) (fun q9 => (fun e9 => absurd (((kd_nO (k := 5) hq_2045 hm_1917 hk_1918)).symm.trans ((congrArg (hK _) e9).trans (kd_nO' (k := 5)))) (by decide)) q9) (rd_nOR (k := 5) hq_2045 hm_1917 hv_2028)
          have hv_2174 : hR S_2050 902 h = (some q_35) := hf_2052.fr (mem_old hm_1917) (fun q9 => (fun e9 => absurd (((kd_nO (k := 5) hq_2045 hm_1917 hk_1918)).symm.trans ((congrArg (hK _) e9).trans (kd_nO' (k := 5)))) (by decide)) q9) (rd_nOR (k := 5) hq_2045 hm_1917 hv_2029)
          have hv_2175 : hR S_2050 903 h = (some q_97) := hf_2052.fr (mem_old hm_1917) (fun q9 => (fun e9 => absurd (((kd_nO (k := 5) hq_2045 hm_1917 hk_1918)).symm.trans ((congrArg (hK _) e9).trans (kd_nO' (k := 5)))) (by decide)) q9) (rd_nOR (k := 5) hq_2045 hm_1917 hv_2030)
          have hv_2176 : hR S_2050 904 h = (some q_158) := hf_2052.fr (mem_old hm_1917) (fun q9 => (fun e9 => absurd (((kd_nO (k := 5) hq_2045 hm_1917 hk_1918)).symm.trans ((congrArg (hK _) e9).trans (kd_nO' (k := 5)))) (by decide)) q9) (rd_nOR (k := 5) hq_2045 hm_1917 hv_2031)
          have hv_2177 : hR S_2050 905 h = (some q_218) := hf_2052.fr (mem_old hm_1917) (fun q9 => (fun e9 => absurd (((kd_nO (k := 5) hq_2045 hm_1917 hk_1918)).symm.trans ((congrArg (hK _) e9).trans (kd_nO' (k := 5)))) (by decide)) q9) (rd_nOR (k := 5) hq_2045 hm_1917 hv_2032)
          have hv_2178 : hR S_2050 906 h = (some q_292) := hf_2052.fr (mem_old hm_1917) (fun q9 => (fun e9 => absurd (((kd_nO (k := 5) hq_2045 hm_1917 hk_1918)).symm.trans ((congrArg (hK _) e9).trans (kd_nO' (k := 5)))) (by decide)) q9) (rd_nOR (k := 5) hq_2045 hm_1917 hv_2033)
          have hv_2179 : hR S_2050 907 h = (some q_375) := hf_2052.fr (mem_old hm_1917) (fun q9 => (fun e9 => absurd (((kd_nO (k := 5) hq_2045 hm_1917 hk_1918)).symm.trans ((congrArg (hK _) e9).trans (kd_nO' (k := 5)))) (by decide)) q9) (rd_nOR (k := 5) hq_2045 hm_1917 hv_2034)
          have hv_2180 : hR S_2050 908 h = (some q_457) := hf_2052.fr (mem_old hm_1917) (fun q9 => (fun e9 => absurd (((kd_nO (k := 5) hq_2045 hm_1917 hk_1918)).symm.trans ((congrArg (hK _) e9).trans (kd_nO' (k := 5)))) (by decide)) q9) (rd_nOR (k := 5) hq_2045 hm_1917 hv_2035)
          have hv_2181 : hR S_2050 909 h = (some q_543) := hf_2052.fr (mem_old hm_1917) (fun q9 => (fun e9 => absurd (((kd_nO (k := 5) hq_2045 hm_1917 hk_1918)).symm.trans ((congrArg (hK _) e9).trans (kd_nO' (k := 5)))) (by decide)) q9) (rd_nOR (k := 5) hq_2045 hm_1917 hv_2036)
          have hv_2182 : hR S_2050 910 h = (some q_681) := hf_2052.fr (mem_old hm_1917) (fun q9 => (fun e9 => absurd (((kd_nO (k := 5) hq_2045 hm_1917 hk_1918)).symm.trans ((congrArg (hK _) e9).trans (kd_nO' (k := 5)))) (by decide)) q9) (rd_nOR (k := 5) hq_2045 hm_1917 hv_2037)
          have hv_2183 : hR S_2050 911 h = (some q_840) := hf_2052.fr (mem_old hm_1917) (fun q9 => (fun e9 => absurd (((kd_nO (k := 5) hq_2045 hm_1917 hk_1918)).symm.trans ((congrArg (hK _) e9).trans (kd_nO' (k := 5)))) (by decide)) q9) (rd_nOR (k := 5) hq_2045 hm_1917 hv_2038)
          have hv_2184 : hR S_2050 912 h = (some q_963) := hf_2052.fr (mem_old hm_1917) (fun q9 => (fun e9 => absurd (((kd_nO (k := 5) hq_2045 hm_1917 hk_1918)).symm.trans ((congrArg (hK _) e9).trans (kd_nO' (k := 5)))) (by decide)) q9) (rd_nOR (k := 5) hq_2045 hm_1917 hv_2039)
          have hv_2185 : hR S_2050 917 h = (some q_1090) := hf_2052.fr (mem_old hm_1917) (fun q9 => (fun e9 => absurd (((kd_nO (k := 5) hq_2045 hm_1917 hk_1918)).symm.trans ((congrArg (hK _) e9).trans (kd_nO' (k := 5)))) (by decide)) q9) (rd_nOR (k := 5) hq_2045 hm_1917 hv_2040)
          have hf_2186 : Fm (fun _ _ => False) (fun f9 b9 => b9 = h) (fun _ => False) S S_2050 := hf_2048.then hf_2052 (fun a9 ha9 => ⟨(fun f9 h9 => h9.elim), (fun f9 h9 => (fun h8 => absurd (h8 ▸ ha9) hz_2047) h9), (fun h9 => h9.elim)⟩)
          have hN_2187 : NL S [q_1, q_5, q_6, q_35, q_40, q_41, q_42, q_43, q_97, q_102, q_218, q_222, q_292, q_297, q_543, q_547, q_548, q_549, q_550, q_551, q_552, q_553, q_963, q_1090, q_1486] S_2050 := NL.mono (show NL S [q_1, q_5, q_6, q_35, q_40, q_41, q_42, q_43, q_97, q_102, q_218, q_222, q_292, q_297, q_543, q_547, q_548, q_549, q_550, q_551, q_552, q_553, q_963, q_1090, q_1486] (nO (tR S_1907 q_963 3 (some q_1901)) q_2044 5) from NL.oldO (NL.tR (S := S_1907) hN_2042)) (fun a9 h9 => hf_2052.mem h9)
          have hE_2188 : aR S_2050 q_963 0 = some q_1486 := (hf_2052.ar (mem_old hm_1998) (fun h9 => h9) 0).trans (rxA_nO (S := (tR S_1907 q_963 3 (some q_1901))) (rd_tRj (S := S_1907) (j := 3) (by decide) hE_2043))
          refine j_putr (f := 913) C flX9_82 (by decide) rfl rfl dX9_init_234 hm_2060 hk_2061 rfl ?_
          show J _ _ _ _ _ 237 _
          exact j_vret C M dX9_init_237 (by omega) (by omega) ⟨rfl, (hf_2186.sR _ (fun _ => rfl)), (rd_sRf (S := S_2050) (g := 913) (a := h) (v := (some q_2044)) (by decide) hv_2172), q_1, q_5, q_6, q_35, q_40, q_41, q_42, q_43, q_97, q_102, q_218, q_222, q_292, q_297, q_543, q_547, q_548, q_549, q_550, q_551, q_552, q_553, q_963, q_1090, q_1486, hz_3, hm_2062, hk_2063, (rd_sRf (S := S_2050) (g := 913) (a := h) (v := (some q_2044)) (by decide) hv_2173), hz_32, hm_2112, hk_2113, hn_2114, (rd_sRf (S := S_2050) (g := 913) (a := h) (v := (some q_2044)) (by decide) hv_2156), hz_33, hm_2135, hk_2136, hn_2137, (rd_sRf (S := S_2050) (g := 913) (a := h) (v := (some q_2044)) (by decide) hv_2157), hz_38, hm_2093, hk_2094, (rd_sRf (S := S_2050) (g := 913) (a := h) (v := (some q_2044)) (by decide) hv_2174), hz_92, hm_2098, hk_2099, (rd_sRf (S := S_2050) (g := 913) (a := h) (v := (some q_2044)) (by decide) hv_2165), hz_93, hm_2100, hk_2101, hn_2102, (rd_sRf (S := S_2050) (g := 913) (a := h) (v := (some q_2044)) (by decide) hv_2170), hz_2057, hz_94, hm_2103, hk_2104, hn_2105, (rd_sRf (S := S_2050) (g := 913) (a := h) (v := (some q_2044)) (by decide) hv_2166), hz_95, hm_2106, hk_2107, hn_2108, (rd_sRf (S := S_2050) (g := 913) (a := h) (v := (some q_2044)) (by decide) hv_2167), hz_100, hm_2146, hk_2147, (rd_sRf (S := S_2050) (g := 913) (a := h) (v := (some q_2044)) (by decide) hv_2175), hz_156, hm_2064, hk_2065, hn_2066, (rd_sRf (S := S_2050) (g := 913) (a := h) (v := (some q_2044)) (by decide) hv_2171), hz_2053, hz_220, hm_2083, hk_2084, (rd_sRf (S := S_2050) (g := 913) (a := h) (v := (some q_2044)) (by decide) hv_2177), hz_290, hm_2085, hk_2086, hn_2087, (rd_sRf (S := S_2050) (g := 913) (a := h) (v := (some q_2044)) (by decide) hv_2159), hz_295, hm_2088, hk_2089, (rd_sRf (S := S_2050) (g := 913) (a := h) (v := (some q_2044)) (by decide) hv_2178), hz_373, hm_2090, hk_2091, hn_2092, (rd_sRf (S := S_2050) (g := 913) (a := h) (v := (some q_2044)) (by decide) hv_2169), hz_2055, hz_545, hm_2115, hk_2116, (rd_sRf (S := S_2050) (g := 913) (a := h) (v := (some q_2044)) (by decide) hv_2181), hz_673, hm_2117, hk_2118, (rd_sRf (S := S_2050) (g := 913) (a := h) (v := (some q_2044)) (by decide) hv_2158), hz_674, hm_2119, hk_2120, (rd_sRf (S := S_2050) (g := 913) (a := h) (v := (some q_2044)) (by decide) hv_2161), hz_675, hm_2121, hk_2122, hn_2123, (rd_sRf (S := S_2050) (g := 913) (a := h) (v := (some q_2044)) (by decide) hv_2168), hz_676, hm_2124, hk_2125, (rd_sRf (S := S_2050) (g := 913) (a := h) (v := (some q_2044)) (by decide) hv_2162), hz_677, hm_2126, hk_2127, hn_2128, (rd_sRf (S := S_2050) (g := 913) (a := h) (v := (some q_2044)) (by decide) hv_2160), hz_678, hm_2129, hk_2130, hn_2131, (rd_sRf (S := S_2050) (g := 913) (a := h) (v := (some q_2044)) (by decide) hv_2163), hz_679, hm_2132, hk_2133, hn_2134, (rd_sRf (S := S_2050) (g := 913) (a := h) (v := (some q_2044)) (by decide) hv_2164), hz_965, hm_2143, hk_2144, hn_2145, (rd_sRf (S := S_2050) (g := 913) (a := h) (v := (some q_2044)) (by decide) hv_2184), hz_1092, hm_2067, hk_2068, hn_2069, (rd_sRf (S := S_2050) (g := 913) (a := h) (v := (some q_2044)) (by decide) hv_2185), hz_1488, hm_2070, hk_2071, (rxA_sR (S := S_2050) hE_2188), hv_2152, (NL.sR (S := S_2050) hN_2187)⟩
        | succ m9 ih_1358 =>
          intro i2 S_1356  hi_1360 hl_1357 
          have hz_2189 : ∀ j, aI S_1356 q_102 j = 0 := fun j9 => (hl_1357.ai hm_1241 (fun q9 => (fun e9 => absurd ((hk_1242).symm.trans ((congrArg (hK _) e9).trans hk_1308)) (by decide)) q9) j9).trans (hz_1229 j9)
          have hz_2190 : ∀ j, aI S_1356 q_1090 j = 0 := fun j9 => (hl_1357.ai hm_1244 (fun q9 => (fun e9 => absurd ((hk_1245).symm.trans ((congrArg (hK _) e9).trans hk_1308)) (by decide)) q9) j9).trans (hz_1230 j9)
          have hz_2191 : ∀ j, aI S_1356 q_297 j = 0 := fun j9 => (hl_1357.ai hm_1257 (fun q9 => (fun e9 => absurd ((hk_1258).symm.trans ((congrArg (hK _) e9).trans hk_1308)) (by decide)) q9) j9).trans (hz_1231 j9)
          have hz_2192 : ∀ j, aI S_1356 q_375 j = 0 := fun j9 => (hl_1357.ai hm_1262 (fun q9 => (fun e9 => absurd ((hk_1263).symm.trans ((congrArg (hK _) e9).trans hk_1308)) (by decide)) q9) j9).trans (hz_1232 j9)
          have hz_2193 : ∀ j, aI S_1356 q_41 j = 0 := fun j9 => (hl_1357.ai hm_1267 (fun q9 => (fun e9 => absurd ((hk_1268).symm.trans ((congrArg (hK _) e9).trans hk_1308)) (by decide)) q9) j9).trans (hz_1233 j9)
          have hz_2194 : ∀ j, aI S_1356 q_457 j = 0 := fun j9 => (hl_1357.ai hm_1276 (fun q9 => (fun e9 => absurd ((hk_1277).symm.trans ((congrArg (hK _) e9).trans hk_1308)) (by decide)) q9) j9).trans (hz_1234 j9)
          have hz_2195 : ∀ j, aI S_1356 q_963 j = 0 := fun j9 => (hl_1357.ai hm_1310 (fun q9 => (fun e9 => absurd ((hk_1311).symm.trans ((congrArg (hK _) e9).trans hk_1308)) (by decide)) q9) j9).trans (hz_1236 j9)
          have hm_2196 : h ∈ hL S_1356 := hl_1357.mem hm_1237
          have hk_2197 : Kd S_1356 h 9 := hl_1357.kd hm_1237 hk_1238
          have hm_2198 : q_1 ∈ hL S_1356 := hl_1357.mem hm_1239
          have hk_2199 : Kd S_1356 q_1 0 := hl_1357.kd hm_1239 hk_1240
          have hm_2200 : q_102 ∈ hL S_1356 := hl_1357.mem hm_1241
          have hk_2201 : Kd S_1356 q_102 14 := hl_1357.kd hm_1241 hk_1242
          have hn_2202 : Ln S_1356 q_102 16 := hl_1357.ln hm_1241 hn_1243
          have hm_2203 : q_1090 ∈ hL S_1356 := hl_1357.mem hm_1244
          have hk_2204 : Kd S_1356 q_1090 14 := hl_1357.kd hm_1244 hk_1245
          have hn_2205 : Ln S_1356 q_1090 12 := hl_1357.ln hm_1244 hn_1246
          have hm_2206 : q_158 ∈ hL S_1356 := hl_1357.mem hm_1247
          have hk_2207 : Kd S_1356 q_158 20 := hl_1357.kd hm_1247 hk_1248
          have hn_2208 : Ln S_1356 q_158 16 := hl_1357.ln hm_1247 hn_1249
          have hm_2209 : q_218 ∈ hL S_1356 := hl_1357.mem hm_1250
          have hk_2210 : Kd S_1356 q_218 10 := hl_1357.kd hm_1250 hk_1251
          have hm_2211 : q_222 ∈ hL S_1356 := hl_1357.mem hm_1252
          have hk_2212 : Kd S_1356 q_222 15 := hl_1357.kd hm_1252 hk_1253
          have hn_2213 : Ln S_1356 q_222 16 := hl_1357.ln hm_1252 hn_1254
          have hm_2214 : q_292 ∈ hL S_1356 := hl_1357.mem hm_1255
          have hk_2215 : Kd S_1356 q_292 8 := hl_1357.kd hm_1255 hk_1256
          have hm_2216 : q_297 ∈ hL S_1356 := hl_1357.mem hm_1257
          have hk_2217 : Kd S_1356 q_297 14 := hl_1357.kd hm_1257 hk_1258
          have hn_2218 : Ln S_1356 q_297 16 := hl_1357.ln hm_1257 hn_1259
          have hm_2219 : q_35 ∈ hL S_1356 := hl_1357.mem hm_1260
          have hk_2220 : Kd S_1356 q_35 2 := hl_1357.kd hm_1260 hk_1261
          have hm_2221 : q_375 ∈ hL S_1356 := hl_1357.mem hm_1262
          have hk_2222 : Kd S_1356 q_375 13 := hl_1357.kd hm_1262 hk_1263
          have hn_2223 : Ln S_1356 q_375 24000 := hl_1357.ln hm_1262 hn_1264
          have hm_2224 : q_40 ∈ hL S_1356 := hl_1357.mem hm_1265
          have hk_2225 : Kd S_1356 q_40 8 := hl_1357.kd hm_1265 hk_1266
          have hm_2226 : q_41 ∈ hL S_1356 := hl_1357.mem hm_1267
          have hk_2227 : Kd S_1356 q_41 14 := hl_1357.kd hm_1267 hk_1268
          have hn_2228 : Ln S_1356 q_41 16 := hl_1357.ln hm_1267 hn_1269
          have hm_2229 : q_42 ∈ hL S_1356 := hl_1357.mem hm_1270
          have hk_2230 : Kd S_1356 q_42 14 := hl_1357.kd hm_1270 hk_1271
          have hn_2231 : Ln S_1356 q_42 119 := hl_1357.ln hm_1270 hn_1272
          have hm_2232 : q_43 ∈ hL S_1356 := hl_1357.mem hm_1273
          have hk_2233 : Kd S_1356 q_43 14 := hl_1357.kd hm_1273 hk_1274
          have hn_2234 : Ln S_1356 q_43 8 := hl_1357.ln hm_1273 hn_1275
          have hm_2235 : q_457 ∈ hL S_1356 := hl_1357.mem hm_1276
          have hk_2236 : Kd S_1356 q_457 14 := hl_1357.kd hm_1276 hk_1277
          have hn_2237 : Ln S_1356 q_457 16 := hl_1357.ln hm_1276 hn_1278
          have hm_2238 : q_5 ∈ hL S_1356 := hl_1357.mem hm_1279
          have hk_2239 : Kd S_1356 q_5 14 := hl_1357.kd hm_1279 hk_1280
          have hn_2240 : Ln S_1356 q_5 20000 := hl_1357.ln hm_1279 hn_1281
          have hm_2241 : q_543 ∈ hL S_1356 := hl_1357.mem hm_1282
          have hk_2242 : Kd S_1356 q_543 1 := hl_1357.kd hm_1282 hk_1283
          have hm_2243 : q_547 ∈ hL S_1356 := hl_1357.mem hm_1284
          have hk_2244 : Kd S_1356 q_547 7 := hl_1357.kd hm_1284 hk_1285
          have hm_2245 : q_548 ∈ hL S_1356 := hl_1357.mem hm_1286
          have hk_2246 : Kd S_1356 q_548 4 := hl_1357.kd hm_1286 hk_1287
          have hm_2247 : q_549 ∈ hL S_1356 := hl_1357.mem hm_1288
          have hk_2248 : Kd S_1356 q_549 14 := hl_1357.kd hm_1288 hk_1289
          have hn_2249 : Ln S_1356 q_549 20 := hl_1357.ln hm_1288 hn_1290
          have hm_2250 : q_550 ∈ hL S_1356 := hl_1357.mem hm_1291
          have hk_2251 : Kd S_1356 q_550 10 := hl_1357.kd hm_1291 hk_1292
          have hm_2252 : q_551 ∈ hL S_1356 := hl_1357.mem hm_1293
          have hk_2253 : Kd S_1356 q_551 15 := hl_1357.kd hm_1293 hk_1294
          have hn_2254 : Ln S_1356 q_551 16 := hl_1357.ln hm_1293 hn_1295
          have hm_2255 : q_552 ∈ hL S_1356 := hl_1357.mem hm_1296
          have hk_2256 : Kd S_1356 q_552 14 := hl_1357.kd hm_1296 hk_1297
          have hn_2257 : Ln S_1356 q_552 8 := hl_1357.ln hm_1296 hn_1298
          have hm_2258 : q_553 ∈ hL S_1356 := hl_1357.mem hm_1299
          have hk_2259 : Kd S_1356 q_553 14 := hl_1357.kd hm_1299 hk_1300
          have hn_2260 : Ln S_1356 q_553 8 := hl_1357.ln hm_1299 hn_1301
          have hm_2261 : q_6 ∈ hL S_1356 := hl_1357.mem hm_1302
          have hk_2262 : Kd S_1356 q_6 14 := hl_1357.kd hm_1302 hk_1303
          have hn_2263 : Ln S_1356 q_6 25 := hl_1357.ln hm_1302 hn_1304
          have hm_2264 : q_681 ∈ hL S_1356 := hl_1357.mem hm_1305
          have hk_2265 : Kd S_1356 q_681 1 := hl_1357.kd hm_1305 hk_1306
          have hm_2266 : q_840 ∈ hL S_1356 := hl_1357.mem hm_1307
          have hk_2267 : Kd S_1356 q_840 18 := hl_1357.kd hm_1307 hk_1308
          have hn_2268 : Ln S_1356 q_840 3 := hl_1357.ln hm_1307 hn_1309
          have hm_2269 : q_963 ∈ hL S_1356 := hl_1357.mem hm_1310
          have hk_2270 : Kd S_1356 q_963 19 := hl_1357.kd hm_1310 hk_1311
          have hn_2271 : Ln S_1356 q_963 4 := hl_1357.ln hm_1310 hn_1312
          have hm_2272 : q_97 ∈ hL S_1356 := hl_1357.mem hm_1313
          have hk_2273 : Kd S_1356 q_97 8 := hl_1357.kd hm_1313 hk_1314
          have hv_2274 : hI S_1356 1000 q_218 = 1 := hl_1357.fi hm_1250 (fun h9 => h9) hv_1315
          have hv_2275 : hI S_1356 1001 q_218 = 1 := hl_1357.fi hm_1250 (fun h9 => h9) hv_1316
          have hv_2276 : hI S_1356 2 q_1 = 0 := hl_1357.fi hm_1239 (fun h9 => h9) hv_1317
          have hv_2277 : hI S_1356 206 q_35 = 0 := hl_1357.fi hm_1260 (fun h9 => h9) hv_1318
          have hv_2278 : hI S_1356 209 q_35 = 0 := hl_1357.fi hm_1260 (fun h9 => h9) hv_1319
          have hv_2279 : hI S_1356 3 q_1 = 0 := hl_1357.fi hm_1239 (fun h9 => h9) hv_1320
          have hv_2280 : hI S_1356 4 q_1 = 0 := hl_1357.fi hm_1239 (fun h9 => h9) hv_1321
          have hv_2281 : hI S_1356 5 q_1 = 0 := hl_1357.fi hm_1239 (fun h9 => h9) hv_1322
          have hv_2282 : hR S_1356 0 q_1 = (some q_5) := hl_1357.fr hm_1239 (fun h9 => h9) hv_1323
          have hv_2283 : hR S_1356 1 q_1 = (some q_6) := hl_1357.fr hm_1239 (fun h9 => h9) hv_1324
          have hv_2284 : hR S_1356 100 q_543 = (some q_547) := hl_1357.fr hm_1282 (fun h9 => h9) hv_1325
          have hv_2285 : hR S_1356 1003 q_218 = (some q_222) := hl_1357.fr hm_1250 (fun h9 => h9) hv_1326
          have hv_2286 : hR S_1356 1003 q_550 = (some q_551) := hl_1357.fr hm_1291 (fun h9 => h9) hv_1327
          have hv_2287 : hR S_1356 101 q_543 = (some q_548) := hl_1357.fr hm_1282 (fun h9 => h9) hv_1328
          have hv_2288 : hR S_1356 102 q_543 = (some q_550) := hl_1357.fr hm_1282 (fun h9 => h9) hv_1329
          have hv_2289 : hR S_1356 103 q_543 = (some q_552) := hl_1357.fr hm_1282 (fun h9 => h9) hv_1330
          have hv_2290 : hR S_1356 104 q_543 = (some q_553) := hl_1357.fr hm_1282 (fun h9 => h9) hv_1331
          have hv_2291 : hR S_1356 200 q_35 = (some q_40) := hl_1357.fr hm_1260 (fun h9 => h9) hv_1332
          have hv_2292 : hR S_1356 201 q_35 = (some q_42) := hl_1357.fr hm_1260 (fun h9 => h9) hv_1333
          have hv_2293 : hR S_1356 207 q_35 = (some q_43) := hl_1357.fr hm_1260 (fun h9 => h9) hv_1334
          have hv_2294 : hR S_1356 407 q_548 = (some q_549) := hl_1357.fr hm_1286 (fun h9 => h9) hv_1335
          have hv_2295 : hR S_1356 800 q_292 = (some q_297) := hl_1357.fr hm_1255 (fun h9 => h9) hv_1336
          have hv_2296 : hR S_1356 800 q_40 = (some q_41) := hl_1357.fr hm_1265 (fun h9 => h9) hv_1337
          have hv_2297 : hR S_1356 800 q_97 = (some q_102) := hl_1357.fr hm_1313 (fun h9 => h9) hv_1338
          have hv_2298 : hR S_1356 900 h = (some s0) := hl_1357.fr hm_1237 (fun h9 => h9) hv_1339
          have hv_2299 : hR S_1356 901 h = (some q_1) := hl_1357.fr hm_1237 (fun h9 => h9) hv_1340
          have hv_2300 : hR S_1356 902 h = (some q_35) := hl_1357.fr hm_1237 (fun h9 => h9) hv_1341
          have hv_2301 : hR S_1356 903 h = (some q_97) := hl_1357.fr hm_1237 (fun h9 => h9) hv_1342
          have hv_2302 : hR S_1356 904 h = (some q_158) := hl_1357.fr hm_1237 (fun h9 => h9) hv_1343
          have hv_2303 : hR S_1356 905 h = (some q_218) := hl_1357.fr hm_1237 (fun h9 => h9) hv_1344
          have hv_2304 : hR S_1356 906 h = (some q_292) := hl_1357.fr hm_1237 (fun h9 => h9) hv_1345
          have hv_2305 : hR S_1356 907 h = (some q_375) := hl_1357.fr hm_1237 (fun h9 => h9) hv_1346
          have hv_2306 : hR S_1356 908 h = (some q_457) := hl_1357.fr hm_1237 (fun h9 => h9) hv_1347
          have hv_2307 : hR S_1356 909 h = (some q_543) := hl_1357.fr hm_1237 (fun h9 => h9) hv_1348
          have hv_2308 : hR S_1356 910 h = (some q_681) := hl_1357.fr hm_1237 (fun h9 => h9) hv_1349
          have hv_2309 : hR S_1356 911 h = (some q_840) := hl_1357.fr hm_1237 (fun h9 => h9) hv_1350
          have hv_2310 : hR S_1356 912 h = (some q_963) := hl_1357.fr hm_1237 (fun h9 => h9) hv_1351
          have hv_2311 : hR S_1356 917 h = (some q_1090) := hl_1357.fr hm_1237 (fun h9 => h9) hv_1352
          have hf_2312 : Fm (fun _ _ => False) (fun f9 b9 => b9 = h) (fun _ => False) S S_1356 := hf_1353.then hl_1357 (fun a9 ha9 => ⟨(fun f9 h9 => h9.elim), (fun f9 h9 => h9.elim), (fun h9 => (fun h8 => absurd (h8 ▸ ha9) hz_843) h9)⟩)
          have hN_2313 : NL S [q_1, q_5, q_6, q_35, q_40, q_41, q_42, q_43, q_97, q_102, q_218, q_222, q_292, q_297, q_543, q_547, q_548, q_549, q_550, q_551, q_552, q_553, q_963, q_1090] S_1356 := NL.mono hN_1354 (fun a9 h9 => hl_1357.mem h9)
          refine j_iload_n C dX9_init_168 rfl 0 rfl ?_
          refine j_aload_n C dX9_init_169 rfl 1 rfl ?_
          refine j_getr (f := 911) (v := q_840) C flX9_64 dX9_init_170 hm_2196 hk_2197 (by decide) rfl hv_2309 ?_
          refine j_alen (v := 3) C dX9_init_173 hm_2266 hk_2267 (by decide) (by decide) (len_of (n := 3) hn_2268 (by decide)) ?_
          refine j_ic_ge (tgt := 196) C dX9_init_174 (by decide) (fun c_174 => absurd c_174 (nI_ge (b := 3) (by omega) (by omega))) (fun c_174 => ?_)
          refine j_aload_n C dX9_init_177 rfl 1 rfl ?_
          refine j_getr (f := 911) (v := q_840) C flX9_64 dX9_init_178 hm_2196 hk_2197 (by decide) rfl hv_2309 ?_
          refine j_iload_n C dX9_init_181 rfl 0 rfl ?_
          refine j_new (N := 21) C (ci := 1) rfl rfl klX9_54 knX1 kiX1 (M.cells (by omega)) (M.slots (by omega)) dX9_init_182 (fun q_2314 hq_2315 => ?_)
          have hz_2316 : q_2314 ∉ hL S := fun h9 => hq_2315 (hf_2312.mem h9)
          have hz_2317 : q_2314 ∉ hL S_1224 := fun h9 => hq_2315 (hl_1357.mem h9)
          show J _ _ _ _ _ 185 _
          refine j_dup C dX9_init_185 rfl ?_
          have hf_2318 : Fm (fun _ _ => False) (fun f9 b9 => b9 = h) (fun _ => False) S (nO S_1356 q_2314 1) := (hf_2312.nO _ hq_2315)
          have hf_2319 : Fm (fun _ _ => False) (fun _ _ => False) (fun b9 => b9 = q_840) S_1224 (nO S_1356 q_2314 1) := (hl_1357.nO _ hq_2315)
          refine j_callI C [] [.ref q_2314, .int (nI i2), .ref q_840] mlX9_56 mcX1_init (c_X1_init (nO S_1356 q_2314 1) q_2314 mem_new (kd_nO' (k := 1))) (M.rm (by decide) (by decide) (by omega) (by omega)) rfl rfl (Nat.le_of_ble_eq_true rfl) dX9_init_186 (fun r_2360 S_2361 hp_2362 => ?_)
          obtain ⟨rfl, hf_2363, q_2320, q_2321, q_2322, q_2323, q_2324, q_2325, q_2326, e_2327, e_2328, e_2329, e_2330, e_2331, e_2332, e_2333, e_2334, e_2335, e_2336, e_2337, e_2338, e_2339, e_2340, e_2341, e_2342, e_2343, e_2344, e_2345, e_2346, e_2347, e_2348, e_2349, e_2350, e_2351, e_2352, e_2353, e_2354, e_2355, e_2356, e_2357, e_2358, hNl_2359⟩ := hp_2362
          refine J.eq (st' := [.ref q_2314, .int (nI i2), .ref q_840]) rfl rfl rfl ?_
          have hz_2364 : ∀ j, aI S_2361 q_102 j = 0 := fun j9 => (hf_2363.ai (mem_old hm_2200) (fun h9 => h9) j9).trans (hz_2189 j9)
          have hz_2365 : ∀ j, aI S_2361 q_1090 j = 0 := fun j9 => (hf_2363.ai (mem_old hm_2203) (fun h9 => h9) j9).trans (hz_2190 j9)
          have hz_2366 : ∀ j, aI S_2361 q_297 j = 0 := fun j9 => (hf_2363.ai (mem_old hm_2216) (fun h9 => h9) j9).trans (hz_2191 j9)
          have hz_2367 : ∀ j, aI S_2361 q_375 j = 0 := fun j9 => (hf_2363.ai (mem_old hm_2221) (fun h9 => h9) j9).trans (hz_2192 j9)
          have hz_2368 : ∀ j, aI S_2361 q_41 j = 0 := fun j9 => (hf_2363.ai (mem_old hm_2226) (fun h9 => h9) j9).trans (hz_2193 j9)
          have hz_2369 : ∀ j, aI S_2361 q_457 j = 0 := fun j9 => (hf_2363.ai (mem_old hm_2235) (fun h9 => h9) j9).trans (hz_2194 j9)
          have hz_2370 : ∀ j, aI S_2361 q_963 j = 0 := fun j9 => (hf_2363.ai (mem_old hm_2269) (fun h9 => h9) j9).trans (hz_2195 j9)
          have hm_2371 : h ∈ hL S_2361 := hf_2363.mem (mem_old hm_2196)
          have hk_2372 : Kd S_2361 h 9 := hf_2363.kd (mem_old hm_2196) (kd_nO (k := 1) hq_2315 hm_2196 hk_2197)
          have hm_2373 : q_1 ∈ hL S_2361 := hf_2363.mem (mem_old hm_2198)
          have hk_2374 : Kd S_2361 q_1 0 := hf_2363.kd (mem_old hm_2198) (kd_nO (k := 1) hq_2315 hm_2198 hk_2199)
          have hm_2375 : q_102 ∈ hL S_2361 := hf_2363.mem (mem_old hm_2200)
          have hk_2376 : Kd S_2361 q_102 14 := hf_2363.kd (mem_old hm_2200) (kd_nO (k := 1) hq_2315 hm_2200 hk_2201)
          have hn_2377 : Ln S_2361 q_102 16 := hf_2363.ln (mem_old hm_2200) hn_2202
          have hm_2378 : q_1090 ∈ hL S_2361 := hf_2363.mem (mem_old hm_2203)
          have hk_2379 : Kd S_2361 q_1090 14 := hf_2363.kd (mem_old hm_2203) (kd_nO (k := 1) hq_2315 hm_2203 hk_2204)
          have hn_2380 : Ln S_2361 q_1090 12 := hf_2363.ln (mem_old hm_2203) hn_2205
          have hm_2381 : q_158 ∈ hL S_2361 := hf_2363.mem (mem_old hm_2206)
          have hk_2382 : Kd S_2361 q_158 20 := hf_2363.kd (mem_old hm_2206) (kd_nO (k := 1) hq_2315 hm_2206 hk_2207)
          have hn_2383 : Ln S_2361 q_158 16 := hf_2363.ln (mem_old hm_2206) hn_2208
          have hm_2384 : q_218 ∈ hL S_2361 := hf_2363.mem (mem_old hm_2209)
          have hk_2385 : Kd S_2361 q_218 10 := hf_2363.kd (mem_old hm_2209) (kd_nO (k := 1) hq_2315 hm_2209 hk_2210)
          have hm_2386 : q_222 ∈ hL S_2361 := hf_2363.mem (mem_old hm_2211)
          have hk_2387 : Kd S_2361 q_222 15 := hf_2363.kd (mem_old hm_2211) (kd_nO (k := 1) hq_2315 hm_2211 hk_2212)
          have hn_2388 : Ln S_2361 q_222 16 := hf_2363.ln (mem_old hm_2211) hn_2213
          have hm_2389 : q_2314 ∈ hL S_2361 := hf_2363.mem mem_new
          have hk_2390 : Kd S_2361 q_2314 1 := hf_2363.kd mem_new (kd_nO' (k := 1))
          have hm_2391 : q_292 ∈ hL S_2361 := hf_2363.mem (mem_old hm_2214)
          have hk_2392 : Kd S_2361 q_292 8 := hf_2363.kd (mem_old hm_2214) (kd_nO (k := 1) hq_2315 hm_2214 hk_2215)
          have hm_2393 : q_297 ∈ hL S_2361 := hf_2363.mem (mem_old hm_2216)
          have hk_2394 : Kd S_2361 q_297 14 := hf_2363.kd (mem_old hm_2216) (kd_nO (k := 1) hq_2315 hm_2216 hk_2217)
          have hn_2395 : Ln S_2361 q_297 16 := hf_2363.ln (mem_old hm_2216) hn_2218
          have hm_2396 : q_35 ∈ hL S_2361 := hf_2363.mem (mem_old hm_2219)
          have hk_2397 : Kd S_2361 q_35 2 := hf_2363.kd (mem_old hm_2219) (kd_nO (k := 1) hq_2315 hm_2219 hk_2220)
          have hm_2398 : q_375 ∈ hL S_2361 := hf_2363.mem (mem_old hm_2221)
          have hk_2399 : Kd S_2361 q_375 13 := hf_2363.kd (mem_old hm_2221) (kd_nO (k := 1) hq_2315 hm_2221 hk_2222)
          have hn_2400 : Ln S_2361 q_375 24000 := hf_2363.ln (mem_old hm_2221) hn_2223
          have hm_2401 : q_40 ∈ hL S_2361 := hf_2363.mem (mem_old hm_2224)
          have hk_2402 : Kd S_2361 q_40 8 := hf_2363.kd (mem_old hm_2224) (kd_nO (k := 1) hq_2315 hm_2224 hk_2225)
          have hm_2403 : q_41 ∈ hL S_2361 := hf_2363.mem (mem_old hm_2226)
          have hk_2404 : Kd S_2361 q_41 14 := hf_2363.kd (mem_old hm_2226) (kd_nO (k := 1) hq_2315 hm_2226 hk_2227)
          have hn_2405 : Ln S_2361 q_41 16 := hf_2363.ln (mem_old hm_2226) hn_2228
          have hm_2406 : q_42 ∈ hL S_2361 := hf_2363.mem (mem_old hm_2229)
          have hk_2407 : Kd S_2361 q_42 14 := hf_2363.kd (mem_old hm_2229) (kd_nO (k := 1) hq_2315 hm_2229 hk_2230)
          have hn_2408 : Ln S_2361 q_42 119 := hf_2363.ln (mem_old hm_2229) hn_2231
          have hm_2409 : q_43 ∈ hL S_2361 := hf_2363.mem (mem_old hm_2232)
          have hk_2410 : Kd S_2361 q_43 14 := hf_2363.kd (mem_old hm_2232) (kd_nO (k := 1) hq_2315 hm_2232 hk_2233)
          have hn_2411 : Ln S_2361 q_43 8 := hf_2363.ln (mem_old hm_2232) hn_2234
          have hm_2412 : q_457 ∈ hL S_2361 := hf_2363.mem (mem_old hm_2235)
          have hk_2413 : Kd S_2361 q_457 14 := hf_2363.kd (mem_old hm_2235) (kd_nO (k := 1) hq_2315 hm_2235 hk_2236)
          have hn_2414 : Ln S_2361 q_457 16 := hf_2363.ln (mem_old hm_2235) hn_2237
          have hm_2415 : q_5 ∈ hL S_2361 := hf_2363.mem (mem_old hm_2238)
          have hk_2416 : Kd S_2361 q_5 14 := hf_2363.kd (mem_old hm_2238) (kd_nO (k := 1) hq_2315 hm_2238 hk_2239)
          have hn_2417 : Ln S_2361 q_5 20000 := hf_2363.ln (mem_old hm_2238) hn_2240
          have hm_2418 : q_543 ∈ hL S_2361 := hf_2363.mem (mem_old hm_2241)
          have hk_2419 : Kd S_2361 q_543 1 := hf_2363.kd (mem_old hm_2241) (kd_nO (k := 1) hq_2315 hm_2241 hk_2242)
          have hm_2420 : q_547 ∈ hL S_2361 := hf_2363.mem (mem_old hm_2243)
          have hk_2421 : Kd S_2361 q_547 7 := hf_2363.kd (mem_old hm_2243) (kd_nO (k := 1) hq_2315 hm_2243 hk_2244)
          have hm_2422 : q_548 ∈ hL S_2361 := hf_2363.mem (mem_old hm_2245)
          have hk_2423 : Kd S_2361 q_548 4 := hf_2363.kd (mem_old hm_2245) (kd_nO (k := 1) hq_2315 hm_2245 hk_2246)
          have hm_2424 : q_549 ∈ hL S_2361 := hf_2363.mem (mem_old hm_2247)
          have hk_2425 : Kd S_2361 q_549 14 := hf_2363.kd (mem_old hm_2247) (kd_nO (k := 1) hq_2315 hm_2247 hk_2248)
          have hn_2426 : Ln S_2361 q_549 20 := hf_2363.ln (mem_old hm_2247) hn_2249
          have hm_2427 : q_550 ∈ hL S_2361 := hf_2363.mem (mem_old hm_2250)
          have hk_2428 : Kd S_2361 q_550 10 := hf_2363.kd (mem_old hm_2250) (kd_nO (k := 1) hq_2315 hm_2250 hk_2251)
          have hm_2429 : q_551 ∈ hL S_2361 := hf_2363.mem (mem_old hm_2252)
          have hk_2430 : Kd S_2361 q_551 15 := hf_2363.kd (mem_old hm_2252) (kd_nO (k := 1) hq_2315 hm_2252 hk_2253)
          have hn_2431 : Ln S_2361 q_551 16 := hf_2363.ln (mem_old hm_2252) hn_2254
          have hm_2432 : q_552 ∈ hL S_2361 := hf_2363.mem (mem_old hm_2255)
          have hk_2433 : Kd S_2361 q_552 14 := hf_2363.kd (mem_old hm_2255) (kd_nO (k := 1) hq_2315 hm_2255 hk_2256)
          have hn_2434 : Ln S_2361 q_552 8 := hf_2363.ln (mem_old hm_2255) hn_2257
          have hm_2435 : q_553 ∈ hL S_2361 := hf_2363.mem (mem_old hm_2258)
          have hk_2436 : Kd S_2361 q_553 14 := hf_2363.kd (mem_old hm_2258) (kd_nO (k := 1) hq_2315 hm_2258 hk_2259)
          have hn_2437 : Ln S_2361 q_553 8 := hf_2363.ln (mem_old hm_2258) hn_2260
          have hm_2438 : q_6 ∈ hL S_2361 := hf_2363.mem (mem_old hm_2261)
          have hk_2439 : Kd S_2361 q_6 14 := hf_2363.kd (mem_old hm_2261) (kd_nO (k := 1) hq_2315 hm_2261 hk_2262)
          have hn_2440 : Ln S_2361 q_6 25 := hf_2363.ln (mem_old hm_2261) hn_2263
          have hm_2441 : q_681 ∈ hL S_2361 := hf_2363.mem (mem_old hm_2264)
          have hk_2442 : Kd S_2361 q_681 1 := hf_2363.kd (mem_old hm_2264) (kd_nO (k := 1) hq_2315 hm_2264 hk_2265)
          have hm_2443 : q_840 ∈ hL S_2361 := hf_2363.mem (mem_old hm_2266)
          have hk_2444 : Kd S_2361 q_840 18 := hf_2363.kd (mem_old hm_2266) (kd_nO (k := 1) hq_2315 hm_2266 hk_2267)
          have hn_2445 : Ln S_2361 q_840 3 := hf_2363.ln (mem_old hm_2266) hn_2268
          have hm_2446 : q_963 ∈ hL S_2361 := hf_2363.mem (mem_old hm_2269)
          have hk_2447 : Kd S_2361 q_963 19 := hf_2363.kd (mem_old hm_2269) (kd_nO (k := 1) hq_2315 hm_2269 hk_2270)
          have hn_2448 : Ln S_2361 q_963 4 := hf_2363.ln (mem_old hm_2269) hn_2271
          have hm_2449 : q_97 ∈ hL S_2361 := hf_2363.mem (mem_old hm_2272)
          have hk_2450 : Kd S_2361 q_97 8 := hf_2363.kd (mem_old hm_2272) (kd_nO (k := 1) hq_2315 hm_2272 hk_2273)
          have hv_2451 : hI S_2361 1000 q_218 = 1 := hf_2363.fi (mem_old hm_2209) (fun h9 => h9) (rd_nOI (k := 1) hq_2315 hm_2209 hv_2274)
          have hv_2452 : hI S_2361 1001 q_218 = 1 := hf_2363.fi (mem_old hm_2209) (fun h9 => h9) (rd_nOI (k := 1) hq_2315 hm_2209 hv_2275)
          have hv_2453 : hI S_2361 2 q_1 = 0 := hf_2363.fi (mem_old hm_2198) (fun h9 => h9) (rd_nOI (k := 1) hq_2315 hm_2198 hv_2276)
          have hv_2454 : hI S_2361 206 q_35 = 0 := hf_2363.fi (mem_old hm_2219) (fun h9 => h9) (rd_nOI (k := 1) hq_2315 hm_2219 hv_2277)
          have hv_2455 : hI S_2361 209 q_35 = 0 := hf_2363.fi (mem_old hm_2219) (fun h9 => h9) (rd_nOI (k := 1) hq_2315 hm_2219 hv_2278)
          have hv_2456 : hI S_2361 3 q_1 = 0 := hf_2363.fi (mem_old hm_2198) (fun h9 => h9) (rd_nOI (k := 1) hq_2315 hm_2198 hv_2279)
          have hv_2457 : hI S_2361 4 q_1 = 0 := hf_2363.fi (mem_old hm_2198) (fun h9 => h9) (rd_nOI (k := 1) hq_2315 hm_2198 hv_2280)
          have hv_2458 : hI S_2361 5 q_1 = 0 := hf_2363.fi (mem_old hm_2198) (fun h9 => h9) (rd_nOI (k := 1) hq_2315 hm_2198 hv_2281)
          have hv_2459 : hR S_2361 0 q_1 = (some q_5) := hf_2363.fr (mem_old hm_2198) (fun q9 => (fun e9 => absurd (((kd_nO (k := 1) hq_2315 hm_2198 hk_2199)).symm.trans ((congrArg (hK _) e9).trans (kd_nO' (k := 1)))) (by decide)) q9) (rd_nOR (k := 1) hq_2315 hm_2198 hv_2282)
          have hv_2460 : hR S_2361 1 q_1 = (some q_6) := hf_2363.fr (mem_old hm_2198) (fun q9 => (fun e9 => absurd (((kd_nO (k := 1) hq_2315 hm_2198 hk_2199)).symm.trans ((congrArg (hK _) e9).trans (kd_nO' (k := 1)))) (by decide)) q9) (rd_nOR (k := 1) hq_2315 hm_2198 hv_2283)
          have hv_2461 : hR S_2361 100 q_543 = (some q_547) := hf_2363.fr (mem_old hm_2241) (fun q9 => (ne_of_nin hq_2315 hm_2241) q9) (rd_nOR (k := 1) hq_2315 hm_2241 hv_2284)
          have hv_2462 : hR S_2361 1003 q_218 = (some q_222) := hf_2363.fr (mem_old hm_2209) (fun q9 => (fun e9 => absurd (((kd_nO (k := 1) hq_2315 hm_2209 hk_2210)).symm.trans ((congrArg (hK _) e9).trans (kd_nO' (k := 1)))) (by decide)) q9) (rd_nOR (k := 1) hq_2315 hm_2209 hv_2285)
          have hv_2463 : hR S_2361 1003 q_550 = (some q_551) := hf_2363.fr (mem_old hm_2250) (fun q9 => (fun e9 => absurd (((kd_nO (k := 1) hq_2315 hm_2250 hk_2251)).symm.trans ((congrArg (hK _) e9).trans (kd_nO' (k := 1)))) (by decide)) q9) (rd_nOR (k := 1) hq_2315 hm_2250 hv_2286)
          have hv_2464 : hR S_2361 101 q_543 = (some q_548) := hf_2363.fr (mem_old hm_2241) (fun q9 => (ne_of_nin hq_2315 hm_2241) q9) (rd_nOR (k := 1) hq_2315 hm_2241 hv_2287)
          have hv_2465 : hR S_2361 102 q_543 = (some q_550) := hf_2363.fr (mem_old hm_2241) (fun q9 => (ne_of_nin hq_2315 hm_2241) q9) (rd_nOR (k := 1) hq_2315 hm_2241 hv_2288)
          have hv_2466 : hR S_2361 103 q_543 = (some q_552) := hf_2363.fr (mem_old hm_2241) (fun q9 => (ne_of_nin hq_2315 hm_2241) q9) (rd_nOR (k := 1) hq_2315 hm_2241 hv_2289)
          have hv_2467 : hR S_2361 104 q_543 = (some q_553) := hf_2363.fr (mem_old hm_2241) (fun q9 => (ne_of_nin hq_2315 hm_2241) q9) (rd_nOR (k := 1) hq_2315 hm_2241 hv_2290)
          have hv_2468 : hR S_2361 200 q_35 = (some q_40) := hf_2363.fr (mem_old hm_2219) (fun q9 => (fun e9 => absurd (((kd_nO (k := 1) hq_2315 hm_2219 hk_2220)).symm.trans ((congrArg (hK _) e9).trans (kd_nO' (k := 1)))) (by decide)) q9) (rd_nOR (k := 1) hq_2315 hm_2219 hv_2291)
          have hv_2469 : hR S_2361 201 q_35 = (some q_42) := hf_2363.fr (mem_old hm_2219) (fun q9 => (fun e9 => absurd (((kd_nO (k := 1) hq_2315 hm_2219 hk_2220)).symm.trans ((congrArg (hK _) e9).trans (kd_nO' (k := 1)))) (by decide)) q9) (rd_nOR (k := 1) hq_2315 hm_2219 hv_2292)
          have hv_2470 : hR S_2361 207 q_35 = (some q_43) := hf_2363.fr (mem_old hm_2219) (fun q9 => (fun e9 => absurd (((kd_nO (k := 1) hq_2315 hm_2219 hk_2220)).symm.trans ((congrArg (hK _) e9).trans (kd_nO' (k := 1)))) (by decide)) q9) (rd_nOR (k := 1) hq_2315 hm_2219 hv_2293)
          have hv_2471 : hR S_2361 407 q_548 = (some q_549) := hf_2363.fr (mem_old hm_2245) (fun q9 => (fun e9 => absurd (((kd_nO (k := 1) hq_2315 hm_2245 hk_2246)).symm.trans ((congrArg (hK _) e9).trans (kd_nO' (k := 1)))) (by decide)) q9) (rd_nOR (k := 1) hq_2315 hm_2245 hv_2294)
          have hv_2472 : hR S_2361 800 q_292 = (some q_297) := hf_2363.fr (mem_old hm_2214) (fun q9 => (fun e9 => absurd (((kd_nO (k := 1) hq_2315 hm_2214 hk_2215)).symm.trans ((congrArg (hK _) e9).trans (kd_nO' (k := 1)))) (by decide)) q9) (rd_nOR (k := 1) hq_2315 hm_2214 hv_2295)
          have hv_2473 : hR S_2361 800 q_40 = (some q_41) := hf_2363.fr (mem_old hm_2224) (fun q9 => (fun e9 => absurd (((kd_nO (k := 1) hq_2315 hm_2224 hk_2225)).symm.trans ((congrArg (hK _) e9).trans (kd_nO' (k := 1)))) (by decide)) q9) (rd_nOR (k := 1) hq_2315 hm_2224 hv_2296)
          have hv_2474 : hR S_2361 800 q_97 = (some q_102) := hf_2363.fr (mem_old hm_2272) (fun q9 => (fun e9 => absurd (((kd_nO (k := 1) hq_2315 hm_2272 hk_2273)).symm.trans ((congrArg (hK _) e9).trans (kd_nO' (k := 1)))) (by decide)) q9) (rd_nOR (k := 1) hq_2315 hm_2272 hv_2297)
          have hv_2475 : hR S_2361 900 h = (some s0) := hf_2363.fr (mem_old hm_2196) (fun q9 => (fun e9 => absurd (((kd_nO (k := 1) hq_2315 hm_2196 hk_2197)).symm.trans ((congrArg (hK _) e9).trans (kd_nO' (k := 1)))) (by decide)) q9) (rd_nOR (k := 1) hq_2315 hm_2196 hv_2298)
          have hv_2476 : hR S_2361 901 h = (some q_1) := hf_2363.fr (mem_old hm_2196) (fun q9 => (fun e9 => absurd (((kd_nO (k := 1) hq_2315 hm_2196 hk_2197)).symm.trans ((congrArg (hK _) e9).trans (kd_nO' (k := 1)))) (by decide)) q9) (rd_nOR (k := 1) hq_2315 hm_2196 hv_2299)
          have hv_2477 : hR S_2361 902 h = (some q_35) := hf_2363.fr (mem_old hm_2196) (fun q9 => (fun e9 => absurd (((kd_nO (k := 1) hq_2315 hm_2196 hk_2197)).symm.trans ((congrArg (hK _) e9).trans (kd_nO' (k := 1)))) (by decide)) q9) (rd_nOR (k := 1) hq_2315 hm_2196 hv_2300)
          have hv_2478 : hR S_2361 903 h = (some q_97) := hf_2363.fr (mem_old hm_2196) (fun q9 => (fun e9 => absurd (((kd_nO (k := 1) hq_2315 hm_2196 hk_2197)).symm.trans ((congrArg (hK _) e9).trans (kd_nO' (k := 1)))) (by decide)) q9) (rd_nOR (k := 1) hq_2315 hm_2196 hv_2301)
          have hv_2479 : hR S_2361 904 h = (some q_158) := hf_2363.fr (mem_old hm_2196) (fun q9 => (fun e9 => absurd (((kd_nO (k := 1) hq_2315 hm_2196 hk_2197)).symm.trans ((congrArg (hK _) e9).trans (kd_nO' (k := 1)))) (by decide)) q9) (rd_nOR (k := 1) hq_2315 hm_2196 hv_2302)
          have hv_2480 : hR S_2361 905 h = (some q_218) := hf_2363.fr (mem_old hm_2196) (fun q9 => (fun e9 => absurd (((kd_nO (k := 1) hq_2315 hm_2196 hk_2197)).symm.trans ((congrArg (hK _) e9).trans (kd_nO' (k := 1)))) (by decide)) q9) (rd_nOR (k := 1) hq_2315 hm_2196 hv_2303)
          have hv_2481 : hR S_2361 906 h = (some q_292) := hf_2363.fr (mem_old hm_2196) (fun q9 => (fun e9 => absurd (((kd_nO (k := 1) hq_2315 hm_2196 hk_2197)).symm.trans ((congrArg (hK _) e9).trans (kd_nO' (k := 1)))) (by decide)) q9) (rd_nOR (k := 1) hq_2315 hm_2196 hv_2304)
          have hv_2482 : hR S_2361 907 h = (some q_375) := hf_2363.fr (mem_old hm_2196) (fun q9 => (fun e9 => absurd (((kd_nO (k := 1) hq_2315 hm_2196 hk_2197)).symm.trans ((congrArg (hK _) e9).trans (kd_nO' (k := 1)))) (by decide)) q9) (rd_nOR (k := 1) hq_2315 hm_2196 hv_2305)
          have hv_2483 : hR S_2361 908 h = (some q_457) := hf_2363.fr (mem_old hm_2196) (fun q9 => (fun e9 => absurd (((kd_nO (k := 1) hq_2315 hm_2196 hk_2197)).symm.trans ((congrArg (hK _) e9).trans (kd_nO' (k := 1)))) (by decide)) q9) (rd_nOR (k := 1) hq_2315 hm_2196 hv_2306)
          have hv_2484 : hR S_2361 909 h = (some q_543) := hf_2363.fr (mem_old hm_2196) (fun q9 => (fun e9 => absurd (((kd_nO (k := 1) hq_2315 hm_2196 hk_2197)).symm.trans ((congrArg (hK _) e9).trans (kd_nO' (k := 1)))) (by decide)) q9) (rd_nOR (k := 1) hq_2315 hm_2196 hv_2307)
          have hv_2485 : hR S_2361 910 h = (some q_681) := hf_2363.fr (mem_old hm_2196) (fun q9 => (fun e9 => absurd (((kd_nO (k := 1) hq_2315 hm_2196 hk_2197)).symm.trans ((congrArg (hK _) e9).trans (kd_nO' (k := 1)))) (by decide)) q9) (rd_nOR (k := 1) hq_2315 hm_2196 hv_2308)
          have hv_2486 : hR S_2361 911 h = (some q_840) := hf_2363.fr (mem_old hm_2196) (fun q9 => (fun e9 => absurd (((kd_nO (k := 1) hq_2315 hm_2196 hk_2197)).symm.trans ((congrArg (hK _) e9).trans (kd_nO' (k := 1)))) (by decide)) q9) (rd_nOR (k := 1) hq_2315 hm_2196 hv_2309)
          have hv_2487 : hR S_2361 912 h = (some q_963) := hf_2363.fr (mem_old hm_2196) (fun q9 => (fun e9 => absurd (((kd_nO (k := 1) hq_2315 hm_2196 hk_2197)).symm.trans ((congrArg (hK _) e9).trans (kd_nO' (k := 1)))) (by decide)) q9) (rd_nOR (k := 1) hq_2315 hm_2196 hv_2310)
          have hv_2488 : hR S_2361 917 h = (some q_1090) := hf_2363.fr (mem_old hm_2196) (fun q9 => (fun e9 => absurd (((kd_nO (k := 1) hq_2315 hm_2196 hk_2197)).symm.trans ((congrArg (hK _) e9).trans (kd_nO' (k := 1)))) (by decide)) q9) (rd_nOR (k := 1) hq_2315 hm_2196 hv_2311)
          have hf_2489 : Fm (fun _ _ => False) (fun f9 b9 => b9 = h) (fun _ => False) S S_2361 := hf_2318.then hf_2363 (fun a9 ha9 => ⟨(fun f9 h9 => h9.elim), (fun f9 h9 => (fun h8 => absurd (h8 ▸ ha9) hz_2316) h9), (fun h9 => h9.elim)⟩)
          have hf_2490 : Fm (fun _ _ => False) (fun _ _ => False) (fun b9 => b9 = q_840) S_1224 S_2361 := hf_2319.then hf_2363 (fun a9 ha9 => ⟨(fun f9 h9 => h9.elim), (fun f9 h9 => (fun h8 => absurd (h8 ▸ ha9) hz_2317) h9), (fun h9 => h9.elim)⟩)
          have hN_2491 : NL S [q_1, q_5, q_6, q_35, q_40, q_41, q_42, q_43, q_97, q_102, q_218, q_222, q_292, q_297, q_543, q_547, q_548, q_549, q_550, q_551, q_552, q_553, q_963, q_1090] S_2361 := NL.mono (show NL S [q_1, q_5, q_6, q_35, q_40, q_41, q_42, q_43, q_97, q_102, q_218, q_222, q_292, q_297, q_543, q_547, q_548, q_549, q_550, q_551, q_552, q_553, q_963, q_1090] (nO S_1356 q_2314 1) from NL.oldO hN_2313) (fun a9 h9 => hf_2363.mem h9)
          refine j_aast (j := i2) (ci := 1) C 18  (by decide) rfl dX9_init_189 hm_2443 hk_2444 (inr_of (n := 3) hn_2445 (vp_in_nI (by omega) (by omega))) (nI_clamp (by omega)) hm_2389 hk_2390 rfl ?_
          refine j_iinc (q := 0) (v := nI (i2 + 1)) (lv' := [(2, .int (nI (i2 + 1))), (0, .ref h), (1, .ref s0)]) C dX9_init_190 rfl (nI_add i2 1) (by rw [hn9]; decide) rfl ?_
          refine j_goto (tgt := 168) C dX9_init_193 (by decide) ?_
          refine J.sub [0, 1, 2] (lv' := [(2, .int (nI (i2 + 1))), (0, .ref h), (1, .ref s0)]) (by rfl) ?_
          refine J.widen (k' := (0 + 1 + 4 + 1 + 8 + 1 + 1 + 1 + 1 + 1 + 1 + 1 + 1 + 1 + 1 + 8 + 1 + 8 + 1 + 1 + 1 + 2 * i1) + 9 * (i2 + 1)) (n' := (0 + 15 + 20045 + 10 + 23174 + 1 + 16 + 16 + 4 + 16 + 1 + 16 + 24000 + 16 + 21 + 117 + 21 + 117 + 3 + 4 + 12 + 20 * i1) + 138 * (i2 + 1)) (by omega) (by omega) ?_
          exact ih_1358 (i2 + 1) _  (by omega) (hf_2490.tR _ _ (fun _ => rfl)) 
      refine J.sub [0, 1, 2] (lv' := [(2, .int (nI 0)), (0, .ref h), (1, .ref s0)]) (by rfl) ?_
      refine J.widen (k' := (0 + 1 + 4 + 1 + 8 + 1 + 1 + 1 + 1 + 1 + 1 + 1 + 1 + 1 + 1 + 8 + 1 + 8 + 1 + 1 + 1 + 2 * i1) + 9 * 0) (n' := (0 + 15 + 20045 + 10 + 23174 + 1 + 16 + 16 + 4 + 16 + 1 + 16 + 24000 + 16 + 21 + 117 + 21 + 117 + 3 + 4 + 12 + 20 * i1) + 138 * 0) (by omega) (by omega) ?_
      exact loop_1359 3 0 _  (by omega) Fm.refl 
    | succ m9 ih_1226 =>
      intro i1 S_1224  hi_1228 hl_1225 
      have hz_2492 : ∀ j, aI S_1224 q_102 j = 0 := fun j9 => (hl_1225.ai hm_1100 (fun q9 => (fun e9 => absurd ((hk_1101).symm.trans ((congrArg (hK _) e9).trans hk_1109)) (by decide)) q9) j9).trans (hz_1103 j9)
      have hz_2493 : ∀ j, aI S_1224 q_1090 j = 0 := fun j9 => (hl_1225.ai hm_1104 (fun q9 => (fun e9 => absurd ((hk_1105).symm.trans ((congrArg (hK _) e9).trans hk_1109)) (by decide)) q9) j9).trans (hz_1107 j9)
      have hz_2494 : ∀ j, aI S_1224 q_297 j = 0 := fun j9 => (hl_1225.ai hm_1119 (fun q9 => (fun e9 => absurd ((hk_1120).symm.trans ((congrArg (hK _) e9).trans hk_1109)) (by decide)) q9) j9).trans (hz_1122 j9)
      have hz_2495 : ∀ j, aI S_1224 q_375 j = 0 := fun j9 => (hl_1225.ai hm_1125 (fun q9 => (fun e9 => absurd ((hk_1126).symm.trans ((congrArg (hK _) e9).trans hk_1109)) (by decide)) q9) j9).trans (hz_1128 j9)
      have hz_2496 : ∀ j, aI S_1224 q_41 j = 0 := fun j9 => (hl_1225.ai hm_1131 (fun q9 => (fun e9 => absurd ((hk_1132).symm.trans ((congrArg (hK _) e9).trans hk_1109)) (by decide)) q9) j9).trans (hz_1134 j9)
      have hz_2497 : ∀ j, aI S_1224 q_457 j = 0 := fun j9 => (hl_1225.ai hm_1141 (fun q9 => (fun e9 => absurd ((hk_1142).symm.trans ((congrArg (hK _) e9).trans hk_1109)) (by decide)) q9) j9).trans (hz_1144 j9)
      have hz_2498 : ∀ j, aI S_1224 q_840 j = 0 := fun j9 => (hl_1225.ai hm_1173 (fun q9 => (fun e9 => absurd ((hk_1174).symm.trans ((congrArg (hK _) e9).trans hk_1109)) (by decide)) q9) j9).trans (hz_1176 j9)
      have hz_2499 : ∀ j, aI S_1224 q_963 j = 0 := fun j9 => (hl_1225.ai hm_1177 (fun q9 => (fun e9 => absurd ((hk_1178).symm.trans ((congrArg (hK _) e9).trans hk_1109)) (by decide)) q9) j9).trans (hz_1180 j9)
      have hm_2500 : h ∈ hL S_1224 := hl_1225.mem hm_1096
      have hk_2501 : Kd S_1224 h 9 := hl_1225.kd hm_1096 hk_1097
      have hm_2502 : q_1 ∈ hL S_1224 := hl_1225.mem hm_1098
      have hk_2503 : Kd S_1224 q_1 0 := hl_1225.kd hm_1098 hk_1099
      have hm_2504 : q_102 ∈ hL S_1224 := hl_1225.mem hm_1100
      have hk_2505 : Kd S_1224 q_102 14 := hl_1225.kd hm_1100 hk_1101
      have hn_2506 : Ln S_1224 q_102 16 := hl_1225.ln hm_1100 hn_1102
      have hm_2507 : q_1090 ∈ hL S_1224 := hl_1225.mem hm_1104
      have hk_2508 : Kd S_1224 q_1090 14 := hl_1225.kd hm_1104 hk_1105
      have hn_2509 : Ln S_1224 q_1090 12 := hl_1225.ln hm_1104 hn_1106
      have hm_2510 : q_158 ∈ hL S_1224 := hl_1225.mem hm_1108
      have hk_2511 : Kd S_1224 q_158 20 := hl_1225.kd hm_1108 hk_1109
      have hn_2512 : Ln S_1224 q_158 16 := hl_1225.ln hm_1108 hn_1110
      have hm_2513 : q_218 ∈ hL S_1224 := hl_1225.mem hm_1112
      have hk_2514 : Kd S_1224 q_218 10 := hl_1225.kd hm_1112 hk_1113
      have hm_2515 : q_222 ∈ hL S_1224 := hl_1225.mem hm_1114
      have hk_2516 : Kd S_1224 q_222 15 := hl_1225.kd hm_1114 hk_1115
      have hn_2517 : Ln S_1224 q_222 16 := hl_1225.ln hm_1114 hn_1116
      have hm_2518 : q_292 ∈ hL S_1224 := hl_1225.mem hm_1117
      have hk_2519 : Kd S_1224 q_292 8 := hl_1225.kd hm_1117 hk_1118
      have hm_2520 : q_297 ∈ hL S_1224 := hl_1225.mem hm_1119
      have hk_2521 : Kd S_1224 q_297 14 := hl_1225.kd hm_1119 hk_1120
      have hn_2522 : Ln S_1224 q_297 16 := hl_1225.ln hm_1119 hn_1121
      have hm_2523 : q_35 ∈ hL S_1224 := hl_1225.mem hm_1123
      have hk_2524 : Kd S_1224 q_35 2 := hl_1225.kd hm_1123 hk_1124
      have hm_2525 : q_375 ∈ hL S_1224 := hl_1225.mem hm_1125
      have hk_2526 : Kd S_1224 q_375 13 := hl_1225.kd hm_1125 hk_1126
      have hn_2527 : Ln S_1224 q_375 24000 := hl_1225.ln hm_1125 hn_1127
      have hm_2528 : q_40 ∈ hL S_1224 := hl_1225.mem hm_1129
      have hk_2529 : Kd S_1224 q_40 8 := hl_1225.kd hm_1129 hk_1130
      have hm_2530 : q_41 ∈ hL S_1224 := hl_1225.mem hm_1131
      have hk_2531 : Kd S_1224 q_41 14 := hl_1225.kd hm_1131 hk_1132
      have hn_2532 : Ln S_1224 q_41 16 := hl_1225.ln hm_1131 hn_1133
      have hm_2533 : q_42 ∈ hL S_1224 := hl_1225.mem hm_1135
      have hk_2534 : Kd S_1224 q_42 14 := hl_1225.kd hm_1135 hk_1136
      have hn_2535 : Ln S_1224 q_42 119 := hl_1225.ln hm_1135 hn_1137
      have hm_2536 : q_43 ∈ hL S_1224 := hl_1225.mem hm_1138
      have hk_2537 : Kd S_1224 q_43 14 := hl_1225.kd hm_1138 hk_1139
      have hn_2538 : Ln S_1224 q_43 8 := hl_1225.ln hm_1138 hn_1140
      have hm_2539 : q_457 ∈ hL S_1224 := hl_1225.mem hm_1141
      have hk_2540 : Kd S_1224 q_457 14 := hl_1225.kd hm_1141 hk_1142
      have hn_2541 : Ln S_1224 q_457 16 := hl_1225.ln hm_1141 hn_1143
      have hm_2542 : q_5 ∈ hL S_1224 := hl_1225.mem hm_1145
      have hk_2543 : Kd S_1224 q_5 14 := hl_1225.kd hm_1145 hk_1146
      have hn_2544 : Ln S_1224 q_5 20000 := hl_1225.ln hm_1145 hn_1147
      have hm_2545 : q_543 ∈ hL S_1224 := hl_1225.mem hm_1148
      have hk_2546 : Kd S_1224 q_543 1 := hl_1225.kd hm_1148 hk_1149
      have hm_2547 : q_547 ∈ hL S_1224 := hl_1225.mem hm_1150
      have hk_2548 : Kd S_1224 q_547 7 := hl_1225.kd hm_1150 hk_1151
      have hm_2549 : q_548 ∈ hL S_1224 := hl_1225.mem hm_1152
      have hk_2550 : Kd S_1224 q_548 4 := hl_1225.kd hm_1152 hk_1153
      have hm_2551 : q_549 ∈ hL S_1224 := hl_1225.mem hm_1154
      have hk_2552 : Kd S_1224 q_549 14 := hl_1225.kd hm_1154 hk_1155
      have hn_2553 : Ln S_1224 q_549 20 := hl_1225.ln hm_1154 hn_1156
      have hm_2554 : q_550 ∈ hL S_1224 := hl_1225.mem hm_1157
      have hk_2555 : Kd S_1224 q_550 10 := hl_1225.kd hm_1157 hk_1158
      have hm_2556 : q_551 ∈ hL S_1224 := hl_1225.mem hm_1159
      have hk_2557 : Kd S_1224 q_551 15 := hl_1225.kd hm_1159 hk_1160
      have hn_2558 : Ln S_1224 q_551 16 := hl_1225.ln hm_1159 hn_1161
      have hm_2559 : q_552 ∈ hL S_1224 := hl_1225.mem hm_1162
      have hk_2560 : Kd S_1224 q_552 14 := hl_1225.kd hm_1162 hk_1163
      have hn_2561 : Ln S_1224 q_552 8 := hl_1225.ln hm_1162 hn_1164
      have hm_2562 : q_553 ∈ hL S_1224 := hl_1225.mem hm_1165
      have hk_2563 : Kd S_1224 q_553 14 := hl_1225.kd hm_1165 hk_1166
      have hn_2564 : Ln S_1224 q_553 8 := hl_1225.ln hm_1165 hn_1167
      have hm_2565 : q_6 ∈ hL S_1224 := hl_1225.mem hm_1168
      have hk_2566 : Kd S_1224 q_6 14 := hl_1225.kd hm_1168 hk_1169
      have hn_2567 : Ln S_1224 q_6 25 := hl_1225.ln hm_1168 hn_1170
      have hm_2568 : q_681 ∈ hL S_1224 := hl_1225.mem hm_1171
      have hk_2569 : Kd S_1224 q_681 1 := hl_1225.kd hm_1171 hk_1172
      have hm_2570 : q_840 ∈ hL S_1224 := hl_1225.mem hm_1173
      have hk_2571 : Kd S_1224 q_840 18 := hl_1225.kd hm_1173 hk_1174
      have hn_2572 : Ln S_1224 q_840 3 := hl_1225.ln hm_1173 hn_1175
      have hm_2573 : q_963 ∈ hL S_1224 := hl_1225.mem hm_1177
      have hk_2574 : Kd S_1224 q_963 19 := hl_1225.kd hm_1177 hk_1178
      have hn_2575 : Ln S_1224 q_963 4 := hl_1225.ln hm_1177 hn_1179
      have hm_2576 : q_97 ∈ hL S_1224 := hl_1225.mem hm_1181
      have hk_2577 : Kd S_1224 q_97 8 := hl_1225.kd hm_1181 hk_1182
      have hv_2578 : hI S_1224 1000 q_218 = 1 := hl_1225.fi hm_1112 (fun h9 => h9) hv_1183
      have hv_2579 : hI S_1224 1001 q_218 = 1 := hl_1225.fi hm_1112 (fun h9 => h9) hv_1184
      have hv_2580 : hI S_1224 2 q_1 = 0 := hl_1225.fi hm_1098 (fun h9 => h9) hv_1185
      have hv_2581 : hI S_1224 206 q_35 = 0 := hl_1225.fi hm_1123 (fun h9 => h9) hv_1186
      have hv_2582 : hI S_1224 209 q_35 = 0 := hl_1225.fi hm_1123 (fun h9 => h9) hv_1187
      have hv_2583 : hI S_1224 3 q_1 = 0 := hl_1225.fi hm_1098 (fun h9 => h9) hv_1188
      have hv_2584 : hI S_1224 4 q_1 = 0 := hl_1225.fi hm_1098 (fun h9 => h9) hv_1189
      have hv_2585 : hI S_1224 5 q_1 = 0 := hl_1225.fi hm_1098 (fun h9 => h9) hv_1190
      have hv_2586 : hR S_1224 0 q_1 = (some q_5) := hl_1225.fr hm_1098 (fun h9 => h9) hv_1191
      have hv_2587 : hR S_1224 1 q_1 = (some q_6) := hl_1225.fr hm_1098 (fun h9 => h9) hv_1192
      have hv_2588 : hR S_1224 100 q_543 = (some q_547) := hl_1225.fr hm_1148 (fun h9 => h9) hv_1193
      have hv_2589 : hR S_1224 1003 q_218 = (some q_222) := hl_1225.fr hm_1112 (fun h9 => h9) hv_1194
      have hv_2590 : hR S_1224 1003 q_550 = (some q_551) := hl_1225.fr hm_1157 (fun h9 => h9) hv_1195
      have hv_2591 : hR S_1224 101 q_543 = (some q_548) := hl_1225.fr hm_1148 (fun h9 => h9) hv_1196
      have hv_2592 : hR S_1224 102 q_543 = (some q_550) := hl_1225.fr hm_1148 (fun h9 => h9) hv_1197
      have hv_2593 : hR S_1224 103 q_543 = (some q_552) := hl_1225.fr hm_1148 (fun h9 => h9) hv_1198
      have hv_2594 : hR S_1224 104 q_543 = (some q_553) := hl_1225.fr hm_1148 (fun h9 => h9) hv_1199
      have hv_2595 : hR S_1224 200 q_35 = (some q_40) := hl_1225.fr hm_1123 (fun h9 => h9) hv_1200
      have hv_2596 : hR S_1224 201 q_35 = (some q_42) := hl_1225.fr hm_1123 (fun h9 => h9) hv_1201
      have hv_2597 : hR S_1224 207 q_35 = (some q_43) := hl_1225.fr hm_1123 (fun h9 => h9) hv_1202
      have hv_2598 : hR S_1224 407 q_548 = (some q_549) := hl_1225.fr hm_1152 (fun h9 => h9) hv_1203
      have hv_2599 : hR S_1224 800 q_292 = (some q_297) := hl_1225.fr hm_1117 (fun h9 => h9) hv_1204
      have hv_2600 : hR S_1224 800 q_40 = (some q_41) := hl_1225.fr hm_1129 (fun h9 => h9) hv_1205
      have hv_2601 : hR S_1224 800 q_97 = (some q_102) := hl_1225.fr hm_1181 (fun h9 => h9) hv_1206
      have hv_2602 : hR S_1224 900 h = (some s0) := hl_1225.fr hm_1096 (fun h9 => h9) hv_1207
      have hv_2603 : hR S_1224 901 h = (some q_1) := hl_1225.fr hm_1096 (fun h9 => h9) hv_1208
      have hv_2604 : hR S_1224 902 h = (some q_35) := hl_1225.fr hm_1096 (fun h9 => h9) hv_1209
      have hv_2605 : hR S_1224 903 h = (some q_97) := hl_1225.fr hm_1096 (fun h9 => h9) hv_1210
      have hv_2606 : hR S_1224 904 h = (some q_158) := hl_1225.fr hm_1096 (fun h9 => h9) hv_1211
      have hv_2607 : hR S_1224 905 h = (some q_218) := hl_1225.fr hm_1096 (fun h9 => h9) hv_1212
      have hv_2608 : hR S_1224 906 h = (some q_292) := hl_1225.fr hm_1096 (fun h9 => h9) hv_1213
      have hv_2609 : hR S_1224 907 h = (some q_375) := hl_1225.fr hm_1096 (fun h9 => h9) hv_1214
      have hv_2610 : hR S_1224 908 h = (some q_457) := hl_1225.fr hm_1096 (fun h9 => h9) hv_1215
      have hv_2611 : hR S_1224 909 h = (some q_543) := hl_1225.fr hm_1096 (fun h9 => h9) hv_1216
      have hv_2612 : hR S_1224 910 h = (some q_681) := hl_1225.fr hm_1096 (fun h9 => h9) hv_1217
      have hv_2613 : hR S_1224 911 h = (some q_840) := hl_1225.fr hm_1096 (fun h9 => h9) hv_1218
      have hv_2614 : hR S_1224 912 h = (some q_963) := hl_1225.fr hm_1096 (fun h9 => h9) hv_1219
      have hv_2615 : hR S_1224 917 h = (some q_1090) := hl_1225.fr hm_1096 (fun h9 => h9) hv_1220
      have hf_2616 : Fm (fun _ _ => False) (fun f9 b9 => b9 = h) (fun _ => False) S S_1224 := hf_1221.then hl_1225 (fun a9 ha9 => ⟨(fun f9 h9 => h9.elim), (fun f9 h9 => h9.elim), (fun h9 => (fun h8 => absurd (h8 ▸ ha9) hz_161) h9)⟩)
      have hN_2617 : NL S [q_1, q_5, q_6, q_35, q_40, q_41, q_42, q_43, q_97, q_102, q_218, q_222, q_292, q_297, q_543, q_547, q_548, q_549, q_550, q_551, q_552, q_553, q_963, q_1090] S_1224 := NL.mono hN_1222 (fun a9 h9 => hl_1225.mem h9)
      refine j_iload_n C dX9_init_138 rfl 0 rfl ?_
      refine j_aload_n C dX9_init_139 rfl 1 rfl ?_
      refine j_getr (f := 904) (v := q_158) C flX9_34 dX9_init_140 hm_2500 hk_2501 (by decide) rfl hv_2606 ?_
      refine j_alen (v := 16) C dX9_init_143 hm_2510 hk_2511 (by decide) (by decide) (len_of (n := 16) hn_2512 (by decide)) ?_
      show J _ _ _ _ _ 144 _
      refine j_ic_ge (tgt := 166) C dX9_init_144 (by decide) (fun c_144 => absurd c_144 (nI_ge (b := 16) (by omega) (by omega))) (fun c_144 => ?_)
      refine j_aload_n C dX9_init_147 rfl 1 rfl ?_
      refine j_getr (f := 904) (v := q_158) C flX9_34 dX9_init_148 hm_2500 hk_2501 (by decide) rfl hv_2606 ?_
      refine j_iload_n C dX9_init_151 rfl 0 rfl ?_
      refine j_new (N := 4) C (ci := 10) rfl rfl klX9_32 knX10 kiX10 (M.cells (by omega)) (M.slots (by omega)) dX9_init_152 (fun q_2618 hq_2619 => ?_)
      have hz_2620 : q_2618 ∉ hL S := fun h9 => hq_2619 (hf_2616.mem h9)
      have hz_2621 : q_2618 ∉ hL S_1093 := fun h9 => hq_2619 (hl_1225.mem h9)
      refine j_dup C dX9_init_155 rfl ?_
      have hf_2622 : Fm (fun _ _ => False) (fun f9 b9 => b9 = h) (fun _ => False) S (nO S_1224 q_2618 10) := (hf_2616.nO _ hq_2619)
      have hf_2623 : Fm (fun _ _ => False) (fun _ _ => False) (fun b9 => b9 = q_158) S_1093 (nO S_1224 q_2618 10) := (hl_1225.nO _ hq_2619)
      refine j_callI C [] [.ref q_2618, .int (nI i1), .ref q_158] mlX9_38 mcX10_init (c_X10_init (nO S_1224 q_2618 10) q_2618 mem_new (kd_nO' (k := 10))) (M.rm (by decide) (by decide) (by omega) (by omega)) rfl rfl (Nat.le_of_ble_eq_true rfl) dX9_init_156 (fun r_2633 S_2634 hp_2635 => ?_)
      obtain ⟨rfl, hf_2636, e_2625, e_2626, q_2624, e_2627, e_2628, e_2629, e_2630, e_2631, hNl_2632⟩ := hp_2635
      refine J.eq (st' := [.ref q_2618, .int (nI i1), .ref q_158]) rfl rfl rfl ?_
      have hz_2637 : ∀ j, aI S_2634 q_102 j = 0 := fun j9 => (hf_2636.ai (mem_old hm_2504) (fun h9 => h9) j9).trans (hz_2492 j9)
      have hz_2638 : ∀ j, aI S_2634 q_1090 j = 0 := fun j9 => (hf_2636.ai (mem_old hm_2507) (fun h9 => h9) j9).trans (hz_2493 j9)
      have hz_2639 : ∀ j, aI S_2634 q_297 j = 0 := fun j9 => (hf_2636.ai (mem_old hm_2520) (fun h9 => h9) j9).trans (hz_2494 j9)
      have hz_2640 : ∀ j, aI S_2634 q_375 j = 0 := fun j9 => (hf_2636.ai (mem_old hm_2525) (fun h9 => h9) j9).trans (hz_2495 j9)
      have hz_2641 : ∀ j, aI S_2634 q_41 j = 0 := fun j9 => (hf_2636.ai (mem_old hm_2530) (fun h9 => h9) j9).trans (hz_2496 j9)
      have hz_2642 : ∀ j, aI S_2634 q_457 j = 0 := fun j9 => (hf_2636.ai (mem_old hm_2539) (fun h9 => h9) j9).trans (hz_2497 j9)
      have hz_2643 : ∀ j, aI S_2634 q_840 j = 0 := fun j9 => (hf_2636.ai (mem_old hm_2570) (fun h9 => h9) j9).trans (hz_2498 j9)
      have hz_2644 : ∀ j, aI S_2634 q_963 j = 0 := fun j9 => (hf_2636.ai (mem_old hm_2573) (fun h9 => h9) j9).trans (hz_2499 j9)
      have hm_2645 : h ∈ hL S_2634 := hf_2636.mem (mem_old hm_2500)
      have hk_2646 : Kd S_2634 h 9 := hf_2636.kd (mem_old hm_2500) (kd_nO (k := 10) hq_2619 hm_2500 hk_2501)
      have hm_2647 : q_1 ∈ hL S_2634 := hf_2636.mem (mem_old hm_2502)
      have hk_2648 : Kd S_2634 q_1 0 := hf_2636.kd (mem_old hm_2502) (kd_nO (k := 10) hq_2619 hm_2502 hk_2503)
      have hm_2649 : q_102 ∈ hL S_2634 := hf_2636.mem (mem_old hm_2504)
      have hk_2650 : Kd S_2634 q_102 14 := hf_2636.kd (mem_old hm_2504) (kd_nO (k := 10) hq_2619 hm_2504 hk_2505)
      have hn_2651 : Ln S_2634 q_102 16 := hf_2636.ln (mem_old hm_2504) hn_2506
      have hm_2652 : q_1090 ∈ hL S_2634 := hf_2636.mem (mem_old hm_2507)
      have hk_2653 : Kd S_2634 q_1090 14 := hf_2636.kd (mem_old hm_2507) (kd_nO (k := 10) hq_2619 hm_2507 hk_2508)
      have hn_2654 : Ln S_2634 q_1090 12 := hf_2636.ln (mem_old hm_2507) hn_2509
      have hm_2655 : q_158 ∈ hL S_2634 := hf_2636.mem (mem_old hm_2510)
      have hk_2656 : Kd S_2634 q_158 20 := hf_2636.kd (mem_old hm_2510) (kd_nO (k := 10) hq_2619 hm_2510 hk_2511)
      have hn_2657 : Ln S_2634 q_158 16 := hf_2636.ln (mem_old hm_2510) hn_2512
      have hm_2658 : q_218 ∈ hL S_2634 := hf_2636.mem (mem_old hm_2513)
      have hk_2659 : Kd S_2634 q_218 10 := hf_2636.kd (mem_old hm_2513) (kd_nO (k := 10) hq_2619 hm_2513 hk_2514)
      have hm_2660 : q_222 ∈ hL S_2634 := hf_2636.mem (mem_old hm_2515)
      have hk_2661 : Kd S_2634 q_222 15 := hf_2636.kd (mem_old hm_2515) (kd_nO (k := 10) hq_2619 hm_2515 hk_2516)
      have hn_2662 : Ln S_2634 q_222 16 := hf_2636.ln (mem_old hm_2515) hn_2517
      have hm_2663 : q_2618 ∈ hL S_2634 := hf_2636.mem mem_new
      have hk_2664 : Kd S_2634 q_2618 10 := hf_2636.kd mem_new (kd_nO' (k := 10))
      have hm_2665 : q_292 ∈ hL S_2634 := hf_2636.mem (mem_old hm_2518)
      have hk_2666 : Kd S_2634 q_292 8 := hf_2636.kd (mem_old hm_2518) (kd_nO (k := 10) hq_2619 hm_2518 hk_2519)
      have hm_2667 : q_297 ∈ hL S_2634 := hf_2636.mem (mem_old hm_2520)
      have hk_2668 : Kd S_2634 q_297 14 := hf_2636.kd (mem_old hm_2520) (kd_nO (k := 10) hq_2619 hm_2520 hk_2521)
      have hn_2669 : Ln S_2634 q_297 16 := hf_2636.ln (mem_old hm_2520) hn_2522
      have hm_2670 : q_35 ∈ hL S_2634 := hf_2636.mem (mem_old hm_2523)
      have hk_2671 : Kd S_2634 q_35 2 := hf_2636.kd (mem_old hm_2523) (kd_nO (k := 10) hq_2619 hm_2523 hk_2524)
      have hm_2672 : q_375 ∈ hL S_2634 := hf_2636.mem (mem_old hm_2525)
      have hk_2673 : Kd S_2634 q_375 13 := hf_2636.kd (mem_old hm_2525) (kd_nO (k := 10) hq_2619 hm_2525 hk_2526)
      have hn_2674 : Ln S_2634 q_375 24000 := hf_2636.ln (mem_old hm_2525) hn_2527
      have hm_2675 : q_40 ∈ hL S_2634 := hf_2636.mem (mem_old hm_2528)
      have hk_2676 : Kd S_2634 q_40 8 := hf_2636.kd (mem_old hm_2528) (kd_nO (k := 10) hq_2619 hm_2528 hk_2529)
      have hm_2677 : q_41 ∈ hL S_2634 := hf_2636.mem (mem_old hm_2530)
      have hk_2678 : Kd S_2634 q_41 14 := hf_2636.kd (mem_old hm_2530) (kd_nO (k := 10) hq_2619 hm_2530 hk_2531)
      have hn_2679 : Ln S_2634 q_41 16 := hf_2636.ln (mem_old hm_2530) hn_2532
      have hm_2680 : q_42 ∈ hL S_2634 := hf_2636.mem (mem_old hm_2533)
      have hk_2681 : Kd S_2634 q_42 14 := hf_2636.kd (mem_old hm_2533) (kd_nO (k := 10) hq_2619 hm_2533 hk_2534)
      have hn_2682 : Ln S_2634 q_42 119 := hf_2636.ln (mem_old hm_2533) hn_2535
      have hm_2683 : q_43 ∈ hL S_2634 := hf_2636.mem (mem_old hm_2536)
      have hk_2684 : Kd S_2634 q_43 14 := hf_2636.kd (mem_old hm_2536) (kd_nO (k := 10) hq_2619 hm_2536 hk_2537)
      have hn_2685 : Ln S_2634 q_43 8 := hf_2636.ln (mem_old hm_2536) hn_2538
      have hm_2686 : q_457 ∈ hL S_2634 := hf_2636.mem (mem_old hm_2539)
      have hk_2687 : Kd S_2634 q_457 14 := hf_2636.kd (mem_old hm_2539) (kd_nO (k := 10) hq_2619 hm_2539 hk_2540)
      have hn_2688 : Ln S_2634 q_457 16 := hf_2636.ln (mem_old hm_2539) hn_2541
      have hm_2689 : q_5 ∈ hL S_2634 := hf_2636.mem (mem_old hm_2542)
      have hk_2690 : Kd S_2634 q_5 14 := hf_2636.kd (mem_old hm_2542) (kd_nO (k := 10) hq_2619 hm_2542 hk_2543)
      have hn_2691 : Ln S_2634 q_5 20000 := hf_2636.ln (mem_old hm_2542) hn_2544
      have hm_2692 : q_543 ∈ hL S_2634 := hf_2636.mem (mem_old hm_2545)
      have hk_2693 : Kd S_2634 q_543 1 := hf_2636.kd (mem_old hm_2545) (kd_nO (k := 10) hq_2619 hm_2545 hk_2546)
      have hm_2694 : q_547 ∈ hL S_2634 := hf_2636.mem (mem_old hm_2547)
      have hk_2695 : Kd S_2634 q_547 7 := hf_2636.kd (mem_old hm_2547) (kd_nO (k := 10) hq_2619 hm_2547 hk_2548)
      have hm_2696 : q_548 ∈ hL S_2634 := hf_2636.mem (mem_old hm_2549)
      have hk_2697 : Kd S_2634 q_548 4 := hf_2636.kd (mem_old hm_2549) (kd_nO (k := 10) hq_2619 hm_2549 hk_2550)
      have hm_2698 : q_549 ∈ hL S_2634 := hf_2636.mem (mem_old hm_2551)
      have hk_2699 : Kd S_2634 q_549 14 := hf_2636.kd (mem_old hm_2551) (kd_nO (k := 10) hq_2619 hm_2551 hk_2552)
      have hn_2700 : Ln S_2634 q_549 20 := hf_2636.ln (mem_old hm_2551) hn_2553
      have hm_2701 : q_550 ∈ hL S_2634 := hf_2636.mem (mem_old hm_2554)
      have hk_2702 : Kd S_2634 q_550 10 := hf_2636.kd (mem_old hm_2554) (kd_nO (k := 10) hq_2619 hm_2554 hk_2555)
      have hm_2703 : q_551 ∈ hL S_2634 := hf_2636.mem (mem_old hm_2556)
      have hk_2704 : Kd S_2634 q_551 15 := hf_2636.kd (mem_old hm_2556) (kd_nO (k := 10) hq_2619 hm_2556 hk_2557)
      have hn_2705 : Ln S_2634 q_551 16 := hf_2636.ln (mem_old hm_2556) hn_2558
      have hm_2706 : q_552 ∈ hL S_2634 := hf_2636.mem (mem_old hm_2559)
      have hk_2707 : Kd S_2634 q_552 14 := hf_2636.kd (mem_old hm_2559) (kd_nO (k := 10) hq_2619 hm_2559 hk_2560)
      have hn_2708 : Ln S_2634 q_552 8 := hf_2636.ln (mem_old hm_2559) hn_2561
      have hm_2709 : q_553 ∈ hL S_2634 := hf_2636.mem (mem_old hm_2562)
      have hk_2710 : Kd S_2634 q_553 14 := hf_2636.kd (mem_old hm_2562) (kd_nO (k := 10) hq_2619 hm_2562 hk_2563)
      have hn_2711 : Ln S_2634 q_553 8 := hf_2636.ln (mem_old hm_2562) hn_2564
      have hm_2712 : q_6 ∈ hL S_2634 := hf_2636.mem (mem_old hm_2565)
      have hk_2713 : Kd S_2634 q_6 14 := hf_2636.kd (mem_old hm_2565) (kd_nO (k := 10) hq_2619 hm_2565 hk_2566)
      have hn_2714 : Ln S_2634 q_6 25 := hf_2636.ln (mem_old hm_2565) hn_2567
      have hm_2715 : q_681 ∈ hL S_2634 := hf_2636.mem (mem_old hm_2568)
      have hk_2716 : Kd S_2634 q_681 1 := hf_2636.kd (mem_old hm_2568) (kd_nO (k := 10) hq_2619 hm_2568 hk_2569)
      have hm_2717 : q_840 ∈ hL S_2634 := hf_2636.mem (mem_old hm_2570)
      have hk_2718 : Kd S_2634 q_840 18 := hf_2636.kd (mem_old hm_2570) (kd_nO (k := 10) hq_2619 hm_2570 hk_2571)
      have hn_2719 : Ln S_2634 q_840 3 := hf_2636.ln (mem_old hm_2570) hn_2572
      have hm_2720 : q_963 ∈ hL S_2634 := hf_2636.mem (mem_old hm_2573)
      have hk_2721 : Kd S_2634 q_963 19 := hf_2636.kd (mem_old hm_2573) (kd_nO (k := 10) hq_2619 hm_2573 hk_2574)
      have hn_2722 : Ln S_2634 q_963 4 := hf_2636.ln (mem_old hm_2573) hn_2575
      have hm_2723 : q_97 ∈ hL S_2634 := hf_2636.mem (mem_old hm_2576)
      have hk_2724 : Kd S_2634 q_97 8 := hf_2636.kd (mem_old hm_2576) (kd_nO (k := 10) hq_2619 hm_2576 hk_2577)
      have hv_2725 : hI S_2634 1000 q_218 = 1 := hf_2636.fi (mem_old hm_2513) (fun h9 => h9.elim (fun q9 => (ne_of_nin hq_2619 hm_2513) q9.2) (fun q9 => absurd q9.1 (by decide))) (rd_nOI (k := 10) hq_2619 hm_2513 hv_2578)
      have hv_2726 : hI S_2634 1001 q_218 = 1 := hf_2636.fi (mem_old hm_2513) (fun h9 => h9.elim (fun q9 => absurd q9.1 (by decide)) (fun q9 => (ne_of_nin hq_2619 hm_2513) q9.2)) (rd_nOI (k := 10) hq_2619 hm_2513 hv_2579)
      have hv_2727 : hI S_2634 2 q_1 = 0 := hf_2636.fi (mem_old hm_2502) (fun h9 => h9.elim (fun q9 => absurd q9.1 (by decide)) (fun q9 => absurd q9.1 (by decide))) (rd_nOI (k := 10) hq_2619 hm_2502 hv_2580)
      have hv_2728 : hI S_2634 206 q_35 = 0 := hf_2636.fi (mem_old hm_2523) (fun h9 => h9.elim (fun q9 => absurd q9.1 (by decide)) (fun q9 => absurd q9.1 (by decide))) (rd_nOI (k := 10) hq_2619 hm_2523 hv_2581)
      have hv_2729 : hI S_2634 209 q_35 = 0 := hf_2636.fi (mem_old hm_2523) (fun h9 => h9.elim (fun q9 => absurd q9.1 (by decide)) (fun q9 => absurd q9.1 (by decide))) (rd_nOI (k := 10) hq_2619 hm_2523 hv_2582)
      have hv_2730 : hI S_2634 3 q_1 = 0 := hf_2636.fi (mem_old hm_2502) (fun h9 => h9.elim (fun q9 => absurd q9.1 (by decide)) (fun q9 => absurd q9.1 (by decide))) (rd_nOI (k := 10) hq_2619 hm_2502 hv_2583)
      have hv_2731 : hI S_2634 4 q_1 = 0 := hf_2636.fi (mem_old hm_2502) (fun h9 => h9.elim (fun q9 => absurd q9.1 (by decide)) (fun q9 => absurd q9.1 (by decide))) (rd_nOI (k := 10) hq_2619 hm_2502 hv_2584)
      have hv_2732 : hI S_2634 5 q_1 = 0 := hf_2636.fi (mem_old hm_2502) (fun h9 => h9.elim (fun q9 => absurd q9.1 (by decide)) (fun q9 => absurd q9.1 (by decide))) (rd_nOI (k := 10) hq_2619 hm_2502 hv_2585)
      have hv_2733 : hR S_2634 0 q_1 = (some q_5) := hf_2636.fr (mem_old hm_2502) (fun q9 => (fun e9 => absurd (((kd_nO (k := 10) hq_2619 hm_2502 hk_2503)).symm.trans ((congrArg (hK _) e9).trans (kd_nO' (k := 10)))) (by decide)) q9) (rd_nOR (k := 10) hq_2619 hm_2502 hv_2586)
      have hv_2734 : hR S_2634 1 q_1 = (some q_6) := hf_2636.fr (mem_old hm_2502) (fun q9 => (fun e9 => absurd (((kd_nO (k := 10) hq_2619 hm_2502 hk_2503)).symm.trans ((congrArg (hK _) e9).trans (kd_nO' (k := 10)))) (by decide)) q9) (rd_nOR (k := 10) hq_2619 hm_2502 hv_2587)
      have hv_2735 : hR S_2634 100 q_543 = (some q_547) := hf_2636.fr (mem_old hm_2545) (fun q9 => (fun e9 => absurd (((kd_nO (k := 10) hq_2619 hm_2545 hk_2546)).symm.trans ((congrArg (hK _) e9).trans (kd_nO' (k := 10)))) (by decide)) q9) (rd_nOR (k := 10) hq_2619 hm_2545 hv_2588)
      have hv_2736 : hR S_2634 1003 q_218 = (some q_222) := hf_2636.fr (mem_old hm_2513) (fun q9 => (ne_of_nin hq_2619 hm_2513) q9) (rd_nOR (k := 10) hq_2619 hm_2513 hv_2589)
      have hv_2737 : hR S_2634 1003 q_550 = (some q_551) := hf_2636.fr (mem_old hm_2554) (fun q9 => (ne_of_nin hq_2619 hm_2554) q9) (rd_nOR (k := 10) hq_2619 hm_2554 hv_2590)
      have hv_2738 : hR S_2634 101 q_543 = (some q_548) := hf_2636.fr (mem_old hm_2545) (fun q9 => (fun e9 => absurd (((kd_nO (k := 10) hq_2619 hm_2545 hk_2546)).symm.trans ((congrArg (hK _) e9).trans (kd_nO' (k := 10)))) (by decide)) q9) (rd_nOR (k := 10) hq_2619 hm_2545 hv_2591)
      have hv_2739 : hR S_2634 102 q_543 = (some q_550) := hf_2636.fr (mem_old hm_2545) (fun q9 => (fun e9 => absurd (((kd_nO (k := 10) hq_2619 hm_2545 hk_2546)).symm.trans ((congrArg (hK _) e9).trans (kd_nO' (k := 10)))) (by decide)) q9) (rd_nOR (k := 10) hq_2619 hm_2545 hv_2592)
      have hv_2740 : hR S_2634 103 q_543 = (some q_552) := hf_2636.fr (mem_old hm_2545) (fun q9 => (fun e9 => absurd (((kd_nO (k := 10) hq_2619 hm_2545 hk_2546)).symm.trans ((congrArg (hK _) e9).trans (kd_nO' (k := 10)))) (by decide)) q9) (rd_nOR (k := 10) hq_2619 hm_2545 hv_2593)
      have hv_2741 : hR S_2634 104 q_543 = (some q_553) := hf_2636.fr (mem_old hm_2545) (fun q9 => (fun e9 => absurd (((kd_nO (k := 10) hq_2619 hm_2545 hk_2546)).symm.trans ((congrArg (hK _) e9).trans (kd_nO' (k := 10)))) (by decide)) q9) (rd_nOR (k := 10) hq_2619 hm_2545 hv_2594)
      have hv_2742 : hR S_2634 200 q_35 = (some q_40) := hf_2636.fr (mem_old hm_2523) (fun q9 => (fun e9 => absurd (((kd_nO (k := 10) hq_2619 hm_2523 hk_2524)).symm.trans ((congrArg (hK _) e9).trans (kd_nO' (k := 10)))) (by decide)) q9) (rd_nOR (k := 10) hq_2619 hm_2523 hv_2595)
      have hv_2743 : hR S_2634 201 q_35 = (some q_42) := hf_2636.fr (mem_old hm_2523) (fun q9 => (fun e9 => absurd (((kd_nO (k := 10) hq_2619 hm_2523 hk_2524)).symm.trans ((congrArg (hK _) e9).trans (kd_nO' (k := 10)))) (by decide)) q9) (rd_nOR (k := 10) hq_2619 hm_2523 hv_2596)
      have hv_2744 : hR S_2634 207 q_35 = (some q_43) := hf_2636.fr (mem_old hm_2523) (fun q9 => (fun e9 => absurd (((kd_nO (k := 10) hq_2619 hm_2523 hk_2524)).symm.trans ((congrArg (hK _) e9).trans (kd_nO' (k := 10)))) (by decide)) q9) (rd_nOR (k := 10) hq_2619 hm_2523 hv_2597)
      have hv_2745 : hR S_2634 407 q_548 = (some q_549) := hf_2636.fr (mem_old hm_2549) (fun q9 => (fun e9 => absurd (((kd_nO (k := 10) hq_2619 hm_2549 hk_2550)).symm.trans ((congrArg (hK _) e9).trans (kd_nO' (k := 10)))) (by decide)) q9) (rd_nOR (k := 10) hq_2619 hm_2549 hv_2598)
      have hv_2746 : hR S_2634 800 q_292 = (some q_297) := hf_2636.fr (mem_old hm_2518) (fun q9 => (fun e9 => absurd (((kd_nO (k := 10) hq_2619 hm_2518 hk_2519)).symm.trans ((congrArg (hK _) e9).trans (kd_nO' (k := 10)))) (by decide)) q9) (rd_nOR (k := 10) hq_2619 hm_2518 hv_2599)
      have hv_2747 : hR S_2634 800 q_40 = (some q_41) := hf_2636.fr (mem_old hm_2528) (fun q9 => (fun e9 => absurd (((kd_nO (k := 10) hq_2619 hm_2528 hk_2529)).symm.trans ((congrArg (hK _) e9).trans (kd_nO' (k := 10)))) (by decide)) q9) (rd_nOR (k := 10) hq_2619 hm_2528 hv_2600)
      have hv_2748 : hR S_2634 800 q_97 = (some q_102) := hf_2636.fr (mem_old hm_2576) (fun q9 => (fun e9 => absurd (((kd_nO (k := 10) hq_2619 hm_2576 hk_2577)).symm.trans ((congrArg (hK _) e9).trans (kd_nO' (k := 10)))) (by decide)) q9) (rd_nOR (k := 10) hq_2619 hm_2576 hv_2601)
      have hv_2749 : hR S_2634 900 h = (some s0) := hf_2636.fr (mem_old hm_2500) (fun q9 => (fun e9 => absurd (((kd_nO (k := 10) hq_2619 hm_2500 hk_2501)).symm.trans ((congrArg (hK _) e9).trans (kd_nO' (k := 10)))) (by decide)) q9) (rd_nOR (k := 10) hq_2619 hm_2500 hv_2602)
      have hv_2750 : hR S_2634 901 h = (some q_1) := hf_2636.fr (mem_old hm_2500) (fun q9 => (fun e9 => absurd (((kd_nO (k := 10) hq_2619 hm_2500 hk_2501)).symm.trans ((congrArg (hK _) e9).trans (kd_nO' (k := 10)))) (by decide)) q9) (rd_nOR (k := 10) hq_2619 hm_2500 hv_2603)
      have hv_2751 : hR S_2634 902 h = (some q_35) := hf_2636.fr (mem_old hm_2500) (fun q9 => (fun e9 => absurd (((kd_nO (k := 10) hq_2619 hm_2500 hk_2501)).symm.trans ((congrArg (hK _) e9).trans (kd_nO' (k := 10)))) (by decide)) q9) (rd_nOR (k := 10) hq_2619 hm_2500 hv_2604)
      have hv_2752 : hR S_2634 903 h = (some q_97) := hf_2636.fr (mem_old hm_2500) (fun q9 => (fun e9 => absurd (((kd_nO (k := 10) hq_2619 hm_2500 hk_2501)).symm.trans ((congrArg (hK _) e9).trans (kd_nO' (k := 10)))) (by decide)) q9) (rd_nOR (k := 10) hq_2619 hm_2500 hv_2605)
      have hv_2753 : hR S_2634 904 h = (some q_158) := hf_2636.fr (mem_old hm_2500) (fun q9 => (fun e9 => absurd (((kd_nO (k := 10) hq_2619 hm_2500 hk_2501)).symm.trans ((congrArg (hK _) e9).trans (kd_nO' (k := 10)))) (by decide)) q9) (rd_nOR (k := 10) hq_2619 hm_2500 hv_2606)
      have hv_2754 : hR S_2634 905 h = (some q_218) := hf_2636.fr (mem_old hm_2500) (fun q9 => (fun e9 => absurd (((kd_nO (k := 10) hq_2619 hm_2500 hk_2501)).symm.trans ((congrArg (hK _) e9).trans (kd_nO' (k := 10)))) (by decide)) q9) (rd_nOR (k := 10) hq_2619 hm_2500 hv_2607)
      have hv_2755 : hR S_2634 906 h = (some q_292) := hf_2636.fr (mem_old hm_2500) (fun q9 => (fun e9 => absurd (((kd_nO (k := 10) hq_2619 hm_2500 hk_2501)).symm.trans ((congrArg (hK _) e9).trans (kd_nO' (k := 10)))) (by decide)) q9) (rd_nOR (k := 10) hq_2619 hm_2500 hv_2608)
      have hv_2756 : hR S_2634 907 h = (some q_375) := hf_2636.fr (mem_old hm_2500) (fun q9 => (fun e9 => absurd (((kd_nO (k := 10) hq_2619 hm_2500 hk_2501)).symm.trans ((congrArg (hK _) e9).trans (kd_nO' (k := 10)))) (by decide)) q9) (rd_nOR (k := 10) hq_2619 hm_2500 hv_2609)
      have hv_2757 : hR S_2634 908 h = (some q_457) := hf_2636.fr (mem_old hm_2500) (fun q9 => (fun e9 => absurd (((kd_nO (k := 10) hq_2619 hm_2500 hk_2501)).symm.trans ((congrArg (hK _) e9).trans (kd_nO' (k := 10)))) (by decide)) q9) (rd_nOR (k := 10) hq_2619 hm_2500 hv_2610)
      have hv_2758 : hR S_2634 909 h = (some q_543) := hf_2636.fr (mem_old hm_2500) (fun q9 => (fun e9 => absurd (((kd_nO (k := 10) hq_2619 hm_2500 hk_2501)).symm.trans ((congrArg (hK _) e9).trans (kd_nO' (k := 10)))) (by decide)) q9) (rd_nOR (k := 10) hq_2619 hm_2500 hv_2611)
      have hv_2759 : hR S_2634 910 h = (some q_681) := hf_2636.fr (mem_old hm_2500) (fun q9 => (fun e9 => absurd (((kd_nO (k := 10) hq_2619 hm_2500 hk_2501)).symm.trans ((congrArg (hK _) e9).trans (kd_nO' (k := 10)))) (by decide)) q9) (rd_nOR (k := 10) hq_2619 hm_2500 hv_2612)
      have hv_2760 : hR S_2634 911 h = (some q_840) := hf_2636.fr (mem_old hm_2500) (fun q9 => (fun e9 => absurd (((kd_nO (k := 10) hq_2619 hm_2500 hk_2501)).symm.trans ((congrArg (hK _) e9).trans (kd_nO' (k := 10)))) (by decide)) q9) (rd_nOR (k := 10) hq_2619 hm_2500 hv_2613)
      have hv_2761 : hR S_2634 912 h = (some q_963) := hf_2636.fr (mem_old hm_2500) (fun q9 => (fun e9 => absurd (((kd_nO (k := 10) hq_2619 hm_2500 hk_2501)).symm.trans ((congrArg (hK _) e9).trans (kd_nO' (k := 10)))) (by decide)) q9) (rd_nOR (k := 10) hq_2619 hm_2500 hv_2614)
      have hv_2762 : hR S_2634 917 h = (some q_1090) := hf_2636.fr (mem_old hm_2500) (fun q9 => (fun e9 => absurd (((kd_nO (k := 10) hq_2619 hm_2500 hk_2501)).symm.trans ((congrArg (hK _) e9).trans (kd_nO' (k := 10)))) (by decide)) q9) (rd_nOR (k := 10) hq_2619 hm_2500 hv_2615)
      have hf_2763 : Fm (fun _ _ => False) (fun f9 b9 => b9 = h) (fun _ => False) S S_2634 := hf_2622.then hf_2636 (fun a9 ha9 => ⟨(fun f9 h9 => (fun h9 => h9.elim (fun h8 => absurd (h8.2 ▸ ha9) hz_2620) (fun h8 => absurd (h8.2 ▸ ha9) hz_2620)) h9), (fun f9 h9 => (fun h8 => absurd (h8 ▸ ha9) hz_2620) h9), (fun h9 => h9.elim)⟩)
      have hf_2764 : Fm (fun _ _ => False) (fun _ _ => False) (fun b9 => b9 = q_158) S_1093 S_2634 := hf_2623.then hf_2636 (fun a9 ha9 => ⟨(fun f9 h9 => (fun h9 => h9.elim (fun h8 => absurd (h8.2 ▸ ha9) hz_2621) (fun h8 => absurd (h8.2 ▸ ha9) hz_2621)) h9), (fun f9 h9 => (fun h8 => absurd (h8 ▸ ha9) hz_2621) h9), (fun h9 => h9.elim)⟩)
      have hN_2765 : NL S [q_1, q_5, q_6, q_35, q_40, q_41, q_42, q_43, q_97, q_102, q_218, q_222, q_292, q_297, q_543, q_547, q_548, q_549, q_550, q_551, q_552, q_553, q_963, q_1090] S_2634 := NL.mono (show NL S [q_1, q_5, q_6, q_35, q_40, q_41, q_42, q_43, q_97, q_102, q_218, q_222, q_292, q_297, q_543, q_547, q_548, q_549, q_550, q_551, q_552, q_553, q_963, q_1090] (nO S_1224 q_2618 10) from NL.oldO hN_2617) (fun a9 h9 => hf_2636.mem h9)
      refine j_aast (j := i1) (ci := 10) C 20  (by decide) rfl dX9_init_159 hm_2655 hk_2656 (inr_of (n := 16) hn_2657 (vp_in_nI (by omega) (by omega))) (nI_clamp (by omega)) hm_2663 hk_2664 rfl ?_
      show J _ _ _ _ _ 160 _
      refine j_iinc (q := 0) (v := nI (i1 + 1)) (lv' := [(2, .int (nI (i1 + 1))), (0, .ref h), (1, .ref s0)]) C dX9_init_160 rfl (nI_add i1 1) (by rw [hn9]; decide) rfl ?_
      refine j_goto (tgt := 138) C dX9_init_163 (by decide) ?_
      refine J.sub [0, 1, 2] (lv' := [(2, .int (nI (i1 + 1))), (0, .ref h), (1, .ref s0)]) (by rfl) ?_
      refine J.widen (k' := 0 + 1 + 4 + 1 + 8 + 1 + 1 + 1 + 1 + 1 + 1 + 1 + 1 + 1 + 1 + 8 + 1 + 8 + 1 + 1 + 1 + 2 * (i1 + 1)) (n' := 0 + 15 + 20045 + 10 + 23174 + 1 + 16 + 16 + 4 + 16 + 1 + 16 + 24000 + 16 + 21 + 117 + 21 + 117 + 3 + 4 + 12 + 20 * (i1 + 1)) (by omega) (by omega) ?_
      exact ih_1226 (i1 + 1) _  (by omega) (hf_2764.tR _ _ (fun _ => rfl)) 
  refine J.sub [0, 1, 2] (lv' := [(2, .int (nI 0)), (0, .ref h), (1, .ref s0)]) (by rfl) ?_
  refine J.widen (k' := 0 + 1 + 4 + 1 + 8 + 1 + 1 + 1 + 1 + 1 + 1 + 1 + 1 + 1 + 1 + 8 + 1 + 8 + 1 + 1 + 1 + 2 * 0) (n' := 0 + 15 + 20045 + 10 + 23174 + 1 + 16 + 16 + 4 + 16 + 1 + 16 + 24000 + 16 + 21 + 117 + 21 + 117 + 3 + 4 + 12 + 20 * 0) (by omega) (by omega) ?_
  exact loop_1227 16 0 _  (by omega) Fm.refl 
