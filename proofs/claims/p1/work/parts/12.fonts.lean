theorem dX2_init_0 : decode cX2_init 0 = .ok (.aload_n 0, 1) := by decide +kernel
theorem dX2_init_1 : decode cX2_init 1 = .ok (.invokespecial 5, 3) := by decide +kernel
theorem dX2_init_4 : decode cX2_init 4 = .ok (.aload_n 0, 1) := by decide +kernel
theorem dX2_init_5 : decode cX2_init 5 = .ok (.new 11, 3) := by decide +kernel
theorem dX2_init_8 : decode cX2_init 8 = .ok (.dup, 1) := by decide +kernel
theorem dX2_init_9 : decode cX2_init 9 = .ok (.invokespecial 13, 3) := by decide +kernel
theorem dX2_init_12 : decode cX2_init 12 = .ok (.putfield 14, 3) := by decide +kernel
theorem dX2_init_15 : decode cX2_init 15 = .ok (.aload_n 0, 1) := by decide +kernel
theorem dX2_init_16 : decode cX2_init 16 = .ok (.bipush 119, 2) := by decide +kernel
theorem dX2_init_18 : decode cX2_init 18 = .ok (.newarray .int, 2) := by decide +kernel
theorem dX2_init_20 : decode cX2_init 20 = .ok (.putfield 18, 3) := by decide +kernel
theorem dX2_init_23 : decode cX2_init 23 = .ok (.aload_n 0, 1) := by decide +kernel
theorem dX2_init_24 : decode cX2_init 24 = .ok (.sipush 4352, 3) := by decide +kernel
theorem dX2_init_27 : decode cX2_init 27 = .ok (.newarray .int, 2) := by decide +kernel
theorem dX2_init_29 : decode cX2_init 29 = .ok (.putfield 22, 3) := by decide +kernel
theorem dX2_init_32 : decode cX2_init 32 = .ok (.aload_n 0, 1) := by decide +kernel
theorem dX2_init_33 : decode cX2_init 33 = .ok (.sipush 400, 3) := by decide +kernel
theorem dX2_init_36 : decode cX2_init 36 = .ok (.newarray .boolean, 2) := by decide +kernel
theorem dX2_init_38 : decode cX2_init 38 = .ok (.putfield 25, 3) := by decide +kernel
theorem dX2_init_41 : decode cX2_init 41 = .ok (.aload_n 0, 1) := by decide +kernel
theorem dX2_init_42 : decode cX2_init 42 = .ok (.sipush 2470, 3) := by decide +kernel
theorem dX2_init_45 : decode cX2_init 45 = .ok (.newarray .int, 2) := by decide +kernel
theorem dX2_init_47 : decode cX2_init 47 = .ok (.putfield 29, 3) := by decide +kernel
theorem dX2_init_50 : decode cX2_init 50 = .ok (.aload_n 0, 1) := by decide +kernel
theorem dX2_init_51 : decode cX2_init 51 = .ok (.sipush 15808, 3) := by decide +kernel
theorem dX2_init_54 : decode cX2_init 54 = .ok (.newarray .int, 2) := by decide +kernel
theorem dX2_init_56 : decode cX2_init 56 = .ok (.putfield 32, 3) := by decide +kernel
theorem dX2_init_59 : decode cX2_init 59 = .ok (.aload_n 0, 1) := by decide +kernel
theorem dX2_init_60 : decode cX2_init 60 = .ok (.bipush 8, 2) := by decide +kernel
theorem dX2_init_62 : decode cX2_init 62 = .ok (.newarray .int, 2) := by decide +kernel
theorem dX2_init_64 : decode cX2_init 64 = .ok (.putfield 35, 3) := by decide +kernel
theorem dX2_init_67 : decode cX2_init 67 = .ok (.aload_n 0, 1) := by decide +kernel
theorem dX2_init_68 : decode cX2_init 68 = .ok (.getfield 35, 3) := by decide +kernel
theorem dX2_init_71 : decode cX2_init 71 = .ok (.invokestatic 38, 3) := by decide +kernel
theorem dX2_init_74 : decode cX2_init 74 = .ok (.aload_n 0, 1) := by decide +kernel
theorem dX2_init_75 : decode cX2_init 75 = .ok (.getfield 35, 3) := by decide +kernel
theorem dX2_init_78 : decode cX2_init 78 = .ok (.iconst 0, 1) := by decide +kernel
theorem dX2_init_79 : decode cX2_init 79 = .ok (.aload_n 0, 1) := by decide +kernel
theorem dX2_init_80 : decode cX2_init 80 = .ok (.getfield 18, 3) := by decide +kernel
theorem dX2_init_83 : decode cX2_init 83 = .ok (.bipush 112, 2) := by decide +kernel
theorem dX2_init_85 : decode cX2_init 85 = .ok (.bipush 7, 2) := by decide +kernel
theorem dX2_init_87 : decode cX2_init 87 = .ok (.invokestatic 42, 3) := by decide +kernel
theorem dX2_init_90 : decode cX2_init 90 = .ok (.bipush 33, 2) := by decide +kernel
theorem dX2_init_92 : decode cX2_init 92 = .ok (.istore_n 1, 1) := by decide +kernel
theorem dX2_init_93 : decode cX2_init 93 = .ok (.iload_n 1, 1) := by decide +kernel
theorem dX2_init_94 : decode cX2_init 94 = .ok (.bipush 126, 2) := by decide +kernel
theorem dX2_init_96 : decode cX2_init 96 = .ok (.if_icmp .gt 97, 3) := by decide +kernel
theorem dX2_init_99 : decode cX2_init 99 = .ok (.sipush 400, 3) := by decide +kernel
theorem dX2_init_102 : decode cX2_init 102 = .ok (.iload_n 1, 1) := by decide +kernel
theorem dX2_init_103 : decode cX2_init 103 = .ok (.iadd, 1) := by decide +kernel
theorem dX2_init_104 : decode cX2_init 104 = .ok (.bipush 33, 2) := by decide +kernel
theorem dX2_init_106 : decode cX2_init 106 = .ok (.isub, 1) := by decide +kernel
theorem dX2_init_107 : decode cX2_init 107 = .ok (.istore_n 2, 1) := by decide +kernel
theorem dX2_init_108 : decode cX2_init 108 = .ok (.aload_n 0, 1) := by decide +kernel
theorem dX2_init_109 : decode cX2_init 109 = .ok (.getfield 22, 3) := by decide +kernel
theorem dX2_init_112 : decode cX2_init 112 = .ok (.sipush 4096, 3) := by decide +kernel
theorem dX2_init_115 : decode cX2_init 115 = .ok (.iload_n 1, 1) := by decide +kernel
theorem dX2_init_116 : decode cX2_init 116 = .ok (.iadd, 1) := by decide +kernel
theorem dX2_init_117 : decode cX2_init 117 = .ok (.iload_n 2, 1) := by decide +kernel
theorem dX2_init_118 : decode cX2_init 118 = .ok (.iconst 1, 1) := by decide +kernel
theorem dX2_init_119 : decode cX2_init 119 = .ok (.iadd, 1) := by decide +kernel
theorem dX2_init_120 : decode cX2_init 120 = .ok (.iastore, 1) := by decide +kernel
theorem dX2_init_121 : decode cX2_init 121 = .ok (.aload_n 0, 1) := by decide +kernel
theorem dX2_init_122 : decode cX2_init 122 = .ok (.iload_n 2, 1) := by decide +kernel
theorem dX2_init_123 : decode cX2_init 123 = .ok (.iconst 0, 1) := by decide +kernel
theorem dX2_init_124 : decode cX2_init 124 = .ok (.bipush 7, 2) := by decide +kernel
theorem dX2_init_126 : decode cX2_init 126 = .ok (.bipush 6, 2) := by decide +kernel
theorem dX2_init_128 : decode cX2_init 128 = .ok (.bipush 8, 2) := by decide +kernel
theorem dX2_init_130 : decode cX2_init 130 = .ok (.sipush 720, 3) := by decide +kernel
theorem dX2_init_133 : decode cX2_init 133 = .ok (.invokevirtual 48, 3) := by decide +kernel
theorem dX2_init_136 : decode cX2_init 136 = .ok (.iconst 0, 1) := by decide +kernel
theorem dX2_init_137 : decode cX2_init 137 = .ok (.istore_n 3, 1) := by decide +kernel
theorem dX2_init_138 : decode cX2_init 138 = .ok (.iload_n 3, 1) := by decide +kernel
theorem dX2_init_139 : decode cX2_init 139 = .ok (.bipush 8, 2) := by decide +kernel
theorem dX2_init_141 : decode cX2_init 141 = .ok (.if_icmp .ge 46, 3) := by decide +kernel
theorem dX2_init_144 : decode cX2_init 144 = .ok (.iload_n 1, 1) := by decide +kernel
theorem dX2_init_145 : decode cX2_init 145 = .ok (.iload_n 1, 1) := by decide +kernel
theorem dX2_init_146 : decode cX2_init 146 = .ok (.imul, 1) := by decide +kernel
theorem dX2_init_147 : decode cX2_init 147 = .ok (.bipush 7, 2) := by decide +kernel
theorem dX2_init_149 : decode cX2_init 149 = .ok (.iload_n 1, 1) := by decide +kernel
theorem dX2_init_150 : decode cX2_init 150 = .ok (.imul, 1) := by decide +kernel
theorem dX2_init_151 : decode cX2_init 151 = .ok (.iload_n 3, 1) := by decide +kernel
theorem dX2_init_152 : decode cX2_init 152 = .ok (.imul, 1) := by decide +kernel
theorem dX2_init_153 : decode cX2_init 153 = .ok (.iadd, 1) := by decide +kernel
theorem dX2_init_154 : decode cX2_init 154 = .ok (.bipush 13, 2) := by decide +kernel
theorem dX2_init_156 : decode cX2_init 156 = .ok (.iload_n 3, 1) := by decide +kernel
theorem dX2_init_157 : decode cX2_init 157 = .ok (.imul, 1) := by decide +kernel
theorem dX2_init_158 : decode cX2_init 158 = .ok (.iload_n 3, 1) := by decide +kernel
theorem dX2_init_159 : decode cX2_init 159 = .ok (.imul, 1) := by decide +kernel
theorem dX2_init_160 : decode cX2_init 160 = .ok (.iadd, 1) := by decide +kernel
theorem dX2_init_161 : decode cX2_init 161 = .ok (.iconst 4, 1) := by decide +kernel
theorem dX2_init_162 : decode cX2_init 162 = .ok (.idiv, 1) := by decide +kernel
theorem dX2_init_163 : decode cX2_init 163 = .ok (.istore 4, 2) := by decide +kernel
theorem dX2_init_165 : decode cX2_init 165 = .ok (.aload_n 0, 1) := by decide +kernel
theorem dX2_init_166 : decode cX2_init 166 = .ok (.getfield 32, 3) := by decide +kernel
theorem dX2_init_169 : decode cX2_init 169 = .ok (.iload_n 2, 1) := by decide +kernel
theorem dX2_init_170 : decode cX2_init 170 = .ok (.bipush 32, 2) := by decide +kernel
theorem dX2_init_172 : decode cX2_init 172 = .ok (.imul, 1) := by decide +kernel
theorem dX2_init_173 : decode cX2_init 173 = .ok (.iload_n 3, 1) := by decide +kernel
theorem dX2_init_174 : decode cX2_init 174 = .ok (.iadd, 1) := by decide +kernel
theorem dX2_init_175 : decode cX2_init 175 = .ok (.iload 4, 2) := by decide +kernel
theorem dX2_init_177 : decode cX2_init 177 = .ok (.bipush 26, 2) := by decide +kernel
theorem dX2_init_179 : decode cX2_init 179 = .ok (.ishl, 1) := by decide +kernel
theorem dX2_init_180 : decode cX2_init 180 = .ok (.iastore, 1) := by decide +kernel
theorem dX2_init_181 : decode cX2_init 181 = .ok (.iinc 3 1, 3) := by decide +kernel
theorem dX2_init_184 : decode cX2_init 184 = .ok (.goto (-46), 3) := by decide +kernel
theorem dX2_init_187 : decode cX2_init 187 = .ok (.iinc 1 1, 3) := by decide +kernel
theorem dX2_init_190 : decode cX2_init 190 = .ok (.goto (-97), 3) := by decide +kernel
theorem dX2_init_193 : decode cX2_init 193 = .ok (.return_, 1) := by decide +kernel
set_option maxRecDepth 100000 in
set_option maxHeartbeats 4000000 in
theorem c_X2_init (S : Hp) (h : Nat) (hm : h ∈ hL S) (hk : hK S h = 2) : Ct 3 yX2_init cX2_init 5 none 8 23174 [.ref h] S (fun r S' => r = none ∧ Fm (fun _ _ => False) (fun f9 b9 => b9 = h) (fun _ => False) S S' ∧ ∃ q0 q1 : Nat, q0 ∉ hL S ∧ q0 ∈ hL S' ∧ hK S' q0 = 8 ∧ hR S' 200 h = some q0 ∧ q1 ∉ hL S ∧ q1 ∈ hL S' ∧ hK S' q1 = 14 ∧ hN S' q1 = 16 ∧ hR S' 800 q0 = some q1 ∧ (∀ j, aI S' q1 j = 0)) := by
  refine ct_of (by decide) (Nat.le_of_ble_eq_true rfl) fun x hn9 C M hm9 => ?_
  have C : CB x RX2 cX2_init := C
  refine J.eq (lv' := [(0, .ref h)]) rfl rfl rfl ?_
  refine j_aload_n C dX2_init_0 rfl 0 rfl ?_
  refine j_objInit C mlX2_5 nst_oi (M.fl (by decide)) dX2_init_1 ?_
  refine j_aload_n C dX2_init_4 rfl 0 rfl ?_
  refine j_new (N := 1) C (ci := 8) rfl rfl klX2_11 knX8 kiX8 (M.cells (by decide)) (M.slots (by decide)) dX2_init_5 (fun q_1 hq_2 => ?_)
  have hz_3 : q_1 ∉ hL S := hq_2
  refine j_dup C dX2_init_8 rfl ?_
  have hf_4 : Fm (fun _ _ => False) (fun f9 b9 => b9 = h) (fun _ => False) S (nO S q_1 8) := ((Fm.refl (WI := (fun _ _ => False)) (WR := (fun f9 b9 => b9 = h)) (WA := (fun _ => False))).nO _ hq_2)
  refine j_callI C [] [.ref q_1, .ref h] mlX2_13 mcX8_init (c_X8_init (nO S q_1 8) q_1 mem_new (kd_nO' (k := 8))) (M.rm (by decide) (by decide) (Nat.le_of_ble_eq_true rfl) (Nat.le_of_ble_eq_true rfl)) rfl rfl (Nat.le_of_ble_eq_true rfl) dX2_init_9 (fun r_12 S_13 hp_14 => ?_)
  obtain ⟨rfl, hf_15, q_5, e_6, e_7, e_8, e_9, e_10, e_11⟩ := hp_14
  refine J.eq (st' := [.ref q_1, .ref h]) rfl rfl rfl ?_
  have hm_16 : h ∈ hL S_13 := hf_15.mem (mem_old hm)
  have hk_17 : hK S_13 h = 2 := hf_15.kd (mem_old hm) (kd_nO (k := 8) hq_2 hm hk)
  have hm_18 : q_1 ∈ hL S_13 := hf_15.mem mem_new
  have hk_19 : hK S_13 q_1 = 8 := hf_15.kd mem_new (kd_nO' (k := 8))
  have hf_20 : Fm (fun _ _ => False) (fun f9 b9 => b9 = h) (fun _ => False) S S_13 := hf_4.then hf_15 (fun a9 ha9 => ⟨(fun f9 h9 => h9.elim), (fun f9 h9 => (fun h8 => absurd (h8 ▸ ha9) hz_3) h9), (fun h9 => h9.elim)⟩)
  have hz_21 : q_5 ∉ hL S := fun h9 => e_6 (hf_4.mem h9)
  refine j_putrF (f := 200) C hm9 flX2_14o (by decide) rfl rfl dX2_init_12 hm_16 hk_17 rfl ?_
  refine j_aload_n C dX2_init_15 rfl 0 rfl ?_
  show J _ _ _ _ _ 16 _
  refine j_bipush (v := 119) C dX2_init_16 (by decide) ?_
  have hf_24 : Fm (fun _ _ => False) (fun f9 b9 => b9 = h) (fun _ => False) S (sR S_13 200 h (some q_1)) := (hf_20.sR _ (fun _ => rfl))
  refine j_newI (N := 119) C ka_int (by decide) (by decide) (Nat.le_of_ble_eq_true rfl) (M.cells (by decide)) (M.slots (Nat.le_of_ble_eq_true rfl)) dX2_init_18 (fun q_22 hq_23 => ?_)
  have hz_25 : q_22 ∉ hL S := fun h9 => hq_23 (hf_24.mem h9)
  refine j_putrF (f := 201) C hm9 flX2_18o (by decide) rfl rfl dX2_init_20 (mem_old hm_16) (kd_nA (k := 14) (n := 119) hq_23 hm_16 hk_17) rfl ?_
  refine j_aload_n C dX2_init_23 rfl 0 rfl ?_
  refine j_sipush (v := 4352) C dX2_init_24 (by decide) ?_
  have hf_28 : Fm (fun _ _ => False) (fun f9 b9 => b9 = h) (fun _ => False) S (sR (nA (sR S_13 200 h (some q_1)) q_22 14 119) 201 h (some q_22)) := ((hf_24.nA _ _ hq_23).sR _ (fun _ => rfl))
  refine j_newI (N := 4352) C ka_int (by decide) (by decide) (Nat.le_of_ble_eq_true rfl) (M.cells (by decide)) (M.slots (Nat.le_of_ble_eq_true rfl)) dX2_init_27 (fun q_26 hq_27 => ?_)
  have hz_29 : q_26 ∉ hL S := fun h9 => hq_27 (hf_28.mem h9)
  refine j_putrF (f := 202) C hm9 flX2_22o (by decide) rfl rfl dX2_init_29 (mem_old (mem_old hm_16)) (kd_nA (k := 14) (n := 4352) hq_27 (mem_old hm_16) (kd_nA (k := 14) (n := 119) hq_23 hm_16 hk_17)) rfl ?_
  refine j_aload_n C dX2_init_32 rfl 0 rfl ?_
  show J _ _ _ _ _ 33 _
  refine j_sipush (v := 400) C dX2_init_33 (by decide) ?_
  have hf_32 : Fm (fun _ _ => False) (fun f9 b9 => b9 = h) (fun _ => False) S (sR (nA (sR (nA (sR S_13 200 h (some q_1)) q_22 14 119) 201 h (some q_22)) q_26 14 4352) 202 h (some q_26)) := ((hf_28.nA _ _ hq_27).sR _ (fun _ => rfl))
  refine j_newZ (N := 400) C ka_boolean (by decide) (by decide) (Nat.le_of_ble_eq_true rfl) (M.cells (by decide)) (M.slots (Nat.le_of_ble_eq_true rfl)) dX2_init_36 (fun q_30 hq_31 => ?_)
  have hz_33 : q_30 ∉ hL S := fun h9 => hq_31 (hf_32.mem h9)
  refine j_putrF (f := 203) C hm9 flX2_25o (by decide) rfl rfl dX2_init_38 (mem_old (mem_old (mem_old hm_16))) (kd_nA (k := 17) (n := 400) hq_31 (mem_old (mem_old hm_16)) (kd_nA (k := 14) (n := 4352) hq_27 (mem_old hm_16) (kd_nA (k := 14) (n := 119) hq_23 hm_16 hk_17))) rfl ?_
  refine j_aload_n C dX2_init_41 rfl 0 rfl ?_
  refine j_sipush (v := 2470) C dX2_init_42 (by decide) ?_
  have hf_36 : Fm (fun _ _ => False) (fun f9 b9 => b9 = h) (fun _ => False) S (sR (nA (sR (nA (sR (nA (sR S_13 200 h (some q_1)) q_22 14 119) 201 h (some q_22)) q_26 14 4352) 202 h (some q_26)) q_30 17 400) 203 h (some q_30)) := ((hf_32.nA _ _ hq_31).sR _ (fun _ => rfl))
  refine j_newI (N := 2470) C ka_int (by decide) (by decide) (Nat.le_of_ble_eq_true rfl) (M.cells (by decide)) (M.slots (Nat.le_of_ble_eq_true rfl)) dX2_init_45 (fun q_34 hq_35 => ?_)
  have hz_37 : q_34 ∉ hL S := fun h9 => hq_35 (hf_36.mem h9)
  refine j_putrF (f := 204) C hm9 flX2_29o (by decide) rfl rfl dX2_init_47 (mem_old (mem_old (mem_old (mem_old hm_16)))) (kd_nA (k := 14) (n := 2470) hq_35 (mem_old (mem_old (mem_old hm_16))) (kd_nA (k := 17) (n := 400) hq_31 (mem_old (mem_old hm_16)) (kd_nA (k := 14) (n := 4352) hq_27 (mem_old hm_16) (kd_nA (k := 14) (n := 119) hq_23 hm_16 hk_17)))) rfl ?_
  refine j_aload_n C dX2_init_50 rfl 0 rfl ?_
  show J _ _ _ _ _ 51 _
  refine j_sipush (v := 15808) C dX2_init_51 (by decide) ?_
  have hf_40 : Fm (fun _ _ => False) (fun f9 b9 => b9 = h) (fun _ => False) S (sR (nA (sR (nA (sR (nA (sR (nA (sR S_13 200 h (some q_1)) q_22 14 119) 201 h (some q_22)) q_26 14 4352) 202 h (some q_26)) q_30 17 400) 203 h (some q_30)) q_34 14 2470) 204 h (some q_34)) := ((hf_36.nA _ _ hq_35).sR _ (fun _ => rfl))
  refine j_newI (N := 15808) C ka_int (by decide) (by decide) (Nat.le_of_ble_eq_true rfl) (M.cells (by decide)) (M.slots (Nat.le_of_ble_eq_true rfl)) dX2_init_54 (fun q_38 hq_39 => ?_)
  have hz_41 : q_38 ∉ hL S := fun h9 => hq_39 (hf_40.mem h9)
  refine j_putrF (f := 205) C hm9 flX2_32o (by decide) rfl rfl dX2_init_56 (mem_old (mem_old (mem_old (mem_old (mem_old hm_16))))) (kd_nA (k := 14) (n := 15808) hq_39 (mem_old (mem_old (mem_old (mem_old hm_16)))) (kd_nA (k := 14) (n := 2470) hq_35 (mem_old (mem_old (mem_old hm_16))) (kd_nA (k := 17) (n := 400) hq_31 (mem_old (mem_old hm_16)) (kd_nA (k := 14) (n := 4352) hq_27 (mem_old hm_16) (kd_nA (k := 14) (n := 119) hq_23 hm_16 hk_17))))) rfl ?_
  refine j_aload_n C dX2_init_59 rfl 0 rfl ?_
  refine j_bipush (v := 8) C dX2_init_60 (by decide) ?_
  have hf_44 : Fm (fun _ _ => False) (fun f9 b9 => b9 = h) (fun _ => False) S (sR (nA (sR (nA (sR (nA (sR (nA (sR (nA (sR S_13 200 h (some q_1)) q_22 14 119) 201 h (some q_22)) q_26 14 4352) 202 h (some q_26)) q_30 17 400) 203 h (some q_30)) q_34 14 2470) 204 h (some q_34)) q_38 14 15808) 205 h (some q_38)) := ((hf_40.nA _ _ hq_39).sR _ (fun _ => rfl))
  refine j_newI (N := 8) C ka_int (by decide) (by decide) (Nat.le_of_ble_eq_true rfl) (M.cells (by decide)) (M.slots (Nat.le_of_ble_eq_true rfl)) dX2_init_62 (fun q_42 hq_43 => ?_)
  have hz_45 : q_42 ∉ hL S := fun h9 => hq_43 (hf_44.mem h9)
  refine j_putrF (f := 207) C hm9 flX2_35o (by decide) rfl rfl dX2_init_64 (mem_old (mem_old (mem_old (mem_old (mem_old (mem_old hm_16)))))) (kd_nA (k := 14) (n := 8) hq_43 (mem_old (mem_old (mem_old (mem_old (mem_old hm_16))))) (kd_nA (k := 14) (n := 15808) hq_39 (mem_old (mem_old (mem_old (mem_old hm_16)))) (kd_nA (k := 14) (n := 2470) hq_35 (mem_old (mem_old (mem_old hm_16))) (kd_nA (k := 17) (n := 400) hq_31 (mem_old (mem_old hm_16)) (kd_nA (k := 14) (n := 4352) hq_27 (mem_old hm_16) (kd_nA (k := 14) (n := 119) hq_23 hm_16 hk_17)))))) rfl ?_
  refine j_aload_n C dX2_init_67 rfl 0 rfl ?_
  show J _ _ _ _ _ 68 _
  refine j_getr (f := 207) (v := q_42) C flX2_35 dX2_init_68 (mem_old (mem_old (mem_old (mem_old (mem_old (mem_old hm_16)))))) (kd_nA (k := 14) (n := 8) hq_43 (mem_old (mem_old (mem_old (mem_old (mem_old hm_16))))) (kd_nA (k := 14) (n := 15808) hq_39 (mem_old (mem_old (mem_old (mem_old hm_16)))) (kd_nA (k := 14) (n := 2470) hq_35 (mem_old (mem_old (mem_old hm_16))) (kd_nA (k := 17) (n := 400) hq_31 (mem_old (mem_old hm_16)) (kd_nA (k := 14) (n := 4352) hq_27 (mem_old hm_16) (kd_nA (k := 14) (n := 119) hq_23 hm_16 hk_17)))))) (by decide) rfl (rd_sR (S := (nA (sR (nA (sR (nA (sR (nA (sR (nA (sR (nA (sR S_13 200 h (some q_1)) q_22 14 119) 201 h (some q_22)) q_26 14 4352) 202 h (some q_26)) q_30 17 400) 203 h (some q_30)) q_34 14 2470) 204 h (some q_34)) q_38 14 15808) 205 h (some q_38)) q_42 14 8)) (g := 207) (a := h) (v := (some q_42))) ?_
  have hf_46 : Fm (fun _ _ => False) (fun f9 b9 => b9 = h) (fun _ => False) S (sR (nA (sR (nA (sR (nA (sR (nA (sR (nA (sR (nA (sR S_13 200 h (some q_1)) q_22 14 119) 201 h (some q_22)) q_26 14 4352) 202 h (some q_26)) q_30 17 400) 203 h (some q_30)) q_34 14 2470) 204 h (some q_34)) q_38 14 15808) 205 h (some q_38)) q_42 14 8) 207 h (some q_42)) := ((hf_44.nA _ _ hq_43).sR _ (fun _ => rfl))
  refine j_callS C [.ref q_42] [] mlX2_38 mcX2_firstWishes (c_X2_firstWishes (sR (nA (sR (nA (sR (nA (sR (nA (sR (nA (sR (nA (sR S_13 200 h (some q_1)) q_22 14 119) 201 h (some q_22)) q_26 14 4352) 202 h (some q_26)) q_30 17 400) 203 h (some q_30)) q_34 14 2470) 204 h (some q_34)) q_38 14 15808) 205 h (some q_38)) q_42 14 8) 207 h (some q_42)) q_42 mem_new (kd_nA' (k := 14) (n := 8)) (ln_nA' (k := 14))) (M.rm (by decide) (by decide) (Nat.le_of_ble_eq_true rfl) (Nat.le_of_ble_eq_true rfl)) rfl rfl (Nat.le_of_ble_eq_true rfl) dX2_init_71 (fun r_47 S_48 hp_49 => ?_)
  obtain ⟨rfl, hf_50⟩ := hp_49
  refine J.eq (st' := []) rfl rfl rfl ?_
  have hz_51 : ∀ j, aI S_48 q_22 j = 0 := fun j9 => (hf_50.ai (mem_old (mem_old (mem_old (mem_old (mem_old mem_new))))) (fun q9 => (ne_of_nin hq_43 (mem_old (mem_old (mem_old (mem_old mem_new))))) q9) j9).trans ((fun j9 => rd_nAI (k := 14) (n := 8) hq_43 (mem_old (mem_old (mem_old (mem_old mem_new)))) ((fun j9 => rd_nAI (k := 14) (n := 15808) hq_39 (mem_old (mem_old (mem_old mem_new))) ((fun j9 => rd_nAI (k := 14) (n := 2470) hq_35 (mem_old (mem_old mem_new)) ((fun j9 => rd_nAI (k := 17) (n := 400) hq_31 (mem_old mem_new) ((fun j9 => rd_nAI (k := 14) (n := 4352) hq_27 mem_new ((fun j9 => rd_nAI' (k := 14) (n := 119)) j9)) j9)) j9)) j9)) j9)) j9)
  have hz_52 : ∀ j, aI S_48 q_26 j = 0 := fun j9 => (hf_50.ai (mem_old (mem_old (mem_old (mem_old mem_new)))) (fun q9 => (ne_of_nin hq_43 (mem_old (mem_old (mem_old mem_new)))) q9) j9).trans ((fun j9 => rd_nAI (k := 14) (n := 8) hq_43 (mem_old (mem_old (mem_old mem_new))) ((fun j9 => rd_nAI (k := 14) (n := 15808) hq_39 (mem_old (mem_old mem_new)) ((fun j9 => rd_nAI (k := 14) (n := 2470) hq_35 (mem_old mem_new) ((fun j9 => rd_nAI (k := 17) (n := 400) hq_31 mem_new ((fun j9 => rd_nAI' (k := 14) (n := 4352)) j9)) j9)) j9)) j9)) j9)
  have hz_53 : ∀ j, aI S_48 q_30 j = 0 := fun j9 => (hf_50.ai (mem_old (mem_old (mem_old mem_new))) (fun q9 => (fun e9 => absurd (((kd_nA (k := 14) (n := 8) hq_43 (mem_old (mem_old mem_new)) (kd_nA (k := 14) (n := 15808) hq_39 (mem_old mem_new) (kd_nA (k := 14) (n := 2470) hq_35 mem_new (kd_nA' (k := 17) (n := 400)))))).symm.trans ((congrArg (hK _) e9).trans (kd_nA' (k := 14) (n := 8)))) (by decide)) q9) j9).trans ((fun j9 => rd_nAI (k := 14) (n := 8) hq_43 (mem_old (mem_old mem_new)) ((fun j9 => rd_nAI (k := 14) (n := 15808) hq_39 (mem_old mem_new) ((fun j9 => rd_nAI (k := 14) (n := 2470) hq_35 mem_new ((fun j9 => rd_nAI' (k := 17) (n := 400)) j9)) j9)) j9)) j9)
  have hz_54 : ∀ j, aI S_48 q_34 j = 0 := fun j9 => (hf_50.ai (mem_old (mem_old mem_new)) (fun q9 => (ne_of_nin hq_43 (mem_old mem_new)) q9) j9).trans ((fun j9 => rd_nAI (k := 14) (n := 8) hq_43 (mem_old mem_new) ((fun j9 => rd_nAI (k := 14) (n := 15808) hq_39 mem_new ((fun j9 => rd_nAI' (k := 14) (n := 2470)) j9)) j9)) j9)
  have hz_55 : ∀ j, aI S_48 q_38 j = 0 := fun j9 => (hf_50.ai (mem_old mem_new) (fun q9 => (ne_of_nin hq_43 mem_new) q9) j9).trans ((fun j9 => rd_nAI (k := 14) (n := 8) hq_43 mem_new ((fun j9 => rd_nAI' (k := 14) (n := 15808)) j9)) j9)
  have hz_56 : ∀ j, aI S_48 q_5 j = 0 := fun j9 => (hf_50.ai (mem_old (mem_old (mem_old (mem_old (mem_old (mem_old e_7)))))) (fun q9 => (ne_of_nin hq_43 (mem_old (mem_old (mem_old (mem_old (mem_old e_7)))))) q9) j9).trans ((fun j9 => rd_nAI (k := 14) (n := 8) hq_43 (mem_old (mem_old (mem_old (mem_old (mem_old e_7))))) ((fun j9 => rd_nAI (k := 14) (n := 15808) hq_39 (mem_old (mem_old (mem_old (mem_old e_7)))) ((fun j9 => rd_nAI (k := 14) (n := 2470) hq_35 (mem_old (mem_old (mem_old e_7))) ((fun j9 => rd_nAI (k := 17) (n := 400) hq_31 (mem_old (mem_old e_7)) ((fun j9 => rd_nAI (k := 14) (n := 4352) hq_27 (mem_old e_7) ((fun j9 => rd_nAI (k := 14) (n := 119) hq_23 e_7 (e_11 j9)) j9)) j9)) j9)) j9)) j9)) j9)
  have hm_57 : h ∈ hL S_48 := hf_50.mem (mem_old (mem_old (mem_old (mem_old (mem_old (mem_old hm_16))))))
  have hk_58 : hK S_48 h = 2 := hf_50.kd (mem_old (mem_old (mem_old (mem_old (mem_old (mem_old hm_16)))))) (kd_nA (k := 14) (n := 8) hq_43 (mem_old (mem_old (mem_old (mem_old (mem_old hm_16))))) (kd_nA (k := 14) (n := 15808) hq_39 (mem_old (mem_old (mem_old (mem_old hm_16)))) (kd_nA (k := 14) (n := 2470) hq_35 (mem_old (mem_old (mem_old hm_16))) (kd_nA (k := 17) (n := 400) hq_31 (mem_old (mem_old hm_16)) (kd_nA (k := 14) (n := 4352) hq_27 (mem_old hm_16) (kd_nA (k := 14) (n := 119) hq_23 hm_16 hk_17))))))
  have hm_59 : q_1 ∈ hL S_48 := hf_50.mem (mem_old (mem_old (mem_old (mem_old (mem_old (mem_old hm_18))))))
  have hk_60 : hK S_48 q_1 = 8 := hf_50.kd (mem_old (mem_old (mem_old (mem_old (mem_old (mem_old hm_18)))))) (kd_nA (k := 14) (n := 8) hq_43 (mem_old (mem_old (mem_old (mem_old (mem_old hm_18))))) (kd_nA (k := 14) (n := 15808) hq_39 (mem_old (mem_old (mem_old (mem_old hm_18)))) (kd_nA (k := 14) (n := 2470) hq_35 (mem_old (mem_old (mem_old hm_18))) (kd_nA (k := 17) (n := 400) hq_31 (mem_old (mem_old hm_18)) (kd_nA (k := 14) (n := 4352) hq_27 (mem_old hm_18) (kd_nA (k := 14) (n := 119) hq_23 hm_18 hk_19))))))
  have hm_61 : q_22 ∈ hL S_48 := hf_50.mem (mem_old (mem_old (mem_old (mem_old (mem_old mem_new)))))
  have hk_62 : hK S_48 q_22 = 14 := hf_50.kd (mem_old (mem_old (mem_old (mem_old (mem_old mem_new))))) (kd_nA (k := 14) (n := 8) hq_43 (mem_old (mem_old (mem_old (mem_old mem_new)))) (kd_nA (k := 14) (n := 15808) hq_39 (mem_old (mem_old (mem_old mem_new))) (kd_nA (k := 14) (n := 2470) hq_35 (mem_old (mem_old mem_new)) (kd_nA (k := 17) (n := 400) hq_31 (mem_old mem_new) (kd_nA (k := 14) (n := 4352) hq_27 mem_new (kd_nA' (k := 14) (n := 119)))))))
  have hn_63 : hN S_48 q_22 = 119 := hf_50.ln (mem_old (mem_old (mem_old (mem_old (mem_old mem_new))))) (ln_nA (k := 14) hq_43 (mem_old (mem_old (mem_old (mem_old mem_new)))) (ln_nA (k := 14) hq_39 (mem_old (mem_old (mem_old mem_new))) (ln_nA (k := 14) hq_35 (mem_old (mem_old mem_new)) (ln_nA (k := 17) hq_31 (mem_old mem_new) (ln_nA (k := 14) hq_27 mem_new (ln_nA' (k := 14)))))))
  have hm_64 : q_26 ∈ hL S_48 := hf_50.mem (mem_old (mem_old (mem_old (mem_old mem_new))))
  have hk_65 : hK S_48 q_26 = 14 := hf_50.kd (mem_old (mem_old (mem_old (mem_old mem_new)))) (kd_nA (k := 14) (n := 8) hq_43 (mem_old (mem_old (mem_old mem_new))) (kd_nA (k := 14) (n := 15808) hq_39 (mem_old (mem_old mem_new)) (kd_nA (k := 14) (n := 2470) hq_35 (mem_old mem_new) (kd_nA (k := 17) (n := 400) hq_31 mem_new (kd_nA' (k := 14) (n := 4352))))))
  have hn_66 : hN S_48 q_26 = 4352 := hf_50.ln (mem_old (mem_old (mem_old (mem_old mem_new)))) (ln_nA (k := 14) hq_43 (mem_old (mem_old (mem_old mem_new))) (ln_nA (k := 14) hq_39 (mem_old (mem_old mem_new)) (ln_nA (k := 14) hq_35 (mem_old mem_new) (ln_nA (k := 17) hq_31 mem_new (ln_nA' (k := 14))))))
  have hm_67 : q_30 ∈ hL S_48 := hf_50.mem (mem_old (mem_old (mem_old mem_new)))
  have hk_68 : hK S_48 q_30 = 17 := hf_50.kd (mem_old (mem_old (mem_old mem_new))) (kd_nA (k := 14) (n := 8) hq_43 (mem_old (mem_old mem_new)) (kd_nA (k := 14) (n := 15808) hq_39 (mem_old mem_new) (kd_nA (k := 14) (n := 2470) hq_35 mem_new (kd_nA' (k := 17) (n := 400)))))
  have hn_69 : hN S_48 q_30 = 400 := hf_50.ln (mem_old (mem_old (mem_old mem_new))) (ln_nA (k := 14) hq_43 (mem_old (mem_old mem_new)) (ln_nA (k := 14) hq_39 (mem_old mem_new) (ln_nA (k := 14) hq_35 mem_new (ln_nA' (k := 17)))))
  have hm_70 : q_34 ∈ hL S_48 := hf_50.mem (mem_old (mem_old mem_new))
  have hk_71 : hK S_48 q_34 = 14 := hf_50.kd (mem_old (mem_old mem_new)) (kd_nA (k := 14) (n := 8) hq_43 (mem_old mem_new) (kd_nA (k := 14) (n := 15808) hq_39 mem_new (kd_nA' (k := 14) (n := 2470))))
  have hn_72 : hN S_48 q_34 = 2470 := hf_50.ln (mem_old (mem_old mem_new)) (ln_nA (k := 14) hq_43 (mem_old mem_new) (ln_nA (k := 14) hq_39 mem_new (ln_nA' (k := 14))))
  have hm_73 : q_38 ∈ hL S_48 := hf_50.mem (mem_old mem_new)
  have hk_74 : hK S_48 q_38 = 14 := hf_50.kd (mem_old mem_new) (kd_nA (k := 14) (n := 8) hq_43 mem_new (kd_nA' (k := 14) (n := 15808)))
  have hn_75 : hN S_48 q_38 = 15808 := hf_50.ln (mem_old mem_new) (ln_nA (k := 14) hq_43 mem_new (ln_nA' (k := 14)))
  have hm_76 : q_42 ∈ hL S_48 := hf_50.mem mem_new
  have hk_77 : hK S_48 q_42 = 14 := hf_50.kd mem_new (kd_nA' (k := 14) (n := 8))
  have hn_78 : hN S_48 q_42 = 8 := hf_50.ln mem_new (ln_nA' (k := 14))
  have hm_79 : q_5 ∈ hL S_48 := hf_50.mem (mem_old (mem_old (mem_old (mem_old (mem_old (mem_old e_7))))))
  have hk_80 : hK S_48 q_5 = 14 := hf_50.kd (mem_old (mem_old (mem_old (mem_old (mem_old (mem_old e_7)))))) (kd_nA (k := 14) (n := 8) hq_43 (mem_old (mem_old (mem_old (mem_old (mem_old e_7))))) (kd_nA (k := 14) (n := 15808) hq_39 (mem_old (mem_old (mem_old (mem_old e_7)))) (kd_nA (k := 14) (n := 2470) hq_35 (mem_old (mem_old (mem_old e_7))) (kd_nA (k := 17) (n := 400) hq_31 (mem_old (mem_old e_7)) (kd_nA (k := 14) (n := 4352) hq_27 (mem_old e_7) (kd_nA (k := 14) (n := 119) hq_23 e_7 e_8))))))
  have hn_81 : hN S_48 q_5 = 16 := hf_50.ln (mem_old (mem_old (mem_old (mem_old (mem_old (mem_old e_7)))))) (ln_nA (k := 14) hq_43 (mem_old (mem_old (mem_old (mem_old (mem_old e_7))))) (ln_nA (k := 14) hq_39 (mem_old (mem_old (mem_old (mem_old e_7)))) (ln_nA (k := 14) hq_35 (mem_old (mem_old (mem_old e_7))) (ln_nA (k := 17) hq_31 (mem_old (mem_old e_7)) (ln_nA (k := 14) hq_27 (mem_old e_7) (ln_nA (k := 14) hq_23 e_7 e_9))))))
  have hv_82 : hR S_48 200 h = (some q_1) := hf_50.fr (mem_old (mem_old (mem_old (mem_old (mem_old (mem_old hm_16)))))) (fun h9 => h9) (rd_sRf (S := (nA (sR (nA (sR (nA (sR (nA (sR (nA (sR (nA (sR S_13 200 h (some q_1)) q_22 14 119) 201 h (some q_22)) q_26 14 4352) 202 h (some q_26)) q_30 17 400) 203 h (some q_30)) q_34 14 2470) 204 h (some q_34)) q_38 14 15808) 205 h (some q_38)) q_42 14 8)) (g := 207) (a := h) (v := (some q_42)) (by decide) (rd_sRf (S := (nA (sR (nA (sR (nA (sR (nA (sR (nA (sR S_13 200 h (some q_1)) q_22 14 119) 201 h (some q_22)) q_26 14 4352) 202 h (some q_26)) q_30 17 400) 203 h (some q_30)) q_34 14 2470) 204 h (some q_34)) q_38 14 15808)) (g := 205) (a := h) (v := (some q_38)) (by decide) (rd_sRf (S := (nA (sR (nA (sR (nA (sR (nA (sR S_13 200 h (some q_1)) q_22 14 119) 201 h (some q_22)) q_26 14 4352) 202 h (some q_26)) q_30 17 400) 203 h (some q_30)) q_34 14 2470)) (g := 204) (a := h) (v := (some q_34)) (by decide) (rd_sRf (S := (nA (sR (nA (sR (nA (sR S_13 200 h (some q_1)) q_22 14 119) 201 h (some q_22)) q_26 14 4352) 202 h (some q_26)) q_30 17 400)) (g := 203) (a := h) (v := (some q_30)) (by decide) (rd_sRf (S := (nA (sR (nA (sR S_13 200 h (some q_1)) q_22 14 119) 201 h (some q_22)) q_26 14 4352)) (g := 202) (a := h) (v := (some q_26)) (by decide) (rd_sRf (S := (nA (sR S_13 200 h (some q_1)) q_22 14 119)) (g := 201) (a := h) (v := (some q_22)) (by decide) (rd_sR (S := S_13) (g := 200) (a := h) (v := (some q_1)))))))))
  have hv_83 : hR S_48 201 h = (some q_22) := hf_50.fr (mem_old (mem_old (mem_old (mem_old (mem_old (mem_old hm_16)))))) (fun h9 => h9) (rd_sRf (S := (nA (sR (nA (sR (nA (sR (nA (sR (nA (sR (nA (sR S_13 200 h (some q_1)) q_22 14 119) 201 h (some q_22)) q_26 14 4352) 202 h (some q_26)) q_30 17 400) 203 h (some q_30)) q_34 14 2470) 204 h (some q_34)) q_38 14 15808) 205 h (some q_38)) q_42 14 8)) (g := 207) (a := h) (v := (some q_42)) (by decide) (rd_sRf (S := (nA (sR (nA (sR (nA (sR (nA (sR (nA (sR S_13 200 h (some q_1)) q_22 14 119) 201 h (some q_22)) q_26 14 4352) 202 h (some q_26)) q_30 17 400) 203 h (some q_30)) q_34 14 2470) 204 h (some q_34)) q_38 14 15808)) (g := 205) (a := h) (v := (some q_38)) (by decide) (rd_sRf (S := (nA (sR (nA (sR (nA (sR (nA (sR S_13 200 h (some q_1)) q_22 14 119) 201 h (some q_22)) q_26 14 4352) 202 h (some q_26)) q_30 17 400) 203 h (some q_30)) q_34 14 2470)) (g := 204) (a := h) (v := (some q_34)) (by decide) (rd_sRf (S := (nA (sR (nA (sR (nA (sR S_13 200 h (some q_1)) q_22 14 119) 201 h (some q_22)) q_26 14 4352) 202 h (some q_26)) q_30 17 400)) (g := 203) (a := h) (v := (some q_30)) (by decide) (rd_sRf (S := (nA (sR (nA (sR S_13 200 h (some q_1)) q_22 14 119) 201 h (some q_22)) q_26 14 4352)) (g := 202) (a := h) (v := (some q_26)) (by decide) (rd_sR (S := (nA (sR S_13 200 h (some q_1)) q_22 14 119)) (g := 201) (a := h) (v := (some q_22))))))))
  have hv_84 : hR S_48 202 h = (some q_26) := hf_50.fr (mem_old (mem_old (mem_old (mem_old (mem_old (mem_old hm_16)))))) (fun h9 => h9) (rd_sRf (S := (nA (sR (nA (sR (nA (sR (nA (sR (nA (sR (nA (sR S_13 200 h (some q_1)) q_22 14 119) 201 h (some q_22)) q_26 14 4352) 202 h (some q_26)) q_30 17 400) 203 h (some q_30)) q_34 14 2470) 204 h (some q_34)) q_38 14 15808) 205 h (some q_38)) q_42 14 8)) (g := 207) (a := h) (v := (some q_42)) (by decide) (rd_sRf (S := (nA (sR (nA (sR (nA (sR (nA (sR (nA (sR S_13 200 h (some q_1)) q_22 14 119) 201 h (some q_22)) q_26 14 4352) 202 h (some q_26)) q_30 17 400) 203 h (some q_30)) q_34 14 2470) 204 h (some q_34)) q_38 14 15808)) (g := 205) (a := h) (v := (some q_38)) (by decide) (rd_sRf (S := (nA (sR (nA (sR (nA (sR (nA (sR S_13 200 h (some q_1)) q_22 14 119) 201 h (some q_22)) q_26 14 4352) 202 h (some q_26)) q_30 17 400) 203 h (some q_30)) q_34 14 2470)) (g := 204) (a := h) (v := (some q_34)) (by decide) (rd_sRf (S := (nA (sR (nA (sR (nA (sR S_13 200 h (some q_1)) q_22 14 119) 201 h (some q_22)) q_26 14 4352) 202 h (some q_26)) q_30 17 400)) (g := 203) (a := h) (v := (some q_30)) (by decide) (rd_sR (S := (nA (sR (nA (sR S_13 200 h (some q_1)) q_22 14 119) 201 h (some q_22)) q_26 14 4352)) (g := 202) (a := h) (v := (some q_26)))))))
  have hv_85 : hR S_48 203 h = (some q_30) := hf_50.fr (mem_old (mem_old (mem_old (mem_old (mem_old (mem_old hm_16)))))) (fun h9 => h9) (rd_sRf (S := (nA (sR (nA (sR (nA (sR (nA (sR (nA (sR (nA (sR S_13 200 h (some q_1)) q_22 14 119) 201 h (some q_22)) q_26 14 4352) 202 h (some q_26)) q_30 17 400) 203 h (some q_30)) q_34 14 2470) 204 h (some q_34)) q_38 14 15808) 205 h (some q_38)) q_42 14 8)) (g := 207) (a := h) (v := (some q_42)) (by decide) (rd_sRf (S := (nA (sR (nA (sR (nA (sR (nA (sR (nA (sR S_13 200 h (some q_1)) q_22 14 119) 201 h (some q_22)) q_26 14 4352) 202 h (some q_26)) q_30 17 400) 203 h (some q_30)) q_34 14 2470) 204 h (some q_34)) q_38 14 15808)) (g := 205) (a := h) (v := (some q_38)) (by decide) (rd_sRf (S := (nA (sR (nA (sR (nA (sR (nA (sR S_13 200 h (some q_1)) q_22 14 119) 201 h (some q_22)) q_26 14 4352) 202 h (some q_26)) q_30 17 400) 203 h (some q_30)) q_34 14 2470)) (g := 204) (a := h) (v := (some q_34)) (by decide) (rd_sR (S := (nA (sR (nA (sR (nA (sR S_13 200 h (some q_1)) q_22 14 119) 201 h (some q_22)) q_26 14 4352) 202 h (some q_26)) q_30 17 400)) (g := 203) (a := h) (v := (some q_30))))))
  have hv_86 : hR S_48 204 h = (some q_34) := hf_50.fr (mem_old (mem_old (mem_old (mem_old (mem_old (mem_old hm_16)))))) (fun h9 => h9) (rd_sRf (S := (nA (sR (nA (sR (nA (sR (nA (sR (nA (sR (nA (sR S_13 200 h (some q_1)) q_22 14 119) 201 h (some q_22)) q_26 14 4352) 202 h (some q_26)) q_30 17 400) 203 h (some q_30)) q_34 14 2470) 204 h (some q_34)) q_38 14 15808) 205 h (some q_38)) q_42 14 8)) (g := 207) (a := h) (v := (some q_42)) (by decide) (rd_sRf (S := (nA (sR (nA (sR (nA (sR (nA (sR (nA (sR S_13 200 h (some q_1)) q_22 14 119) 201 h (some q_22)) q_26 14 4352) 202 h (some q_26)) q_30 17 400) 203 h (some q_30)) q_34 14 2470) 204 h (some q_34)) q_38 14 15808)) (g := 205) (a := h) (v := (some q_38)) (by decide) (rd_sR (S := (nA (sR (nA (sR (nA (sR (nA (sR S_13 200 h (some q_1)) q_22 14 119) 201 h (some q_22)) q_26 14 4352) 202 h (some q_26)) q_30 17 400) 203 h (some q_30)) q_34 14 2470)) (g := 204) (a := h) (v := (some q_34)))))
  have hv_87 : hR S_48 205 h = (some q_38) := hf_50.fr (mem_old (mem_old (mem_old (mem_old (mem_old (mem_old hm_16)))))) (fun h9 => h9) (rd_sRf (S := (nA (sR (nA (sR (nA (sR (nA (sR (nA (sR (nA (sR S_13 200 h (some q_1)) q_22 14 119) 201 h (some q_22)) q_26 14 4352) 202 h (some q_26)) q_30 17 400) 203 h (some q_30)) q_34 14 2470) 204 h (some q_34)) q_38 14 15808) 205 h (some q_38)) q_42 14 8)) (g := 207) (a := h) (v := (some q_42)) (by decide) (rd_sR (S := (nA (sR (nA (sR (nA (sR (nA (sR (nA (sR S_13 200 h (some q_1)) q_22 14 119) 201 h (some q_22)) q_26 14 4352) 202 h (some q_26)) q_30 17 400) 203 h (some q_30)) q_34 14 2470) 204 h (some q_34)) q_38 14 15808)) (g := 205) (a := h) (v := (some q_38))))
  have hv_88 : hR S_48 207 h = (some q_42) := hf_50.fr (mem_old (mem_old (mem_old (mem_old (mem_old (mem_old hm_16)))))) (fun h9 => h9) (rd_sR (S := (nA (sR (nA (sR (nA (sR (nA (sR (nA (sR (nA (sR S_13 200 h (some q_1)) q_22 14 119) 201 h (some q_22)) q_26 14 4352) 202 h (some q_26)) q_30 17 400) 203 h (some q_30)) q_34 14 2470) 204 h (some q_34)) q_38 14 15808) 205 h (some q_38)) q_42 14 8)) (g := 207) (a := h) (v := (some q_42)))
  have hv_89 : hR S_48 800 q_1 = (some q_5) := hf_50.fr (mem_old (mem_old (mem_old (mem_old (mem_old (mem_old hm_18)))))) (fun h9 => h9) (rd_sRf (S := (nA (sR (nA (sR (nA (sR (nA (sR (nA (sR (nA (sR S_13 200 h (some q_1)) q_22 14 119) 201 h (some q_22)) q_26 14 4352) 202 h (some q_26)) q_30 17 400) 203 h (some q_30)) q_34 14 2470) 204 h (some q_34)) q_38 14 15808) 205 h (some q_38)) q_42 14 8)) (g := 207) (a := h) (v := (some q_42)) (by decide) (rd_sRf (S := (nA (sR (nA (sR (nA (sR (nA (sR (nA (sR S_13 200 h (some q_1)) q_22 14 119) 201 h (some q_22)) q_26 14 4352) 202 h (some q_26)) q_30 17 400) 203 h (some q_30)) q_34 14 2470) 204 h (some q_34)) q_38 14 15808)) (g := 205) (a := h) (v := (some q_38)) (by decide) (rd_sRf (S := (nA (sR (nA (sR (nA (sR (nA (sR S_13 200 h (some q_1)) q_22 14 119) 201 h (some q_22)) q_26 14 4352) 202 h (some q_26)) q_30 17 400) 203 h (some q_30)) q_34 14 2470)) (g := 204) (a := h) (v := (some q_34)) (by decide) (rd_sRf (S := (nA (sR (nA (sR (nA (sR S_13 200 h (some q_1)) q_22 14 119) 201 h (some q_22)) q_26 14 4352) 202 h (some q_26)) q_30 17 400)) (g := 203) (a := h) (v := (some q_30)) (by decide) (rd_sRf (S := (nA (sR (nA (sR S_13 200 h (some q_1)) q_22 14 119) 201 h (some q_22)) q_26 14 4352)) (g := 202) (a := h) (v := (some q_26)) (by decide) (rd_sRf (S := (nA (sR S_13 200 h (some q_1)) q_22 14 119)) (g := 201) (a := h) (v := (some q_22)) (by decide) (rd_sRf (S := S_13) (g := 200) (a := h) (v := (some q_1)) (by decide) e_10)))))))
  have hf_90 : Fm (fun _ _ => False) (fun f9 b9 => b9 = h) (fun _ => False) S S_48 := hf_46.then hf_50 (fun a9 ha9 => ⟨(fun f9 h9 => h9.elim), (fun f9 h9 => h9.elim), (fun h9 => (fun h8 => absurd (h8 ▸ ha9) hz_45) h9)⟩)
  refine j_aload_n C dX2_init_74 rfl 0 rfl ?_
  refine j_getr (f := 207) (v := q_42) C flX2_35 dX2_init_75 hm_57 hk_58 (by decide) rfl hv_88 ?_
  refine j_iconst (v := 0) C dX2_init_78 (by decide) ?_
  refine j_aload_n C dX2_init_79 rfl 0 rfl ?_
  refine j_getr (f := 201) (v := q_22) C flX2_18 dX2_init_80 hm_57 hk_58 (by decide) rfl hv_83 ?_
  refine j_bipush (v := 112) C dX2_init_83 (by decide) ?_
  show J _ _ _ _ _ 85 _
  refine j_bipush (v := 7) C dX2_init_85 (by decide) ?_
  refine j_copy (kd := 14) (ty := .int) (p0 := 0) (p1 := 112) (m0 := 7) C mlX2_42 (by decide) hm_76 hk_77 hn_78 hm_61 hk_62 hn_63 (by decide) (by decide) (by decide) (by decide) (by decide) (by decide) (by decide) (by decide) (fun i _ => rfl) (M.fl (by decide)) dX2_init_87 ?_
  refine j_bipush (v := 33) C dX2_init_90 (by decide) ?_
  refine j_istore_n (lv' := [(1, .int 33), (0, .ref h)]) C dX2_init_92 rfl (by rw [hn9]; decide) rfl ?_
  have hf_93 : Fm (fun _ _ => False) (fun f9 b9 => b9 = h) (fun _ => False) S (rI S_48 q_22 (va_cpy (aI S_48 q_42) (aI S_48 q_22) 0 112 7)) := (hf_90.rI _ (fun h9 => absurd h9 hz_25))
  obtain ⟨S_91, eS_92⟩ : ∃ S9 : Hp, S9 = (rI S_48 q_22 (va_cpy (aI S_48 q_42) (aI S_48 q_22) 0 112 7)) := ⟨_, rfl⟩
  refine J.eq (S' := S_91) eS_92.symm rfl rfl ?_
  have hm_94 : h ∈ hL S_91 := by rw [eS_92]; exact hm_57
  have hk_95 : hK S_91 h = 2 := by rw [eS_92]; exact hk_58
  have hm_96 : q_1 ∈ hL S_91 := by rw [eS_92]; exact hm_59
  have hk_97 : hK S_91 q_1 = 8 := by rw [eS_92]; exact hk_60
  have hm_98 : q_22 ∈ hL S_91 := by rw [eS_92]; exact hm_61
  have hk_99 : hK S_91 q_22 = 14 := by rw [eS_92]; exact hk_62
  have hn_100 : hN S_91 q_22 = 119 := by rw [eS_92]; exact hn_63
  have hm_101 : q_26 ∈ hL S_91 := by rw [eS_92]; exact hm_64
  have hk_102 : hK S_91 q_26 = 14 := by rw [eS_92]; exact hk_65
  have hn_103 : hN S_91 q_26 = 4352 := by rw [eS_92]; exact hn_66
  have hz_104 : ∀ j, aI S_91 q_26 j = 0 := by rw [eS_92]; exact (fun j9 => rd_rIa (Ne.symm (ne_of_nin hq_27 mem_new)) (hz_52 j9))
  have hm_105 : q_30 ∈ hL S_91 := by rw [eS_92]; exact hm_67
  have hk_106 : hK S_91 q_30 = 17 := by rw [eS_92]; exact hk_68
  have hn_107 : hN S_91 q_30 = 400 := by rw [eS_92]; exact hn_69
  have hz_108 : ∀ j, aI S_91 q_30 j = 0 := by rw [eS_92]; exact (fun j9 => rd_rIa (fun e9 => absurd ((hk_68).symm.trans ((congrArg (hK _) e9).trans hk_62)) (by decide)) (hz_53 j9))
  have hm_109 : q_34 ∈ hL S_91 := by rw [eS_92]; exact hm_70
  have hk_110 : hK S_91 q_34 = 14 := by rw [eS_92]; exact hk_71
  have hn_111 : hN S_91 q_34 = 2470 := by rw [eS_92]; exact hn_72
  have hz_112 : ∀ j, aI S_91 q_34 j = 0 := by rw [eS_92]; exact (fun j9 => rd_rIa (Ne.symm (ne_of_nin hq_35 (mem_old (mem_old mem_new)))) (hz_54 j9))
  have hm_113 : q_38 ∈ hL S_91 := by rw [eS_92]; exact hm_73
  have hk_114 : hK S_91 q_38 = 14 := by rw [eS_92]; exact hk_74
  have hn_115 : hN S_91 q_38 = 15808 := by rw [eS_92]; exact hn_75
  have hz_116 : ∀ j, aI S_91 q_38 j = 0 := by rw [eS_92]; exact (fun j9 => rd_rIa (Ne.symm (ne_of_nin hq_39 (mem_old (mem_old (mem_old mem_new))))) (hz_55 j9))
  have hm_117 : q_42 ∈ hL S_91 := by rw [eS_92]; exact hm_76
  have hk_118 : hK S_91 q_42 = 14 := by rw [eS_92]; exact hk_77
  have hn_119 : hN S_91 q_42 = 8 := by rw [eS_92]; exact hn_78
  have hm_120 : q_5 ∈ hL S_91 := by rw [eS_92]; exact hm_79
  have hk_121 : hK S_91 q_5 = 14 := by rw [eS_92]; exact hk_80
  have hn_122 : hN S_91 q_5 = 16 := by rw [eS_92]; exact hn_81
  have hz_123 : ∀ j, aI S_91 q_5 j = 0 := by rw [eS_92]; exact (fun j9 => rd_rIa (ne_of_nin hq_23 e_7) (hz_56 j9))
  have hv_124 : hR S_91 200 h = (some q_1) := by rw [eS_92]; exact hv_82
  have hv_125 : hR S_91 201 h = (some q_22) := by rw [eS_92]; exact hv_83
  have hv_126 : hR S_91 202 h = (some q_26) := by rw [eS_92]; exact hv_84
  have hv_127 : hR S_91 203 h = (some q_30) := by rw [eS_92]; exact hv_85
  have hv_128 : hR S_91 204 h = (some q_34) := by rw [eS_92]; exact hv_86
  have hv_129 : hR S_91 205 h = (some q_38) := by rw [eS_92]; exact hv_87
  have hv_130 : hR S_91 207 h = (some q_42) := by rw [eS_92]; exact hv_88
  have hv_131 : hR S_91 800 q_1 = (some q_5) := by rw [eS_92]; exact hv_89
  have hf_132 : Fm (fun _ _ => False) (fun f9 b9 => b9 = h) (fun _ => False) S S_91 := by rw [eS_92]; exact hf_93
  have loop_137 : ∀ (m9 c : Nat) (S_134 : Hp), c + m9 = 94 → Fm (fun _ _ => False) (fun _ _ => False) (fun b9 => b9 = q_26 ∨ b9 = q_34 ∨ b9 = q_38) S_91 S_134 → J x (0 + 1 + 1 + 1 + 1 + 1 + 1 + 1 + 1 + 0) (0 + 1 + 16 + 119 + 4352 + 400 + 2470 + 15808 + 8 + 0) S_134 [(1, .int (nI (33 + c))), (0, .ref h)] 93 [] := by
    intro m9
    induction m9 with
    | zero =>
      intro c S_134 hi_138 hl_135 
      have hz_139 : ∀ j, aI S_134 q_30 j = 0 := fun j9 => (hl_135.ai hm_105 (fun h9 => h9.elim (fun q9 => (fun e9 => absurd ((hk_106).symm.trans ((congrArg (hK _) e9).trans hk_102)) (by decide)) q9) (fun h9 => h9.elim (fun q9 => (fun e9 => absurd ((hk_106).symm.trans ((congrArg (hK _) e9).trans hk_110)) (by decide)) q9) (fun q9 => (fun e9 => absurd ((hk_106).symm.trans ((congrArg (hK _) e9).trans hk_114)) (by decide)) q9))) j9).trans (hz_108 j9)
      have hz_140 : ∀ j, aI S_134 q_5 j = 0 := fun j9 => (hl_135.ai hm_120 (fun h9 => h9.elim (fun q9 => (ne_of_nin hq_27 (mem_old e_7)) q9) (fun h9 => h9.elim (fun q9 => (ne_of_nin hq_35 (mem_old (mem_old (mem_old e_7)))) q9) (fun q9 => (ne_of_nin hq_39 (mem_old (mem_old (mem_old (mem_old e_7))))) q9))) j9).trans (hz_123 j9)
      have hm_141 : h ∈ hL S_134 := hl_135.mem hm_94
      have hk_142 : hK S_134 h = 2 := hl_135.kd hm_94 hk_95
      have hm_143 : q_1 ∈ hL S_134 := hl_135.mem hm_96
      have hk_144 : hK S_134 q_1 = 8 := hl_135.kd hm_96 hk_97
      have hm_145 : q_22 ∈ hL S_134 := hl_135.mem hm_98
      have hk_146 : hK S_134 q_22 = 14 := hl_135.kd hm_98 hk_99
      have hn_147 : hN S_134 q_22 = 119 := hl_135.ln hm_98 hn_100
      have hm_148 : q_26 ∈ hL S_134 := hl_135.mem hm_101
      have hk_149 : hK S_134 q_26 = 14 := hl_135.kd hm_101 hk_102
      have hn_150 : hN S_134 q_26 = 4352 := hl_135.ln hm_101 hn_103
      have hm_151 : q_30 ∈ hL S_134 := hl_135.mem hm_105
      have hk_152 : hK S_134 q_30 = 17 := hl_135.kd hm_105 hk_106
      have hn_153 : hN S_134 q_30 = 400 := hl_135.ln hm_105 hn_107
      have hm_154 : q_34 ∈ hL S_134 := hl_135.mem hm_109
      have hk_155 : hK S_134 q_34 = 14 := hl_135.kd hm_109 hk_110
      have hn_156 : hN S_134 q_34 = 2470 := hl_135.ln hm_109 hn_111
      have hm_157 : q_38 ∈ hL S_134 := hl_135.mem hm_113
      have hk_158 : hK S_134 q_38 = 14 := hl_135.kd hm_113 hk_114
      have hn_159 : hN S_134 q_38 = 15808 := hl_135.ln hm_113 hn_115
      have hm_160 : q_42 ∈ hL S_134 := hl_135.mem hm_117
      have hk_161 : hK S_134 q_42 = 14 := hl_135.kd hm_117 hk_118
      have hn_162 : hN S_134 q_42 = 8 := hl_135.ln hm_117 hn_119
      have hm_163 : q_5 ∈ hL S_134 := hl_135.mem hm_120
      have hk_164 : hK S_134 q_5 = 14 := hl_135.kd hm_120 hk_121
      have hn_165 : hN S_134 q_5 = 16 := hl_135.ln hm_120 hn_122
      have hv_166 : hR S_134 200 h = (some q_1) := hl_135.fr hm_94 (fun h9 => h9) hv_124
      have hv_167 : hR S_134 201 h = (some q_22) := hl_135.fr hm_94 (fun h9 => h9) hv_125
      have hv_168 : hR S_134 202 h = (some q_26) := hl_135.fr hm_94 (fun h9 => h9) hv_126
      have hv_169 : hR S_134 203 h = (some q_30) := hl_135.fr hm_94 (fun h9 => h9) hv_127
      have hv_170 : hR S_134 204 h = (some q_34) := hl_135.fr hm_94 (fun h9 => h9) hv_128
      have hv_171 : hR S_134 205 h = (some q_38) := hl_135.fr hm_94 (fun h9 => h9) hv_129
      have hv_172 : hR S_134 207 h = (some q_42) := hl_135.fr hm_94 (fun h9 => h9) hv_130
      have hv_173 : hR S_134 800 q_1 = (some q_5) := hl_135.fr hm_96 (fun h9 => h9) hv_131
      have hf_174 : Fm (fun _ _ => False) (fun f9 b9 => b9 = h) (fun _ => False) S S_134 := hf_132.then hl_135 (fun a9 ha9 => ⟨(fun f9 h9 => h9.elim), (fun f9 h9 => h9.elim), (fun h9 => (fun h9 => h9.elim (fun h8 => absurd (h8 ▸ ha9) hz_29) (fun h9 => h9.elim (fun h8 => absurd (h8 ▸ ha9) hz_37) (fun h8 => absurd (h8 ▸ ha9) hz_41))) h9)⟩)
      refine j_iload_n C dX2_init_93 rfl 0 rfl ?_
      refine j_bipush (v := 126) C dX2_init_94 (by decide) ?_
      refine j_ic_gt (tgt := 193) C dX2_init_96 (by decide) (fun c_96 => ?_) (fun c_96 => absurd (nI_lt (a := 126) (by omega) (by omega)) c_96)
      exact j_vret C M dX2_init_193 (Nat.le_of_ble_eq_true rfl) (Nat.le_of_ble_eq_true rfl) ⟨rfl, hf_174, q_1, q_5, hz_3, hm_143, hk_144, hv_166, hz_21, hm_163, hk_164, hn_165, hv_173, hz_140⟩
    | succ m9 ih_136 =>
      intro c S_134 hi_138 hl_135 
      have hz_175 : ∀ j, aI S_134 q_30 j = 0 := fun j9 => (hl_135.ai hm_105 (fun h9 => h9.elim (fun q9 => (fun e9 => absurd ((hk_106).symm.trans ((congrArg (hK _) e9).trans hk_102)) (by decide)) q9) (fun h9 => h9.elim (fun q9 => (fun e9 => absurd ((hk_106).symm.trans ((congrArg (hK _) e9).trans hk_110)) (by decide)) q9) (fun q9 => (fun e9 => absurd ((hk_106).symm.trans ((congrArg (hK _) e9).trans hk_114)) (by decide)) q9))) j9).trans (hz_108 j9)
      have hz_176 : ∀ j, aI S_134 q_5 j = 0 := fun j9 => (hl_135.ai hm_120 (fun h9 => h9.elim (fun q9 => (ne_of_nin hq_27 (mem_old e_7)) q9) (fun h9 => h9.elim (fun q9 => (ne_of_nin hq_35 (mem_old (mem_old (mem_old e_7)))) q9) (fun q9 => (ne_of_nin hq_39 (mem_old (mem_old (mem_old (mem_old e_7))))) q9))) j9).trans (hz_123 j9)
      have hm_177 : h ∈ hL S_134 := hl_135.mem hm_94
      have hk_178 : hK S_134 h = 2 := hl_135.kd hm_94 hk_95
      have hm_179 : q_1 ∈ hL S_134 := hl_135.mem hm_96
      have hk_180 : hK S_134 q_1 = 8 := hl_135.kd hm_96 hk_97
      have hm_181 : q_22 ∈ hL S_134 := hl_135.mem hm_98
      have hk_182 : hK S_134 q_22 = 14 := hl_135.kd hm_98 hk_99
      have hn_183 : hN S_134 q_22 = 119 := hl_135.ln hm_98 hn_100
      have hm_184 : q_26 ∈ hL S_134 := hl_135.mem hm_101
      have hk_185 : hK S_134 q_26 = 14 := hl_135.kd hm_101 hk_102
      have hn_186 : hN S_134 q_26 = 4352 := hl_135.ln hm_101 hn_103
      have hm_187 : q_30 ∈ hL S_134 := hl_135.mem hm_105
      have hk_188 : hK S_134 q_30 = 17 := hl_135.kd hm_105 hk_106
      have hn_189 : hN S_134 q_30 = 400 := hl_135.ln hm_105 hn_107
      have hm_190 : q_34 ∈ hL S_134 := hl_135.mem hm_109
      have hk_191 : hK S_134 q_34 = 14 := hl_135.kd hm_109 hk_110
      have hn_192 : hN S_134 q_34 = 2470 := hl_135.ln hm_109 hn_111
      have hm_193 : q_38 ∈ hL S_134 := hl_135.mem hm_113
      have hk_194 : hK S_134 q_38 = 14 := hl_135.kd hm_113 hk_114
      have hn_195 : hN S_134 q_38 = 15808 := hl_135.ln hm_113 hn_115
      have hm_196 : q_42 ∈ hL S_134 := hl_135.mem hm_117
      have hk_197 : hK S_134 q_42 = 14 := hl_135.kd hm_117 hk_118
      have hn_198 : hN S_134 q_42 = 8 := hl_135.ln hm_117 hn_119
      have hm_199 : q_5 ∈ hL S_134 := hl_135.mem hm_120
      have hk_200 : hK S_134 q_5 = 14 := hl_135.kd hm_120 hk_121
      have hn_201 : hN S_134 q_5 = 16 := hl_135.ln hm_120 hn_122
      have hv_202 : hR S_134 200 h = (some q_1) := hl_135.fr hm_94 (fun h9 => h9) hv_124
      have hv_203 : hR S_134 201 h = (some q_22) := hl_135.fr hm_94 (fun h9 => h9) hv_125
      have hv_204 : hR S_134 202 h = (some q_26) := hl_135.fr hm_94 (fun h9 => h9) hv_126
      have hv_205 : hR S_134 203 h = (some q_30) := hl_135.fr hm_94 (fun h9 => h9) hv_127
      have hv_206 : hR S_134 204 h = (some q_34) := hl_135.fr hm_94 (fun h9 => h9) hv_128
      have hv_207 : hR S_134 205 h = (some q_38) := hl_135.fr hm_94 (fun h9 => h9) hv_129
      have hv_208 : hR S_134 207 h = (some q_42) := hl_135.fr hm_94 (fun h9 => h9) hv_130
      have hv_209 : hR S_134 800 q_1 = (some q_5) := hl_135.fr hm_96 (fun h9 => h9) hv_131
      have hf_210 : Fm (fun _ _ => False) (fun f9 b9 => b9 = h) (fun _ => False) S S_134 := hf_132.then hl_135 (fun a9 ha9 => ⟨(fun f9 h9 => h9.elim), (fun f9 h9 => h9.elim), (fun h9 => (fun h9 => h9.elim (fun h8 => absurd (h8 ▸ ha9) hz_29) (fun h9 => h9.elim (fun h8 => absurd (h8 ▸ ha9) hz_37) (fun h8 => absurd (h8 ▸ ha9) hz_41))) h9)⟩)
      refine j_iload_n C dX2_init_93 rfl 0 rfl ?_
      refine j_bipush (v := 126) C dX2_init_94 (by decide) ?_
      refine j_ic_gt (tgt := 193) C dX2_init_96 (by decide) (fun c_96 => absurd c_96 (nI_nlt (a := 126) (by omega) (by omega))) (fun c_96 => ?_)
      show J _ _ _ _ _ 99 _
      refine j_sipush (v := 400) C dX2_init_99 (by decide) ?_
      refine j_iload_n C dX2_init_102 rfl 0 rfl ?_
      refine j_iadd (v := nI (400 + (33 + c))) C dX2_init_103 (nI_add 400 (33 + c)) ?_
      refine j_bipush (v := 33) C dX2_init_104 (by decide) ?_
      refine j_isub (v := nI (400 + c)) C dX2_init_106 ((pk_sub (a := 400 + (33 + c)) (b := 33) (by omega)).trans (congrArg nI (by omega))) ?_
      refine j_istore_n (lv' := [(2, .int (nI (400 + c))), (1, .int (nI (33 + c))), (0, .ref h)]) C dX2_init_107 rfl (by rw [hn9]; decide) rfl ?_
      refine j_aload_n C dX2_init_108 rfl 2 rfl ?_
      refine j_getr (f := 202) (v := q_26) C flX2_22 dX2_init_109 hm_177 hk_178 (by decide) rfl hv_204 ?_
      show J _ _ _ _ _ 112 _
      refine j_sipush (v := 4096) C dX2_init_112 (by decide) ?_
      refine j_iload_n C dX2_init_115 rfl 1 rfl ?_
      refine j_iadd (v := nI (4096 + (33 + c))) C dX2_init_116 (nI_add 4096 (33 + c)) ?_
      refine j_iload_n C dX2_init_117 rfl 0 rfl ?_
      refine j_iconst (v := 1) C dX2_init_118 (by decide) ?_
      refine j_iadd (v := nI (400 + c + 1)) C dX2_init_119 (nI_add (400 + c) 1) ?_
      refine j_iast (j := (4096 + (33 + c))) C dX2_init_120 hm_184 hk_185 (inr_of (n := 4352) hn_186 (vp_in_nI (by omega) (by omega))) (nI_clamp (by omega)) ?_
      refine j_aload_n C dX2_init_121 rfl 2 rfl ?_
      show J _ _ _ _ _ 122 _
      refine j_iload_n C dX2_init_122 rfl 0 rfl ?_
      refine j_iconst (v := 0) C dX2_init_123 (by decide) ?_
      refine j_bipush (v := 7) C dX2_init_124 (by decide) ?_
      refine j_bipush (v := 6) C dX2_init_126 (by decide) ?_
      refine j_bipush (v := 8) C dX2_init_128 (by decide) ?_
      refine j_sipush (v := 720) C dX2_init_130 (by decide) ?_
      have hf_211 : Fm (fun _ _ => False) (fun f9 b9 => b9 = h) (fun _ => False) S (tI S_134 q_26 (4096 + (33 + c)) (nI (400 + c + 1))) := (hf_210.tI _ _ (fun h9 => absurd h9 hz_29))
      have hf_212 : Fm (fun _ _ => False) (fun _ _ => False) (fun b9 => b9 = q_26 ∨ b9 = q_34 ∨ b9 = q_38) S_91 (tI S_134 q_26 (4096 + (33 + c)) (nI (400 + c + 1))) := (hl_135.tI _ _ (fun _ => (Or.inl rfl)))
      refine j_callV (ci := 2) C [.int (nI (400 + c)), .int 0, .int 7, .int 6, .int 8, .int 720] [] mlX2_48 mcX2_setHead (c_X2_setHead (tI S_134 q_26 (4096 + (33 + c)) (nI (400 + c + 1))) h q_34 (400 + c) 0 7 6 8 720 hm_177 hk_178 (by omega) hv_206 hm_190 hk_191 hn_192) hm_177 hk_178 rfl (M.rm (by decide) (by decide) (Nat.le_of_ble_eq_true rfl) (Nat.le_of_ble_eq_true rfl)) rfl rfl (Nat.le_of_ble_eq_true rfl) dX2_init_133 (fun r_213 S_214 hp_215 => ?_)
      obtain ⟨rfl, hf_216⟩ := hp_215
      refine J.eq (st' := []) rfl rfl rfl ?_
      have hz_217 : ∀ j, aI S_214 q_30 j = 0 := fun j9 => (hf_216.ai hm_187 (fun q9 => (fun e9 => absurd ((hk_188).symm.trans ((congrArg (hK _) e9).trans hk_191)) (by decide)) q9) j9).trans ((fun j9 => rd_tIa (fun e9 => absurd ((hk_188).symm.trans ((congrArg (hK _) e9).trans hk_185)) (by decide)) (hz_175 j9)) j9)
      have hz_218 : ∀ j, aI S_214 q_5 j = 0 := fun j9 => (hf_216.ai hm_199 (fun q9 => (ne_of_nin hq_35 (mem_old (mem_old (mem_old e_7)))) q9) j9).trans ((fun j9 => rd_tIa (ne_of_nin hq_27 (mem_old e_7)) (hz_176 j9)) j9)
      have hm_219 : h ∈ hL S_214 := hf_216.mem hm_177
      have hk_220 : hK S_214 h = 2 := hf_216.kd hm_177 hk_178
      have hm_221 : q_1 ∈ hL S_214 := hf_216.mem hm_179
      have hk_222 : hK S_214 q_1 = 8 := hf_216.kd hm_179 hk_180
      have hm_223 : q_22 ∈ hL S_214 := hf_216.mem hm_181
      have hk_224 : hK S_214 q_22 = 14 := hf_216.kd hm_181 hk_182
      have hn_225 : hN S_214 q_22 = 119 := hf_216.ln hm_181 hn_183
      have hm_226 : q_26 ∈ hL S_214 := hf_216.mem hm_184
      have hk_227 : hK S_214 q_26 = 14 := hf_216.kd hm_184 hk_185
      have hn_228 : hN S_214 q_26 = 4352 := hf_216.ln hm_184 hn_186
      have hm_229 : q_30 ∈ hL S_214 := hf_216.mem hm_187
      have hk_230 : hK S_214 q_30 = 17 := hf_216.kd hm_187 hk_188
      have hn_231 : hN S_214 q_30 = 400 := hf_216.ln hm_187 hn_189
      have hm_232 : q_34 ∈ hL S_214 := hf_216.mem hm_190
      have hk_233 : hK S_214 q_34 = 14 := hf_216.kd hm_190 hk_191
      have hn_234 : hN S_214 q_34 = 2470 := hf_216.ln hm_190 hn_192
      have hm_235 : q_38 ∈ hL S_214 := hf_216.mem hm_193
      have hk_236 : hK S_214 q_38 = 14 := hf_216.kd hm_193 hk_194
      have hn_237 : hN S_214 q_38 = 15808 := hf_216.ln hm_193 hn_195
      have hm_238 : q_42 ∈ hL S_214 := hf_216.mem hm_196
      have hk_239 : hK S_214 q_42 = 14 := hf_216.kd hm_196 hk_197
      have hn_240 : hN S_214 q_42 = 8 := hf_216.ln hm_196 hn_198
      have hm_241 : q_5 ∈ hL S_214 := hf_216.mem hm_199
      have hk_242 : hK S_214 q_5 = 14 := hf_216.kd hm_199 hk_200
      have hn_243 : hN S_214 q_5 = 16 := hf_216.ln hm_199 hn_201
      have hv_244 : hR S_214 200 h = (some q_1) := hf_216.fr hm_177 (fun h9 => h9) hv_202
      have hv_245 : hR S_214 201 h = (some q_22) := hf_216.fr hm_177 (fun h9 => h9) hv_203
      have hv_246 : hR S_214 202 h = (some q_26) := hf_216.fr hm_177 (fun h9 => h9) hv_204
      have hv_247 : hR S_214 203 h = (some q_30) := hf_216.fr hm_177 (fun h9 => h9) hv_205
      have hv_248 : hR S_214 204 h = (some q_34) := hf_216.fr hm_177 (fun h9 => h9) hv_206
      have hv_249 : hR S_214 205 h = (some q_38) := hf_216.fr hm_177 (fun h9 => h9) hv_207
      have hv_250 : hR S_214 207 h = (some q_42) := hf_216.fr hm_177 (fun h9 => h9) hv_208
      have hv_251 : hR S_214 800 q_1 = (some q_5) := hf_216.fr hm_179 (fun h9 => h9) hv_209
      have hf_252 : Fm (fun _ _ => False) (fun f9 b9 => b9 = h) (fun _ => False) S S_214 := hf_211.then hf_216 (fun a9 ha9 => ⟨(fun f9 h9 => h9.elim), (fun f9 h9 => h9.elim), (fun h9 => (fun h8 => absurd (h8 ▸ ha9) hz_37) h9)⟩)
      have hf_253 : Fm (fun _ _ => False) (fun _ _ => False) (fun b9 => b9 = q_26 ∨ b9 = q_34 ∨ b9 = q_38) S_91 S_214 := hf_212.then hf_216 (fun a9 ha9 => ⟨(fun f9 h9 => h9.elim), (fun f9 h9 => h9.elim), (fun h9 => (fun h8 => (Or.inr (Or.inl h8))) h9)⟩)
      refine j_iconst (v := 0) C dX2_init_136 (by decide) ?_
      show J _ _ _ _ _ 137 _
      refine j_istore_n (lv' := [(3, .int 0), (2, .int (nI (400 + c))), (1, .int (nI (33 + c))), (0, .ref h)]) C dX2_init_137 rfl (by rw [hn9]; decide) rfl ?_
      have loop_258 : ∀ (m9 r1 : Nat) (S_255 : Hp), r1 + m9 = 8 → Fm (fun _ _ => False) (fun _ _ => False) (fun b9 => b9 = q_38) S_214 S_255 → J x (0 + 1 + 1 + 1 + 1 + 1 + 1 + 1 + 1 + 0 + 0) (0 + 1 + 16 + 119 + 4352 + 400 + 2470 + 15808 + 8 + 0 + 0) S_255 [(3, .int (nI r1)), (2, .int (nI (400 + c))), (1, .int (nI (33 + c))), (0, .ref h)] 138 [] := by
        intro m9
        induction m9 with
        | zero =>
          intro r1 S_255 hi_259 hl_256 
          have hz_260 : ∀ j, aI S_255 q_30 j = 0 := fun j9 => (hl_256.ai hm_229 (fun q9 => (fun e9 => absurd ((hk_230).symm.trans ((congrArg (hK _) e9).trans hk_236)) (by decide)) q9) j9).trans (hz_217 j9)
          have hz_261 : ∀ j, aI S_255 q_5 j = 0 := fun j9 => (hl_256.ai hm_241 (fun q9 => (ne_of_nin hq_39 (mem_old (mem_old (mem_old (mem_old e_7))))) q9) j9).trans (hz_218 j9)
          have hm_262 : h ∈ hL S_255 := hl_256.mem hm_219
          have hk_263 : hK S_255 h = 2 := hl_256.kd hm_219 hk_220
          have hm_264 : q_1 ∈ hL S_255 := hl_256.mem hm_221
          have hk_265 : hK S_255 q_1 = 8 := hl_256.kd hm_221 hk_222
          have hm_266 : q_22 ∈ hL S_255 := hl_256.mem hm_223
          have hk_267 : hK S_255 q_22 = 14 := hl_256.kd hm_223 hk_224
          have hn_268 : hN S_255 q_22 = 119 := hl_256.ln hm_223 hn_225
          have hm_269 : q_26 ∈ hL S_255 := hl_256.mem hm_226
          have hk_270 : hK S_255 q_26 = 14 := hl_256.kd hm_226 hk_227
          have hn_271 : hN S_255 q_26 = 4352 := hl_256.ln hm_226 hn_228
          have hm_272 : q_30 ∈ hL S_255 := hl_256.mem hm_229
          have hk_273 : hK S_255 q_30 = 17 := hl_256.kd hm_229 hk_230
          have hn_274 : hN S_255 q_30 = 400 := hl_256.ln hm_229 hn_231
          have hm_275 : q_34 ∈ hL S_255 := hl_256.mem hm_232
          have hk_276 : hK S_255 q_34 = 14 := hl_256.kd hm_232 hk_233
          have hn_277 : hN S_255 q_34 = 2470 := hl_256.ln hm_232 hn_234
          have hm_278 : q_38 ∈ hL S_255 := hl_256.mem hm_235
          have hk_279 : hK S_255 q_38 = 14 := hl_256.kd hm_235 hk_236
          have hn_280 : hN S_255 q_38 = 15808 := hl_256.ln hm_235 hn_237
          have hm_281 : q_42 ∈ hL S_255 := hl_256.mem hm_238
          have hk_282 : hK S_255 q_42 = 14 := hl_256.kd hm_238 hk_239
          have hn_283 : hN S_255 q_42 = 8 := hl_256.ln hm_238 hn_240
          have hm_284 : q_5 ∈ hL S_255 := hl_256.mem hm_241
          have hk_285 : hK S_255 q_5 = 14 := hl_256.kd hm_241 hk_242
          have hn_286 : hN S_255 q_5 = 16 := hl_256.ln hm_241 hn_243
          have hv_287 : hR S_255 200 h = (some q_1) := hl_256.fr hm_219 (fun h9 => h9) hv_244
          have hv_288 : hR S_255 201 h = (some q_22) := hl_256.fr hm_219 (fun h9 => h9) hv_245
          have hv_289 : hR S_255 202 h = (some q_26) := hl_256.fr hm_219 (fun h9 => h9) hv_246
          have hv_290 : hR S_255 203 h = (some q_30) := hl_256.fr hm_219 (fun h9 => h9) hv_247
          have hv_291 : hR S_255 204 h = (some q_34) := hl_256.fr hm_219 (fun h9 => h9) hv_248
          have hv_292 : hR S_255 205 h = (some q_38) := hl_256.fr hm_219 (fun h9 => h9) hv_249
          have hv_293 : hR S_255 207 h = (some q_42) := hl_256.fr hm_219 (fun h9 => h9) hv_250
          have hv_294 : hR S_255 800 q_1 = (some q_5) := hl_256.fr hm_221 (fun h9 => h9) hv_251
          have hf_295 : Fm (fun _ _ => False) (fun f9 b9 => b9 = h) (fun _ => False) S S_255 := hf_252.then hl_256 (fun a9 ha9 => ⟨(fun f9 h9 => h9.elim), (fun f9 h9 => h9.elim), (fun h9 => (fun h8 => absurd (h8 ▸ ha9) hz_41) h9)⟩)
          have hf_296 : Fm (fun _ _ => False) (fun _ _ => False) (fun b9 => b9 = q_26 ∨ b9 = q_34 ∨ b9 = q_38) S_91 S_255 := hf_253.then hl_256 (fun a9 ha9 => ⟨(fun f9 h9 => h9.elim), (fun f9 h9 => h9.elim), (fun h9 => (fun h8 => (Or.inr (Or.inr h8))) h9)⟩)
          refine j_iload_n C dX2_init_138 rfl 0 rfl ?_
          refine j_bipush (v := 8) C dX2_init_139 (by decide) ?_
          refine j_ic_ge (tgt := 187) C dX2_init_141 (by decide) (fun c_141 => ?_) (fun c_141 => absurd (nI_le (a := 8) (by omega) (by omega)) c_141)
          refine j_iinc (q := 2) (v := nI (33 + (c + 1))) (lv' := [(1, .int (nI (33 + (c + 1)))), (3, .int (nI r1)), (2, .int (nI (400 + c))), (0, .ref h)]) C dX2_init_187 rfl (by rw [show Int32.ofInt 1 = 1 by decide]; exact nI_add (33 + c) 1) (by rw [hn9]; decide) rfl ?_
          refine j_goto (tgt := 93) C dX2_init_190 (by decide) ?_
          refine J.sub [0, 3] (lv' := [(1, .int (nI (33 + (c + 1)))), (0, .ref h)]) (by rfl) ?_
          exact ih_136 (c + 1) _ (by omega) hf_296 
        | succ m9 ih_257 =>
          intro r1 S_255 hi_259 hl_256 
          have hz_297 : ∀ j, aI S_255 q_30 j = 0 := fun j9 => (hl_256.ai hm_229 (fun q9 => (fun e9 => absurd ((hk_230).symm.trans ((congrArg (hK _) e9).trans hk_236)) (by decide)) q9) j9).trans (hz_217 j9)
          have hz_298 : ∀ j, aI S_255 q_5 j = 0 := fun j9 => (hl_256.ai hm_241 (fun q9 => (ne_of_nin hq_39 (mem_old (mem_old (mem_old (mem_old e_7))))) q9) j9).trans (hz_218 j9)
          have hm_299 : h ∈ hL S_255 := hl_256.mem hm_219
          have hk_300 : hK S_255 h = 2 := hl_256.kd hm_219 hk_220
          have hm_301 : q_1 ∈ hL S_255 := hl_256.mem hm_221
          have hk_302 : hK S_255 q_1 = 8 := hl_256.kd hm_221 hk_222
          have hm_303 : q_22 ∈ hL S_255 := hl_256.mem hm_223
          have hk_304 : hK S_255 q_22 = 14 := hl_256.kd hm_223 hk_224
          have hn_305 : hN S_255 q_22 = 119 := hl_256.ln hm_223 hn_225
          have hm_306 : q_26 ∈ hL S_255 := hl_256.mem hm_226
          have hk_307 : hK S_255 q_26 = 14 := hl_256.kd hm_226 hk_227
          have hn_308 : hN S_255 q_26 = 4352 := hl_256.ln hm_226 hn_228
          have hm_309 : q_30 ∈ hL S_255 := hl_256.mem hm_229
          have hk_310 : hK S_255 q_30 = 17 := hl_256.kd hm_229 hk_230
          have hn_311 : hN S_255 q_30 = 400 := hl_256.ln hm_229 hn_231
          have hm_312 : q_34 ∈ hL S_255 := hl_256.mem hm_232
          have hk_313 : hK S_255 q_34 = 14 := hl_256.kd hm_232 hk_233
          have hn_314 : hN S_255 q_34 = 2470 := hl_256.ln hm_232 hn_234
          have hm_315 : q_38 ∈ hL S_255 := hl_256.mem hm_235
          have hk_316 : hK S_255 q_38 = 14 := hl_256.kd hm_235 hk_236
          have hn_317 : hN S_255 q_38 = 15808 := hl_256.ln hm_235 hn_237
          have hm_318 : q_42 ∈ hL S_255 := hl_256.mem hm_238
          have hk_319 : hK S_255 q_42 = 14 := hl_256.kd hm_238 hk_239
          have hn_320 : hN S_255 q_42 = 8 := hl_256.ln hm_238 hn_240
          have hm_321 : q_5 ∈ hL S_255 := hl_256.mem hm_241
          have hk_322 : hK S_255 q_5 = 14 := hl_256.kd hm_241 hk_242
          have hn_323 : hN S_255 q_5 = 16 := hl_256.ln hm_241 hn_243
          have hv_324 : hR S_255 200 h = (some q_1) := hl_256.fr hm_219 (fun h9 => h9) hv_244
          have hv_325 : hR S_255 201 h = (some q_22) := hl_256.fr hm_219 (fun h9 => h9) hv_245
          have hv_326 : hR S_255 202 h = (some q_26) := hl_256.fr hm_219 (fun h9 => h9) hv_246
          have hv_327 : hR S_255 203 h = (some q_30) := hl_256.fr hm_219 (fun h9 => h9) hv_247
          have hv_328 : hR S_255 204 h = (some q_34) := hl_256.fr hm_219 (fun h9 => h9) hv_248
          have hv_329 : hR S_255 205 h = (some q_38) := hl_256.fr hm_219 (fun h9 => h9) hv_249
          have hv_330 : hR S_255 207 h = (some q_42) := hl_256.fr hm_219 (fun h9 => h9) hv_250
          have hv_331 : hR S_255 800 q_1 = (some q_5) := hl_256.fr hm_221 (fun h9 => h9) hv_251
          have hf_332 : Fm (fun _ _ => False) (fun f9 b9 => b9 = h) (fun _ => False) S S_255 := hf_252.then hl_256 (fun a9 ha9 => ⟨(fun f9 h9 => h9.elim), (fun f9 h9 => h9.elim), (fun h9 => (fun h8 => absurd (h8 ▸ ha9) hz_41) h9)⟩)
          have hf_333 : Fm (fun _ _ => False) (fun _ _ => False) (fun b9 => b9 = q_26 ∨ b9 = q_34 ∨ b9 = q_38) S_91 S_255 := hf_253.then hl_256 (fun a9 ha9 => ⟨(fun f9 h9 => h9.elim), (fun f9 h9 => h9.elim), (fun h9 => (fun h8 => (Or.inr (Or.inr h8))) h9)⟩)
          refine j_iload_n C dX2_init_138 rfl 0 rfl ?_
          refine j_bipush (v := 8) C dX2_init_139 (by decide) ?_
          refine j_ic_ge (tgt := 187) C dX2_init_141 (by decide) (fun c_141 => absurd c_141 (nI_ge (b := 8) (by omega) (by omega))) (fun c_141 => ?_)
          refine j_iload_n C dX2_init_144 rfl 2 rfl ?_
          show J _ _ _ _ _ 145 _
          refine j_iload_n C dX2_init_145 rfl 2 rfl ?_
          refine j_imul C dX2_init_146 rfl ?_
          refine j_bipush (v := 7) C dX2_init_147 (by decide) ?_
          refine j_iload_n C dX2_init_149 rfl 2 rfl ?_
          refine j_imul C dX2_init_150 rfl ?_
          refine j_iload_n C dX2_init_151 rfl 0 rfl ?_
          refine j_imul C dX2_init_152 rfl ?_
          refine j_iadd C dX2_init_153 rfl ?_
          show J _ _ _ _ _ 154 _
          refine j_bipush (v := 13) C dX2_init_154 (by decide) ?_
          refine j_iload_n C dX2_init_156 rfl 0 rfl ?_
          refine j_imul C dX2_init_157 rfl ?_
          refine j_iload_n C dX2_init_158 rfl 0 rfl ?_
          refine j_imul C dX2_init_159 rfl ?_
          refine j_iadd C dX2_init_160 rfl ?_
          refine j_iconst (v := 4) C dX2_init_161 (by decide) ?_
          refine j_idiv C dX2_init_162 (by decide) rfl ?_
          show J _ _ _ _ _ 163 _
          refine j_istore (lv' := [(4, .int (((((nI (33 + c)) * (nI (33 + c))) + (((7 : Int32) * (nI (33 + c))) * (nI r1))) + (((13 : Int32) * (nI r1)) * (nI r1))) / 4)), (3, .int (nI r1)), (2, .int (nI (400 + c))), (1, .int (nI (33 + c))), (0, .ref h)]) C dX2_init_163 (by rw [hn9]; decide) rfl ?_
          refine j_aload_n C dX2_init_165 rfl 4 rfl ?_
          refine j_getr (f := 205) (v := q_38) C flX2_32 dX2_init_166 hm_299 hk_300 (by decide) rfl hv_329 ?_
          refine j_iload_n C dX2_init_169 rfl 2 rfl ?_
          refine j_bipush (v := 32) C dX2_init_170 (by decide) ?_
          refine j_imul (v := nI ((400 + c) * 32)) C dX2_init_172 (pk_mul (400 + c) 32) ?_
          refine j_iload_n C dX2_init_173 rfl 1 rfl ?_
          refine j_iadd (v := nI ((400 + c) * 32 + r1)) C dX2_init_174 (nI_add ((400 + c) * 32) r1) ?_
          show J _ _ _ _ _ 175 _
          refine j_iload C dX2_init_175 0 rfl ?_
          refine j_bipush (v := 26) C dX2_init_177 (by decide) ?_
          refine j_ishl C dX2_init_179 rfl ?_
          refine j_iast (j := ((400 + c) * 32 + r1)) C dX2_init_180 hm_315 hk_316 (inr_of (n := 15808) hn_317 (vp_in_nI (by omega) (by omega))) (nI_clamp (by omega)) ?_
          refine j_iinc (q := 1) (v := nI (r1 + 1)) (lv' := [(3, .int (nI (r1 + 1))), (4, .int (((((nI (33 + c)) * (nI (33 + c))) + (((7 : Int32) * (nI (33 + c))) * (nI r1))) + (((13 : Int32) * (nI r1)) * (nI r1))) / 4)), (2, .int (nI (400 + c))), (1, .int (nI (33 + c))), (0, .ref h)]) C dX2_init_181 rfl (by rw [show Int32.ofInt 1 = 1 by decide]; exact nI_add r1 1) (by rw [hn9]; decide) rfl ?_
          refine j_goto (tgt := 138) C dX2_init_184 (by decide) ?_
          refine J.sub [0, 2, 3, 4] (lv' := [(3, .int (nI (r1 + 1))), (2, .int (nI (400 + c))), (1, .int (nI (33 + c))), (0, .ref h)]) (by rfl) ?_
          exact ih_257 (r1 + 1) _ (by omega) (hl_256.tI _ _ (fun _ => rfl)) 
      refine J.sub [0, 1, 2, 3] (lv' := [(3, .int (nI 0)), (2, .int (nI (400 + c))), (1, .int (nI (33 + c))), (0, .ref h)]) (by rw [nI_0]; rfl) ?_
      exact loop_258 8 0 _ (by omega) Fm.refl 
  refine J.sub [0, 1] (lv' := [(1, .int (nI (33 + 0))), (0, .ref h)]) (by rfl) ?_
  exact loop_137 94 0 _ (by omega) Fm.refl 
