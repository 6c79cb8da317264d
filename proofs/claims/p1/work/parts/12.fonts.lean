theorem dX2_init_0 : decode cX2_init 0 = .ok (.aload_n 0, 1) := by decide +kernel
theorem dX2_init_1 : decode cX2_init 1 = .ok (.invokespecial 5, 3) := by decide +kernel
theorem dX2_init_4 : decode cX2_init 4 = .ok (.aload_n 0, 1) := by decide +kernel
theorem dX2_init_5 : decode cX2_init 5 = .ok (.new 11, 3) := by decide +kernel
theorem dX2_init_8 : decode cX2_init 8 = .ok (.dup, 1) := by decide +kernel
theorem dX2_init_9 : decode cX2_init 9 = .ok (.invokespecial 13, 3) := by decide +kernel
theorem dX2_init_12 : decode cX2_init 12 = .ok (.putfield 14, 3) := by decide +kernel
theorem dX2_init_15 : decode cX2_init 15 = .ok (.aload_n 0, 1) := by decide +kernel
theorem dX2_init_16 : decode cX2_init 16 = .ok (.bipush 119, 2) := by decide +kernel
theorem dX2_init_18 : decode cX2_init 18 = .ok (.newarray .int, 2) := by decide +kernel
theorem dX2_init_20 : decode cX2_init 20 = .ok (.putfield 18, 3) := by decide +kernel
theorem dX2_init_23 : decode cX2_init 23 = .ok (.aload_n 0, 1) := by decide +kernel
theorem dX2_init_24 : decode cX2_init 24 = .ok (.sipush 4352, 3) := by decide +kernel
theorem dX2_init_27 : decode cX2_init 27 = .ok (.newarray .int, 2) := by decide +kernel
theorem dX2_init_29 : decode cX2_init 29 = .ok (.putfield 22, 3) := by decide +kernel
theorem dX2_init_32 : decode cX2_init 32 = .ok (.aload_n 0, 1) := by decide +kernel
theorem dX2_init_33 : decode cX2_init 33 = .ok (.sipush 400, 3) := by decide +kernel
theorem dX2_init_36 : decode cX2_init 36 = .ok (.newarray .boolean, 2) := by decide +kernel
theorem dX2_init_38 : decode cX2_init 38 = .ok (.putfield 25, 3) := by decide +kernel
theorem dX2_init_41 : decode cX2_init 41 = .ok (.aload_n 0, 1) := by decide +kernel
theorem dX2_init_42 : decode cX2_init 42 = .ok (.sipush 2470, 3) := by decide +kernel
theorem dX2_init_45 : decode cX2_init 45 = .ok (.newarray .int, 2) := by decide +kernel
theorem dX2_init_47 : decode cX2_init 47 = .ok (.putfield 29, 3) := by decide +kernel
theorem dX2_init_50 : decode cX2_init 50 = .ok (.aload_n 0, 1) := by decide +kernel
theorem dX2_init_51 : decode cX2_init 51 = .ok (.sipush 15808, 3) := by decide +kernel
theorem dX2_init_54 : decode cX2_init 54 = .ok (.newarray .int, 2) := by decide +kernel
theorem dX2_init_56 : decode cX2_init 56 = .ok (.putfield 32, 3) := by decide +kernel
theorem dX2_init_59 : decode cX2_init 59 = .ok (.aload_n 0, 1) := by decide +kernel
theorem dX2_init_60 : decode cX2_init 60 = .ok (.bipush 8, 2) := by decide +kernel
theorem dX2_init_62 : decode cX2_init 62 = .ok (.newarray .int, 2) := by decide +kernel
theorem dX2_init_64 : decode cX2_init 64 = .ok (.putfield 35, 3) := by decide +kernel
theorem dX2_init_67 : decode cX2_init 67 = .ok (.aload_n 0, 1) := by decide +kernel
theorem dX2_init_68 : decode cX2_init 68 = .ok (.getfield 35, 3) := by decide +kernel
theorem dX2_init_71 : decode cX2_init 71 = .ok (.invokestatic 38, 3) := by decide +kernel
theorem dX2_init_74 : decode cX2_init 74 = .ok (.aload_n 0, 1) := by decide +kernel
theorem dX2_init_75 : decode cX2_init 75 = .ok (.getfield 35, 3) := by decide +kernel
theorem dX2_init_78 : decode cX2_init 78 = .ok (.iconst 0, 1) := by decide +kernel
theorem dX2_init_79 : decode cX2_init 79 = .ok (.aload_n 0, 1) := by decide +kernel
theorem dX2_init_80 : decode cX2_init 80 = .ok (.getfield 18, 3) := by decide +kernel
theorem dX2_init_83 : decode cX2_init 83 = .ok (.bipush 112, 2) := by decide +kernel
theorem dX2_init_85 : decode cX2_init 85 = .ok (.bipush 7, 2) := by decide +kernel
theorem dX2_init_87 : decode cX2_init 87 = .ok (.invokestatic 42, 3) := by decide +kernel
theorem dX2_init_90 : decode cX2_init 90 = .ok (.bipush 33, 2) := by decide +kernel
theorem dX2_init_92 : decode cX2_init 92 = .ok (.istore_n 1, 1) := by decide +kernel
theorem dX2_init_93 : decode cX2_init 93 = .ok (.iload_n 1, 1) := by decide +kernel
theorem dX2_init_94 : decode cX2_init 94 = .ok (.bipush 126, 2) := by decide +kernel
theorem dX2_init_96 : decode cX2_init 96 = .ok (.if_icmp .gt 97, 3) := by decide +kernel
theorem dX2_init_99 : decode cX2_init 99 = .ok (.sipush 400, 3) := by decide +kernel
theorem dX2_init_102 : decode cX2_init 102 = .ok (.iload_n 1, 1) := by decide +kernel
theorem dX2_init_103 : decode cX2_init 103 = .ok (.iadd, 1) := by decide +kernel
theorem dX2_init_104 : decode cX2_init 104 = .ok (.bipush 33, 2) := by decide +kernel
theorem dX2_init_106 : decode cX2_init 106 = .ok (.isub, 1) := by decide +kernel
theorem dX2_init_107 : decode cX2_init 107 = .ok (.istore_n 2, 1) := by decide +kernel
theorem dX2_init_108 : decode cX2_init 108 = .ok (.aload_n 0, 1) := by decide +kernel
theorem dX2_init_109 : decode cX2_init 109 = .ok (.getfield 22, 3) := by decide +kernel
theorem dX2_init_112 : decode cX2_init 112 = .ok (.sipush 4096, 3) := by decide +kernel
theorem dX2_init_115 : decode cX2_init 115 = .ok (.iload_n 1, 1) := by decide +kernel
theorem dX2_init_116 : decode cX2_init 116 = .ok (.iadd, 1) := by decide +kernel
theorem dX2_init_117 : decode cX2_init 117 = .ok (.iload_n 2, 1) := by decide +kernel
theorem dX2_init_118 : decode cX2_init 118 = .ok (.iconst 1, 1) := by decide +kernel
theorem dX2_init_119 : decode cX2_init 119 = .ok (.iadd, 1) := by decide +kernel
theorem dX2_init_120 : decode cX2_init 120 = .ok (.iastore, 1) := by decide +kernel
theorem dX2_init_121 : decode cX2_init 121 = .ok (.aload_n 0, 1) := by decide +kernel
theorem dX2_init_122 : decode cX2_init 122 = .ok (.iload_n 2, 1) := by decide +kernel
theorem dX2_init_123 : decode cX2_init 123 = .ok (.iconst 0, 1) := by decide +kernel
theorem dX2_init_124 : decode cX2_init 124 = .ok (.bipush 7, 2) := by decide +kernel
theorem dX2_init_126 : decode cX2_init 126 = .ok (.bipush 6, 2) := by decide +kernel
theorem dX2_init_128 : decode cX2_init 128 = .ok (.bipush 8, 2) := by decide +kernel
theorem dX2_init_130 : decode cX2_init 130 = .ok (.sipush 720, 3) := by decide +kernel
theorem dX2_init_133 : decode cX2_init 133 = .ok (.invokevirtual 48, 3) := by decide +kernel
theorem dX2_init_136 : decode cX2_init 136 = .ok (.iconst 0, 1) := by decide +kernel
theorem dX2_init_137 : decode cX2_init 137 = .ok (.istore_n 3, 1) := by decide +kernel
theorem dX2_init_138 : decode cX2_init 138 = .ok (.iload_n 3, 1) := by decide +kernel
theorem dX2_init_139 : decode cX2_init 139 = .ok (.bipush 8, 2) := by decide +kernel
theorem dX2_init_141 : decode cX2_init 141 = .ok (.if_icmp .ge 46, 3) := by decide +kernel
theorem dX2_init_144 : decode cX2_init 144 = .ok (.iload_n 1, 1) := by decide +kernel
theorem dX2_init_145 : decode cX2_init 145 = .ok (.iload_n 1, 1) := by decide +kernel
theorem dX2_init_146 : decode cX2_init 146 = .ok (.imul, 1) := by decide +kernel
theorem dX2_init_147 : decode cX2_init 147 = .ok (.bipush 7, 2) := by decide +kernel
theorem dX2_init_149 : decode cX2_init 149 = .ok (.iload_n 1, 1) := by decide +kernel
theorem dX2_init_150 : decode cX2_init 150 = .ok (.imul, 1) := by decide +kernel
theorem dX2_init_151 : decode cX2_init 151 = .ok (.iload_n 3, 1) := by decide +kernel
theorem dX2_init_152 : decode cX2_init 152 = .ok (.imul, 1) := by decide +kernel
theorem dX2_init_153 : decode cX2_init 153 = .ok (.iadd, 1) := by decide +kernel
theorem dX2_init_154 : decode cX2_init 154 = .ok (.bipush 13, 2) := by decide +kernel
theorem dX2_init_156 : decode cX2_init 156 = .ok (.iload_n 3, 1) := by decide +kernel
theorem dX2_init_157 : decode cX2_init 157 = .ok (.imul, 1) := by decide +kernel
theorem dX2_init_158 : decode cX2_init 158 = .ok (.iload_n 3, 1) := by decide +kernel
theorem dX2_init_159 : decode cX2_init 159 = .ok (.imul, 1) := by decide +kernel
theorem dX2_init_160 : decode cX2_init 160 = .ok (.iadd, 1) := by decide +kernel
theorem dX2_init_161 : decode cX2_init 161 = .ok (.iconst 4, 1) := by decide +kernel
theorem dX2_init_162 : decode cX2_init 162 = .ok (.idiv, 1) := by decide +kernel
theorem dX2_init_163 : decode cX2_init 163 = .ok (.istore 4, 2) := by decide +kernel
theorem dX2_init_165 : decode cX2_init 165 = .ok (.aload_n 0, 1) := by decide +kernel
theorem dX2_init_166 : decode cX2_init 166 = .ok (.getfield 32, 3) := by decide +kernel
theorem dX2_init_169 : decode cX2_init 169 = .ok (.iload_n 2, 1) := by decide +kernel
theorem dX2_init_170 : decode cX2_init 170 = .ok (.bipush 32, 2) := by decide +kernel
theorem dX2_init_172 : decode cX2_init 172 = .ok (.imul, 1) := by decide +kernel
theorem dX2_init_173 : decode cX2_init 173 = .ok (.iload_n 3, 1) := by decide +kernel
theorem dX2_init_174 : decode cX2_init 174 = .ok (.iadd, 1) := by decide +kernel
theorem dX2_init_175 : decode cX2_init 175 = .ok (.iload 4, 2) := by decide +kernel
theorem dX2_init_177 : decode cX2_init 177 = .ok (.bipush 26, 2) := by decide +kernel
theorem dX2_init_179 : decode cX2_init 179 = .ok (.ishl, 1) := by decide +kernel
theorem dX2_init_180 : decode cX2_init 180 = .ok (.iastore, 1) := by decide +kernel
theorem dX2_init_181 : decode cX2_init 181 = .ok (.iinc 3 1, 3) := by decide +kernel
theorem dX2_init_184 : decode cX2_init 184 = .ok (.goto (-46), 3) := by decide +kernel
theorem dX2_init_187 : decode cX2_init 187 = .ok (.iinc 1 1, 3) := by decide +kernel
theorem dX2_init_190 : decode cX2_init 190 = .ok (.goto (-97), 3) := by decide +kernel
theorem dX2_init_193 : decode cX2_init 193 = .ok (.return_, 1) := by decide +kernel
set_option maxRecDepth 100000 in
set_option maxHeartbeats 4000000 in
theorem c_X2_init (S : Hp) (h : Nat) (hm : h ∈ hL S) (hk : hK S h = 2) : Ct 3 yX2_init cX2_init 5 none 8 23174 [.ref h] S (fun r S' => r = none ∧ Fm (fun _ _ => False) (fun f9 b9 => b9 = h) (fun _ => False) S S' ∧ ∃ q0 q1 : Nat, q0 ∉ hL S ∧ q0 ∈ hL S' ∧ Kd S' q0 8 ∧ hR S' 200 h = some q0 ∧ q1 ∉ hL S ∧ q1 ∈ hL S' ∧ Kd S' q1 14 ∧ Ln S' q1 16 ∧ hR S' 800 q0 = some q1 ∧ (∀ j, aI S' q1 j = 0)) := by
  refine ct_of (by decide) (Nat.le_of_ble_eq_true rfl) fun x hn9 C M hm9 => ?_
  have C : CB x RX2 cX2_init := C
  refine J.eq (lv' := [(0, .ref h)]) rfl rfl rfl ?_
  refine j_aload_n C dX2_init_0 rfl 0 rfl ?_
  refine j_objInit C mlX2_5 nst_oi (M.fl (by decide)) dX2_init_1 ?_
  refine j_aload_n C dX2_init_4 rfl 0 rfl ?_
  refine j_new (N := 1) C (ci := 8) rfl rfl klX2_11 knX8 kiX8 (M.cells (by decide)) (M.slots (by decide)) dX2_init_5 (fun q_1 hq_2 => ?_)
  have hz_3 : q_1 ∉ hL S := hq_2
  refine j_dup C dX2_init_8 rfl ?_
  have hf_4 : Fm (fun _ _ => False) (fun f9 b9 => b9 = h) (fun _ => False) S (nO S q_1 8) := ((Fm.refl (WI := (fun _ _ => False)) (WR := (fun f9 b9 => b9 = h)) (WA := (fun _ => False))).nO _ hq_2)
  refine j_callI C [] [.ref q_1, .ref h] mlX2_13 mcX8_init (c_X8_init (nO S q_1 8) q_1 mem_new (kd_nO' (k := 8))) (M.rm (by decide) (by decide) (Nat.le_of_ble_eq_true rfl) (Nat.le_of_ble_eq_true rfl)) rfl rfl (Nat.le_of_ble_eq_true rfl) dX2_init_9 (fun r_12 S_13 hp_14 => ?_)
  obtain ⟨rfl, hf_15, q_5, e_6, e_7, e_8, e_9, e_10, e_11⟩ := hp_14
  refine J.eq (st' := [.ref q_1, .ref h]) rfl rfl rfl ?_
  have hm_16 : h ∈ hL S_13 := hf_15.mem (mem_old hm)
  have hk_17 : Kd S_13 h 2 := hf_15.kd (mem_old hm) (kd_nO (k := 8) hq_2 hm hk)
  have hm_18 : q_1 ∈ hL S_13 := hf_15.mem mem_new
  have hk_19 : Kd S_13 q_1 8 := hf_15.kd mem_new (kd_nO' (k := 8))
  have hf_20 : Fm (fun _ _ => False) (fun f9 b9 => b9 = h) (fun _ => False) S S_13 := hf_4.then hf_15 (fun a9 ha9 => ⟨(fun f9 h9 => h9.elim), (fun f9 h9 => (fun h8 => absurd (h8 ▸ ha9) hz_3) h9), (fun h9 => h9.elim)⟩)
  have hz_21 : q_5 ∉ hL S := fun h9 => e_6 (hf_4.mem h9)
  refine j_putrF (f := 200) C hm9 flX2_14o (by decide) rfl rfl dX2_init_12 hm_16 hk_17 rfl ?_
  refine j_aload_n C dX2_init_15 rfl 0 rfl ?_
  show J _ _ _ _ _ 16 _
  refine j_bipush (v := 119) C dX2_init_16 (by decide) ?_
  have hf_24 : Fm (fun _ _ => False) (fun f9 b9 => b9 = h) (fun _ => False) S (sR S_13 200 h (some q_1)) := (hf_20.sR _ (fun _ => rfl))
  refine j_newI (N := 119) C ka_int (by decide) (by decide) (Nat.le_of_ble_eq_true rfl) (M.cells (by decide)) (M.slots (Nat.le_of_ble_eq_true rfl)) dX2_init_18 (fun q_22 hq_23 => ?_)
  have hz_25 : q_22 ∉ hL S := fun h9 => hq_23 (hf_24.mem h9)
  refine j_putrF (f := 201) C hm9 flX2_18o (by decide) rfl rfl dX2_init_20 (mem_old hm_16) (kd_nA (k := 14) (n := 119) hq_23 hm_16 hk_17) rfl ?_
  refine j_aload_n C dX2_init_23 rfl 0 rfl ?_
  refine j_sipush (v := 4352) C dX2_init_24 (by decide) ?_
  have hf_28 : Fm (fun _ _ => False) (fun f9 b9 => b9 = h) (fun _ => False) S (sR (nA (sR S_13 200 h (some q_1)) q_22 14 119) 201 h (some q_22)) := ((hf_24.nA _ _ hq_23).sR _ (fun _ => rfl))
  obtain ⟨S_26, eS_27⟩ : ∃ S9 : Hp, S9 = (sR (nA (sR S_13 200 h (some q_1)) q_22 14 119) 201 h (some q_22)) := ⟨_, rfl⟩
  refine J.eq (S' := S_26) eS_27.symm rfl rfl ?_
  have hm_29 : h ∈ hL S_26 := by rw [eS_27]; exact (mem_old hm_16)
  have hk_30 : Kd S_26 h 2 := by rw [eS_27]; exact (kd_nA (k := 14) (n := 119) hq_23 hm_16 hk_17)
  have hm_31 : q_1 ∈ hL S_26 := by rw [eS_27]; exact (mem_old hm_18)
  have hk_32 : Kd S_26 q_1 8 := by rw [eS_27]; exact (kd_nA (k := 14) (n := 119) hq_23 hm_18 hk_19)
  have hm_33 : q_22 ∈ hL S_26 := by rw [eS_27]; exact mem_new
  have hk_34 : Kd S_26 q_22 14 := by rw [eS_27]; exact (kd_nA' (k := 14) (n := 119))
  have hn_35 : Ln S_26 q_22 119 := by rw [eS_27]; exact (ln_nA' (k := 14))
  have hz_36 : ∀ j, aI S_26 q_22 j = 0 := by rw [eS_27]; exact (fun j9 => rd_nAI' (k := 14) (n := 119))
  have hm_37 : q_5 ∈ hL S_26 := by rw [eS_27]; exact (mem_old e_7)
  have hk_38 : Kd S_26 q_5 14 := by rw [eS_27]; exact (kd_nA (k := 14) (n := 119) hq_23 e_7 e_8)
  have hn_39 : Ln S_26 q_5 16 := by rw [eS_27]; exact (ln_nA (k := 14) hq_23 e_7 e_9)
  have hz_40 : ∀ j, aI S_26 q_5 j = 0 := by rw [eS_27]; exact (fun j9 => rd_nAI (k := 14) (n := 119) hq_23 e_7 (e_11 j9))
  have hv_41 : hR S_26 200 h = (some q_1) := by rw [eS_27]; exact (rd_sRf (S := (nA (sR S_13 200 h (some q_1)) q_22 14 119)) (g := 201) (a := h) (v := (some q_22)) (by decide) (rd_sR (S := S_13) (g := 200) (a := h) (v := (some q_1))))
  have hv_42 : hR S_26 201 h = (some q_22) := by rw [eS_27]; exact (rd_sR (S := (nA (sR S_13 200 h (some q_1)) q_22 14 119)) (g := 201) (a := h) (v := (some q_22)))
  have hv_43 : hR S_26 800 q_1 = (some q_5) := by rw [eS_27]; exact (rd_sRf (S := (nA (sR S_13 200 h (some q_1)) q_22 14 119)) (g := 201) (a := h) (v := (some q_22)) (by decide) (rd_sRf (S := S_13) (g := 200) (a := h) (v := (some q_1)) (by decide) e_10))
  have hf_44 : Fm (fun _ _ => False) (fun f9 b9 => b9 = h) (fun _ => False) S S_26 := by rw [eS_27]; exact hf_28
  refine j_newI (N := 4352) C ka_int (by decide) (by decide) (Nat.le_of_ble_eq_true rfl) (M.cells (by decide)) (M.slots (Nat.le_of_ble_eq_true rfl)) dX2_init_27 (fun q_45 hq_46 => ?_)
  have hz_47 : q_45 ∉ hL S := fun h9 => hq_46 (hf_44.mem h9)
  refine j_putrF (f := 202) C hm9 flX2_22o (by decide) rfl rfl dX2_init_29 (mem_old hm_29) (kd_nA (k := 14) (n := 4352) hq_46 hm_29 hk_30) rfl ?_
  refine j_aload_n C dX2_init_32 rfl 0 rfl ?_
  show J _ _ _ _ _ 33 _
  refine j_sipush (v := 400) C dX2_init_33 (by decide) ?_
  have hf_50 : Fm (fun _ _ => False) (fun f9 b9 => b9 = h) (fun _ => False) S (sR (nA S_26 q_45 14 4352) 202 h (some q_45)) := ((hf_44.nA _ _ hq_46).sR _ (fun _ => rfl))
  obtain ⟨S_48, eS_49⟩ : ∃ S9 : Hp, S9 = (sR (nA S_26 q_45 14 4352) 202 h (some q_45)) := ⟨_, rfl⟩
  refine J.eq (S' := S_48) eS_49.symm rfl rfl ?_
  have hm_51 : h ∈ hL S_48 := by rw [eS_49]; exact (mem_old hm_29)
  have hk_52 : Kd S_48 h 2 := by rw [eS_49]; exact (kd_nA (k := 14) (n := 4352) hq_46 hm_29 hk_30)
  have hm_53 : q_1 ∈ hL S_48 := by rw [eS_49]; exact (mem_old hm_31)
  have hk_54 : Kd S_48 q_1 8 := by rw [eS_49]; exact (kd_nA (k := 14) (n := 4352) hq_46 hm_31 hk_32)
  have hm_55 : q_22 ∈ hL S_48 := by rw [eS_49]; exact (mem_old hm_33)
  have hk_56 : Kd S_48 q_22 14 := by rw [eS_49]; exact (kd_nA (k := 14) (n := 4352) hq_46 hm_33 hk_34)
  have hn_57 : Ln S_48 q_22 119 := by rw [eS_49]; exact (ln_nA (k := 14) hq_46 hm_33 hn_35)
  have hz_58 : ∀ j, aI S_48 q_22 j = 0 := by rw [eS_49]; exact (fun j9 => rd_nAI (k := 14) (n := 4352) hq_46 hm_33 (hz_36 j9))
  have hm_59 : q_45 ∈ hL S_48 := by rw [eS_49]; exact mem_new
  have hk_60 : Kd S_48 q_45 14 := by rw [eS_49]; exact (kd_nA' (k := 14) (n := 4352))
  have hn_61 : Ln S_48 q_45 4352 := by rw [eS_49]; exact (ln_nA' (k := 14))
  have hz_62 : ∀ j, aI S_48 q_45 j = 0 := by rw [eS_49]; exact (fun j9 => rd_nAI' (k := 14) (n := 4352))
  have hm_63 : q_5 ∈ hL S_48 := by rw [eS_49]; exact (mem_old hm_37)
  have hk_64 : Kd S_48 q_5 14 := by rw [eS_49]; exact (kd_nA (k := 14) (n := 4352) hq_46 hm_37 hk_38)
  have hn_65 : Ln S_48 q_5 16 := by rw [eS_49]; exact (ln_nA (k := 14) hq_46 hm_37 hn_39)
  have hz_66 : ∀ j, aI S_48 q_5 j = 0 := by rw [eS_49]; exact (fun j9 => rd_nAI (k := 14) (n := 4352) hq_46 hm_37 (hz_40 j9))
  have hv_67 : hR S_48 200 h = (some q_1) := by rw [eS_49]; exact (rd_sRf (S := (nA S_26 q_45 14 4352)) (g := 202) (a := h) (v := (some q_45)) (by decide) hv_41)
  have hv_68 : hR S_48 201 h = (some q_22) := by rw [eS_49]; exact (rd_sRf (S := (nA S_26 q_45 14 4352)) (g := 202) (a := h) (v := (some q_45)) (by decide) hv_42)
  have hv_69 : hR S_48 202 h = (some q_45) := by rw [eS_49]; exact (rd_sR (S := (nA S_26 q_45 14 4352)) (g := 202) (a := h) (v := (some q_45)))
  have hv_70 : hR S_48 800 q_1 = (some q_5) := by rw [eS_49]; exact (rd_sRf (S := (nA S_26 q_45 14 4352)) (g := 202) (a := h) (v := (some q_45)) (by decide) hv_43)
  have hf_71 : Fm (fun _ _ => False) (fun f9 b9 => b9 = h) (fun _ => False) S S_48 := by rw [eS_49]; exact hf_50
  refine j_newZ (N := 400) C ka_boolean (by decide) (by decide) (Nat.le_of_ble_eq_true rfl) (M.cells (by decide)) (M.slots (Nat.le_of_ble_eq_true rfl)) dX2_init_36 (fun q_72 hq_73 => ?_)
  have hz_74 : q_72 ∉ hL S := fun h9 => hq_73 (hf_71.mem h9)
  refine j_putrF (f := 203) C hm9 flX2_25o (by decide) rfl rfl dX2_init_38 (mem_old hm_51) (kd_nA (k := 17) (n := 400) hq_73 hm_51 hk_52) rfl ?_
  refine j_aload_n C dX2_init_41 rfl 0 rfl ?_
  refine j_sipush (v := 2470) C dX2_init_42 (by decide) ?_
  have hf_77 : Fm (fun _ _ => False) (fun f9 b9 => b9 = h) (fun _ => False) S (sR (nA S_48 q_72 17 400) 203 h (some q_72)) := ((hf_71.nA _ _ hq_73).sR _ (fun _ => rfl))
  obtain ⟨S_75, eS_76⟩ : ∃ S9 : Hp, S9 = (sR (nA S_48 q_72 17 400) 203 h (some q_72)) := ⟨_, rfl⟩
  refine J.eq (S' := S_75) eS_76.symm rfl rfl ?_
  have hm_78 : h ∈ hL S_75 := by rw [eS_76]; exact (mem_old hm_51)
  have hk_79 : Kd S_75 h 2 := by rw [eS_76]; exact (kd_nA (k := 17) (n := 400) hq_73 hm_51 hk_52)
  have hm_80 : q_1 ∈ hL S_75 := by rw [eS_76]; exact (mem_old hm_53)
  have hk_81 : Kd S_75 q_1 8 := by rw [eS_76]; exact (kd_nA (k := 17) (n := 400) hq_73 hm_53 hk_54)
  have hm_82 : q_22 ∈ hL S_75 := by rw [eS_76]; exact (mem_old hm_55)
  have hk_83 : Kd S_75 q_22 14 := by rw [eS_76]; exact (kd_nA (k := 17) (n := 400) hq_73 hm_55 hk_56)
  have hn_84 : Ln S_75 q_22 119 := by rw [eS_76]; exact (ln_nA (k := 17) hq_73 hm_55 hn_57)
  have hz_85 : ∀ j, aI S_75 q_22 j = 0 := by rw [eS_76]; exact (fun j9 => rd_nAI (k := 17) (n := 400) hq_73 hm_55 (hz_58 j9))
  have hm_86 : q_45 ∈ hL S_75 := by rw [eS_76]; exact (mem_old hm_59)
  have hk_87 : Kd S_75 q_45 14 := by rw [eS_76]; exact (kd_nA (k := 17) (n := 400) hq_73 hm_59 hk_60)
  have hn_88 : Ln S_75 q_45 4352 := by rw [eS_76]; exact (ln_nA (k := 17) hq_73 hm_59 hn_61)
  have hz_89 : ∀ j, aI S_75 q_45 j = 0 := by rw [eS_76]; exact (fun j9 => rd_nAI (k := 17) (n := 400) hq_73 hm_59 (hz_62 j9))
  have hm_90 : q_5 ∈ hL S_75 := by rw [eS_76]; exact (mem_old hm_63)
  have hk_91 : Kd S_75 q_5 14 := by rw [eS_76]; exact (kd_nA (k := 17) (n := 400) hq_73 hm_63 hk_64)
  have hn_92 : Ln S_75 q_5 16 := by rw [eS_76]; exact (ln_nA (k := 17) hq_73 hm_63 hn_65)
  have hz_93 : ∀ j, aI S_75 q_5 j = 0 := by rw [eS_76]; exact (fun j9 => rd_nAI (k := 17) (n := 400) hq_73 hm_63 (hz_66 j9))
  have hm_94 : q_72 ∈ hL S_75 := by rw [eS_76]; exact mem_new
  have hk_95 : Kd S_75 q_72 17 := by rw [eS_76]; exact (kd_nA' (k := 17) (n := 400))
  have hn_96 : Ln S_75 q_72 400 := by rw [eS_76]; exact (ln_nA' (k := 17))
  have hz_97 : ∀ j, aI S_75 q_72 j = 0 := by rw [eS_76]; exact (fun j9 => rd_nAI' (k := 17) (n := 400))
  have hv_98 : hR S_75 200 h = (some q_1) := by rw [eS_76]; exact (rd_sRf (S := (nA S_48 q_72 17 400)) (g := 203) (a := h) (v := (some q_72)) (by decide) hv_67)
  have hv_99 : hR S_75 201 h = (some q_22) := by rw [eS_76]; exact (rd_sRf (S := (nA S_48 q_72 17 400)) (g := 203) (a := h) (v := (some q_72)) (by decide) hv_68)
  have hv_100 : hR S_75 202 h = (some q_45) := by rw [eS_76]; exact (rd_sRf (S := (nA S_48 q_72 17 400)) (g := 203) (a := h) (v := (some q_72)) (by decide) hv_69)
  have hv_101 : hR S_75 203 h = (some q_72) := by rw [eS_76]; exact (rd_sR (S := (nA S_48 q_72 17 400)) (g := 203) (a := h) (v := (some q_72)))
  have hv_102 : hR S_75 800 q_1 = (some q_5) := by rw [eS_76]; exact (rd_sRf (S := (nA S_48 q_72 17 400)) (g := 203) (a := h) (v := (some q_72)) (by decide) hv_70)
  have hf_103 : Fm (fun _ _ => False) (fun f9 b9 => b9 = h) (fun _ => False) S S_75 := by rw [eS_76]; exact hf_77
  refine j_newI (N := 2470) C ka_int (by decide) (by decide) (Nat.le_of_ble_eq_true rfl) (M.cells (by decide)) (M.slots (Nat.le_of_ble_eq_true rfl)) dX2_init_45 (fun q_104 hq_105 => ?_)
  have hz_106 : q_104 ∉ hL S := fun h9 => hq_105 (hf_103.mem h9)
  refine j_putrF (f := 204) C hm9 flX2_29o (by decide) rfl rfl dX2_init_47 (mem_old hm_78) (kd_nA (k := 14) (n := 2470) hq_105 hm_78 hk_79) rfl ?_
  refine j_aload_n C dX2_init_50 rfl 0 rfl ?_
  show J _ _ _ _ _ 51 _
  refine j_sipush (v := 15808) C dX2_init_51 (by decide) ?_
  have hf_109 : Fm (fun _ _ => False) (fun f9 b9 => b9 = h) (fun _ => False) S (sR (nA S_75 q_104 14 2470) 204 h (some q_104)) := ((hf_103.nA _ _ hq_105).sR _ (fun _ => rfl))
  obtain ⟨S_107, eS_108⟩ : ∃ S9 : Hp, S9 = (sR (nA S_75 q_104 14 2470) 204 h (some q_104)) := ⟨_, rfl⟩
  refine J.eq (S' := S_107) eS_108.symm rfl rfl ?_
  have hm_110 : h ∈ hL S_107 := by rw [eS_108]; exact (mem_old hm_78)
  have hk_111 : Kd S_107 h 2 := by rw [eS_108]; exact (kd_nA (k := 14) (n := 2470) hq_105 hm_78 hk_79)
  have hm_112 : q_1 ∈ hL S_107 := by rw [eS_108]; exact (mem_old hm_80)
  have hk_113 : Kd S_107 q_1 8 := by rw [eS_108]; exact (kd_nA (k := 14) (n := 2470) hq_105 hm_80 hk_81)
  have hm_114 : q_104 ∈ hL S_107 := by rw [eS_108]; exact mem_new
  have hk_115 : Kd S_107 q_104 14 := by rw [eS_108]; exact (kd_nA' (k := 14) (n := 2470))
  have hn_116 : Ln S_107 q_104 2470 := by rw [eS_108]; exact (ln_nA' (k := 14))
  have hz_117 : ∀ j, aI S_107 q_104 j = 0 := by rw [eS_108]; exact (fun j9 => rd_nAI' (k := 14) (n := 2470))
  have hm_118 : q_22 ∈ hL S_107 := by rw [eS_108]; exact (mem_old hm_82)
  have hk_119 : Kd S_107 q_22 14 := by rw [eS_108]; exact (kd_nA (k := 14) (n := 2470) hq_105 hm_82 hk_83)
  have hn_120 : Ln S_107 q_22 119 := by rw [eS_108]; exact (ln_nA (k := 14) hq_105 hm_82 hn_84)
  have hz_121 : ∀ j, aI S_107 q_22 j = 0 := by rw [eS_108]; exact (fun j9 => rd_nAI (k := 14) (n := 2470) hq_105 hm_82 (hz_85 j9))
  have hm_122 : q_45 ∈ hL S_107 := by rw [eS_108]; exact (mem_old hm_86)
  have hk_123 : Kd S_107 q_45 14 := by rw [eS_108]; exact (kd_nA (k := 14) (n := 2470) hq_105 hm_86 hk_87)
  have hn_124 : Ln S_107 q_45 4352 := by rw [eS_108]; exact (ln_nA (k := 14) hq_105 hm_86 hn_88)
  have hz_125 : ∀ j, aI S_107 q_45 j = 0 := by rw [eS_108]; exact (fun j9 => rd_nAI (k := 14) (n := 2470) hq_105 hm_86 (hz_89 j9))
  have hm_126 : q_5 ∈ hL S_107 := by rw [eS_108]; exact (mem_old hm_90)
  have hk_127 : Kd S_107 q_5 14 := by rw [eS_108]; exact (kd_nA (k := 14) (n := 2470) hq_105 hm_90 hk_91)
  have hn_128 : Ln S_107 q_5 16 := by rw [eS_108]; exact (ln_nA (k := 14) hq_105 hm_90 hn_92)
  have hz_129 : ∀ j, aI S_107 q_5 j = 0 := by rw [eS_108]; exact (fun j9 => rd_nAI (k := 14) (n := 2470) hq_105 hm_90 (hz_93 j9))
  have hm_130 : q_72 ∈ hL S_107 := by rw [eS_108]; exact (mem_old hm_94)
  have hk_131 : Kd S_107 q_72 17 := by rw [eS_108]; exact (kd_nA (k := 14) (n := 2470) hq_105 hm_94 hk_95)
  have hn_132 : Ln S_107 q_72 400 := by rw [eS_108]; exact (ln_nA (k := 14) hq_105 hm_94 hn_96)
  have hz_133 : ∀ j, aI S_107 q_72 j = 0 := by rw [eS_108]; exact (fun j9 => rd_nAI (k := 14) (n := 2470) hq_105 hm_94 (hz_97 j9))
  have hv_134 : hR S_107 200 h = (some q_1) := by rw [eS_108]; exact (rd_sRf (S := (nA S_75 q_104 14 2470)) (g := 204) (a := h) (v := (some q_104)) (by decide) hv_98)
  have hv_135 : hR S_107 201 h = (some q_22) := by rw [eS_108]; exact (rd_sRf (S := (nA S_75 q_104 14 2470)) (g := 204) (a := h) (v := (some q_104)) (by decide) hv_99)
  have hv_136 : hR S_107 202 h = (some q_45) := by rw [eS_108]; exact (rd_sRf (S := (nA S_75 q_104 14 2470)) (g := 204) (a := h) (v := (some q_104)) (by decide) hv_100)
  have hv_137 : hR S_107 203 h = (some q_72) := by rw [eS_108]; exact (rd_sRf (S := (nA S_75 q_104 14 2470)) (g := 204) (a := h) (v := (some q_104)) (by decide) hv_101)
  have hv_138 : hR S_107 204 h = (some q_104) := by rw [eS_108]; exact (rd_sR (S := (nA S_75 q_104 14 2470)) (g := 204) (a := h) (v := (some q_104)))
  have hv_139 : hR S_107 800 q_1 = (some q_5) := by rw [eS_108]; exact (rd_sRf (S := (nA S_75 q_104 14 2470)) (g := 204) (a := h) (v := (some q_104)) (by decide) hv_102)
  have hf_140 : Fm (fun _ _ => False) (fun f9 b9 => b9 = h) (fun _ => False) S S_107 := by rw [eS_108]; exact hf_109
  refine j_newI (N := 15808) C ka_int (by decide) (by decide) (Nat.le_of_ble_eq_true rfl) (M.cells (by decide)) (M.slots (Nat.le_of_ble_eq_true rfl)) dX2_init_54 (fun q_141 hq_142 => ?_)
  have hz_143 : q_141 ∉ hL S := fun h9 => hq_142 (hf_140.mem h9)
  refine j_putrF (f := 205) C hm9 flX2_32o (by decide) rfl rfl dX2_init_56 (mem_old hm_110) (kd_nA (k := 14) (n := 15808) hq_142 hm_110 hk_111) rfl ?_
  refine j_aload_n C dX2_init_59 rfl 0 rfl ?_
  refine j_bipush (v := 8) C dX2_init_60 (by decide) ?_
  have hf_146 : Fm (fun _ _ => False) (fun f9 b9 => b9 = h) (fun _ => False) S (sR (nA S_107 q_141 14 15808) 205 h (some q_141)) := ((hf_140.nA _ _ hq_142).sR _ (fun _ => rfl))
  obtain ⟨S_144, eS_145⟩ : ∃ S9 : Hp, S9 = (sR (nA S_107 q_141 14 15808) 205 h (some q_141)) := ⟨_, rfl⟩
  refine J.eq (S' := S_144) eS_145.symm rfl rfl ?_
  have hm_147 : h ∈ hL S_144 := by rw [eS_145]; exact (mem_old hm_110)
  have hk_148 : Kd S_144 h 2 := by rw [eS_145]; exact (kd_nA (k := 14) (n := 15808) hq_142 hm_110 hk_111)
  have hm_149 : q_1 ∈ hL S_144 := by rw [eS_145]; exact (mem_old hm_112)
  have hk_150 : Kd S_144 q_1 8 := by rw [eS_145]; exact (kd_nA (k := 14) (n := 15808) hq_142 hm_112 hk_113)
  have hm_151 : q_104 ∈ hL S_144 := by rw [eS_145]; exact (mem_old hm_114)
  have hk_152 : Kd S_144 q_104 14 := by rw [eS_145]; exact (kd_nA (k := 14) (n := 15808) hq_142 hm_114 hk_115)
  have hn_153 : Ln S_144 q_104 2470 := by rw [eS_145]; exact (ln_nA (k := 14) hq_142 hm_114 hn_116)
  have hz_154 : ∀ j, aI S_144 q_104 j = 0 := by rw [eS_145]; exact (fun j9 => rd_nAI (k := 14) (n := 15808) hq_142 hm_114 (hz_117 j9))
  have hm_155 : q_141 ∈ hL S_144 := by rw [eS_145]; exact mem_new
  have hk_156 : Kd S_144 q_141 14 := by rw [eS_145]; exact (kd_nA' (k := 14) (n := 15808))
  have hn_157 : Ln S_144 q_141 15808 := by rw [eS_145]; exact (ln_nA' (k := 14))
  have hz_158 : ∀ j, aI S_144 q_141 j = 0 := by rw [eS_145]; exact (fun j9 => rd_nAI' (k := 14) (n := 15808))
  have hm_159 : q_22 ∈ hL S_144 := by rw [eS_145]; exact (mem_old hm_118)
  have hk_160 : Kd S_144 q_22 14 := by rw [eS_145]; exact (kd_nA (k := 14) (n := 15808) hq_142 hm_118 hk_119)
  have hn_161 : Ln S_144 q_22 119 := by rw [eS_145]; exact (ln_nA (k := 14) hq_142 hm_118 hn_120)
  have hz_162 : ∀ j, aI S_144 q_22 j = 0 := by rw [eS_145]; exact (fun j9 => rd_nAI (k := 14) (n := 15808) hq_142 hm_118 (hz_121 j9))
  have hm_163 : q_45 ∈ hL S_144 := by rw [eS_145]; exact (mem_old hm_122)
  have hk_164 : Kd S_144 q_45 14 := by rw [eS_145]; exact (kd_nA (k := 14) (n := 15808) hq_142 hm_122 hk_123)
  have hn_165 : Ln S_144 q_45 4352 := by rw [eS_145]; exact (ln_nA (k := 14) hq_142 hm_122 hn_124)
  have hz_166 : ∀ j, aI S_144 q_45 j = 0 := by rw [eS_145]; exact (fun j9 => rd_nAI (k := 14) (n := 15808) hq_142 hm_122 (hz_125 j9))
  have hm_167 : q_5 ∈ hL S_144 := by rw [eS_145]; exact (mem_old hm_126)
  have hk_168 : Kd S_144 q_5 14 := by rw [eS_145]; exact (kd_nA (k := 14) (n := 15808) hq_142 hm_126 hk_127)
  have hn_169 : Ln S_144 q_5 16 := by rw [eS_145]; exact (ln_nA (k := 14) hq_142 hm_126 hn_128)
  have hz_170 : ∀ j, aI S_144 q_5 j = 0 := by rw [eS_145]; exact (fun j9 => rd_nAI (k := 14) (n := 15808) hq_142 hm_126 (hz_129 j9))
  have hm_171 : q_72 ∈ hL S_144 := by rw [eS_145]; exact (mem_old hm_130)
  have hk_172 : Kd S_144 q_72 17 := by rw [eS_145]; exact (kd_nA (k := 14) (n := 15808) hq_142 hm_130 hk_131)
  have hn_173 : Ln S_144 q_72 400 := by rw [eS_145]; exact (ln_nA (k := 14) hq_142 hm_130 hn_132)
  have hz_174 : ∀ j, aI S_144 q_72 j = 0 := by rw [eS_145]; exact (fun j9 => rd_nAI (k := 14) (n := 15808) hq_142 hm_130 (hz_133 j9))
  have hv_175 : hR S_144 200 h = (some q_1) := by rw [eS_145]; exact (rd_sRf (S := (nA S_107 q_141 14 15808)) (g := 205) (a := h) (v := (some q_141)) (by decide) hv_134)
  have hv_176 : hR S_144 201 h = (some q_22) := by rw [eS_145]; exact (rd_sRf (S := (nA S_107 q_141 14 15808)) (g := 205) (a := h) (v := (some q_141)) (by decide) hv_135)
  have hv_177 : hR S_144 202 h = (some q_45) := by rw [eS_145]; exact (rd_sRf (S := (nA S_107 q_141 14 15808)) (g := 205) (a := h) (v := (some q_141)) (by decide) hv_136)
  have hv_178 : hR S_144 203 h = (some q_72) := by rw [eS_145]; exact (rd_sRf (S := (nA S_107 q_141 14 15808)) (g := 205) (a := h) (v := (some q_141)) (by decide) hv_137)
  have hv_179 : hR S_144 204 h = (some q_104) := by rw [eS_145]; exact (rd_sRf (S := (nA S_107 q_141 14 15808)) (g := 205) (a := h) (v := (some q_141)) (by decide) hv_138)
  have hv_180 : hR S_144 205 h = (some q_141) := by rw [eS_145]; exact (rd_sR (S := (nA S_107 q_141 14 15808)) (g := 205) (a := h) (v := (some q_141)))
  have hv_181 : hR S_144 800 q_1 = (some q_5) := by rw [eS_145]; exact (rd_sRf (S := (nA S_107 q_141 14 15808)) (g := 205) (a := h) (v := (some q_141)) (by decide) hv_139)
  have hf_182 : Fm (fun _ _ => False) (fun f9 b9 => b9 = h) (fun _ => False) S S_144 := by rw [eS_145]; exact hf_146
  refine j_newI (N := 8) C ka_int (by decide) (by decide) (Nat.le_of_ble_eq_true rfl) (M.cells (by decide)) (M.slots (Nat.le_of_ble_eq_true rfl)) dX2_init_62 (fun q_183 hq_184 => ?_)
  have hz_185 : q_183 ∉ hL S := fun h9 => hq_184 (hf_182.mem h9)
  refine j_putrF (f := 207) C hm9 flX2_35o (by decide) rfl rfl dX2_init_64 (mem_old hm_147) (kd_nA (k := 14) (n := 8) hq_184 hm_147 hk_148) rfl ?_
  refine j_aload_n C dX2_init_67 rfl 0 rfl ?_
  show J _ _ _ _ _ 68 _
  refine j_getr (f := 207) (v := q_183) C flX2_35 dX2_init_68 (mem_old hm_147) (kd_nA (k := 14) (n := 8) hq_184 hm_147 hk_148) (by decide) rfl (rd_sR (S := (nA S_144 q_183 14 8)) (g := 207) (a := h) (v := (some q_183))) ?_
  have hf_186 : Fm (fun _ _ => False) (fun f9 b9 => b9 = h) (fun _ => False) S (sR (nA S_144 q_183 14 8) 207 h (some q_183)) := ((hf_182.nA _ _ hq_184).sR _ (fun _ => rfl))
  refine j_callS C [.ref q_183] [] mlX2_38 mcX2_firstWishes (c_X2_firstWishes (sR (nA S_144 q_183 14 8) 207 h (some q_183)) q_183 mem_new (kd_nA' (k := 14) (n := 8)) (ln_nA' (k := 14))) (M.rm (by decide) (by decide) (Nat.le_of_ble_eq_true rfl) (Nat.le_of_ble_eq_true rfl)) rfl rfl (Nat.le_of_ble_eq_true rfl) dX2_init_71 (fun r_187 S_188 hp_189 => ?_)
  obtain ⟨rfl, hf_190⟩ := hp_189
  refine J.eq (st' := []) rfl rfl rfl ?_
  have hz_191 : ∀ j, aI S_188 q_104 j = 0 := fun j9 => (hf_190.ai (mem_old hm_151) (fun q9 => (ne_of_nin hq_184 hm_151) q9) j9).trans ((fun j9 => rd_nAI (k := 14) (n := 8) hq_184 hm_151 (hz_154 j9)) j9)
  have hz_192 : ∀ j, aI S_188 q_141 j = 0 := fun j9 => (hf_190.ai (mem_old hm_155) (fun q9 => (ne_of_nin hq_184 hm_155) q9) j9).trans ((fun j9 => rd_nAI (k := 14) (n := 8) hq_184 hm_155 (hz_158 j9)) j9)
  have hz_193 : ∀ j, aI S_188 q_22 j = 0 := fun j9 => (hf_190.ai (mem_old hm_159) (fun q9 => (ne_of_nin hq_184 hm_159) q9) j9).trans ((fun j9 => rd_nAI (k := 14) (n := 8) hq_184 hm_159 (hz_162 j9)) j9)
  have hz_194 : ∀ j, aI S_188 q_45 j = 0 := fun j9 => (hf_190.ai (mem_old hm_163) (fun q9 => (ne_of_nin hq_184 hm_163) q9) j9).trans ((fun j9 => rd_nAI (k := 14) (n := 8) hq_184 hm_163 (hz_166 j9)) j9)
  have hz_195 : ∀ j, aI S_188 q_5 j = 0 := fun j9 => (hf_190.ai (mem_old hm_167) (fun q9 => (ne_of_nin hq_184 hm_167) q9) j9).trans ((fun j9 => rd_nAI (k := 14) (n := 8) hq_184 hm_167 (hz_170 j9)) j9)
  have hz_196 : ∀ j, aI S_188 q_72 j = 0 := fun j9 => (hf_190.ai (mem_old hm_171) (fun q9 => (fun e9 => absurd (((kd_nA (k := 14) (n := 8) hq_184 hm_171 hk_172)).symm.trans ((congrArg (hK _) e9).trans (kd_nA' (k := 14) (n := 8)))) (by decide)) q9) j9).trans ((fun j9 => rd_nAI (k := 14) (n := 8) hq_184 hm_171 (hz_174 j9)) j9)
  have hm_197 : h ∈ hL S_188 := hf_190.mem (mem_old hm_147)
  have hk_198 : Kd S_188 h 2 := hf_190.kd (mem_old hm_147) (kd_nA (k := 14) (n := 8) hq_184 hm_147 hk_148)
  have hm_199 : q_1 ∈ hL S_188 := hf_190.mem (mem_old hm_149)
  have hk_200 : Kd S_188 q_1 8 := hf_190.kd (mem_old hm_149) (kd_nA (k := 14) (n := 8) hq_184 hm_149 hk_150)
  have hm_201 : q_104 ∈ hL S_188 := hf_190.mem (mem_old hm_151)
  have hk_202 : Kd S_188 q_104 14 := hf_190.kd (mem_old hm_151) (kd_nA (k := 14) (n := 8) hq_184 hm_151 hk_152)
  have hn_203 : Ln S_188 q_104 2470 := hf_190.ln (mem_old hm_151) (ln_nA (k := 14) hq_184 hm_151 hn_153)
  have hm_204 : q_141 ∈ hL S_188 := hf_190.mem (mem_old hm_155)
  have hk_205 : Kd S_188 q_141 14 := hf_190.kd (mem_old hm_155) (kd_nA (k := 14) (n := 8) hq_184 hm_155 hk_156)
  have hn_206 : Ln S_188 q_141 15808 := hf_190.ln (mem_old hm_155) (ln_nA (k := 14) hq_184 hm_155 hn_157)
  have hm_207 : q_183 ∈ hL S_188 := hf_190.mem mem_new
  have hk_208 : Kd S_188 q_183 14 := hf_190.kd mem_new (kd_nA' (k := 14) (n := 8))
  have hn_209 : Ln S_188 q_183 8 := hf_190.ln mem_new (ln_nA' (k := 14))
  have hm_210 : q_22 ∈ hL S_188 := hf_190.mem (mem_old hm_159)
  have hk_211 : Kd S_188 q_22 14 := hf_190.kd (mem_old hm_159) (kd_nA (k := 14) (n := 8) hq_184 hm_159 hk_160)
  have hn_212 : Ln S_188 q_22 119 := hf_190.ln (mem_old hm_159) (ln_nA (k := 14) hq_184 hm_159 hn_161)
  have hm_213 : q_45 ∈ hL S_188 := hf_190.mem (mem_old hm_163)
  have hk_214 : Kd S_188 q_45 14 := hf_190.kd (mem_old hm_163) (kd_nA (k := 14) (n := 8) hq_184 hm_163 hk_164)
  have hn_215 : Ln S_188 q_45 4352 := hf_190.ln (mem_old hm_163) (ln_nA (k := 14) hq_184 hm_163 hn_165)
  have hm_216 : q_5 ∈ hL S_188 := hf_190.mem (mem_old hm_167)
  have hk_217 : Kd S_188 q_5 14 := hf_190.kd (mem_old hm_167) (kd_nA (k := 14) (n := 8) hq_184 hm_167 hk_168)
  have hn_218 : Ln S_188 q_5 16 := hf_190.ln (mem_old hm_167) (ln_nA (k := 14) hq_184 hm_167 hn_169)
  have hm_219 : q_72 ∈ hL S_188 := hf_190.mem (mem_old hm_171)
  have hk_220 : Kd S_188 q_72 17 := hf_190.kd (mem_old hm_171) (kd_nA (k := 14) (n := 8) hq_184 hm_171 hk_172)
  have hn_221 : Ln S_188 q_72 400 := hf_190.ln (mem_old hm_171) (ln_nA (k := 14) hq_184 hm_171 hn_173)
  have hv_222 : hR S_188 200 h = (some q_1) := hf_190.fr (mem_old hm_147) (fun h9 => h9) (rd_sRf (S := (nA S_144 q_183 14 8)) (g := 207) (a := h) (v := (some q_183)) (by decide) hv_175)
  have hv_223 : hR S_188 201 h = (some q_22) := hf_190.fr (mem_old hm_147) (fun h9 => h9) (rd_sRf (S := (nA S_144 q_183 14 8)) (g := 207) (a := h) (v := (some q_183)) (by decide) hv_176)
  have hv_224 : hR S_188 202 h = (some q_45) := hf_190.fr (mem_old hm_147) (fun h9 => h9) (rd_sRf (S := (nA S_144 q_183 14 8)) (g := 207) (a := h) (v := (some q_183)) (by decide) hv_177)
  have hv_225 : hR S_188 203 h = (some q_72) := hf_190.fr (mem_old hm_147) (fun h9 => h9) (rd_sRf (S := (nA S_144 q_183 14 8)) (g := 207) (a := h) (v := (some q_183)) (by decide) hv_178)
  have hv_226 : hR S_188 204 h = (some q_104) := hf_190.fr (mem_old hm_147) (fun h9 => h9) (rd_sRf (S := (nA S_144 q_183 14 8)) (g := 207) (a := h) (v := (some q_183)) (by decide) hv_179)
  have hv_227 : hR S_188 205 h = (some q_141) := hf_190.fr (mem_old hm_147) (fun h9 => h9) (rd_sRf (S := (nA S_144 q_183 14 8)) (g := 207) (a := h) (v := (some q_183)) (by decide) hv_180)
  have hv_228 : hR S_188 207 h = (some q_183) := hf_190.fr (mem_old hm_147) (fun h9 => h9) (rd_sR (S := (nA S_144 q_183 14 8)) (g := 207) (a := h) (v := (some q_183)))
  have hv_229 : hR S_188 800 q_1 = (some q_5) := hf_190.fr (mem_old hm_149) (fun h9 => h9) (rd_sRf (S := (nA S_144 q_183 14 8)) (g := 207) (a := h) (v := (some q_183)) (by decide) hv_181)
  have hf_230 : Fm (fun _ _ => False) (fun f9 b9 => b9 = h) (fun _ => False) S S_188 := hf_186.then hf_190 (fun a9 ha9 => ⟨(fun f9 h9 => h9.elim), (fun f9 h9 => h9.elim), (fun h9 => (fun h8 => absurd (h8 ▸ ha9) hz_185) h9)⟩)
  refine j_aload_n C dX2_init_74 rfl 0 rfl ?_
  refine j_getr (f := 207) (v := q_183) C flX2_35 dX2_init_75 hm_197 hk_198 (by decide) rfl hv_228 ?_
  refine j_iconst (v := 0) C dX2_init_78 (by decide) ?_
  refine j_aload_n C dX2_init_79 rfl 0 rfl ?_
  refine j_getr (f := 201) (v := q_22) C flX2_18 dX2_init_80 hm_197 hk_198 (by decide) rfl hv_223 ?_
  refine j_bipush (v := 112) C dX2_init_83 (by decide) ?_
  show J _ _ _ _ _ 85 _
  refine j_bipush (v := 7) C dX2_init_85 (by decide) ?_
  refine j_copy (kd := 14) (ty := .int) (p0 := 0) (p1 := 112) (m0 := 7) C mlX2_42 (by decide) hm_207 hk_208 hn_209 hm_210 hk_211 hn_212 (by decide) (by decide) (by decide) (by decide) (by decide) (by decide) (by decide) (by decide) (fun i _ => rfl) (M.fl (by decide)) dX2_init_87 ?_
  refine j_bipush (v := 33) C dX2_init_90 (by decide) ?_
  refine j_istore_n (lv' := [(1, .int 33), (0, .ref h)]) C dX2_init_92 rfl (by rw [hn9]; decide) rfl ?_
  have hf_233 : Fm (fun _ _ => False) (fun f9 b9 => b9 = h) (fun _ => False) S (rI S_188 q_22 (va_cpy (aI S_188 q_183) (aI S_188 q_22) 0 112 7)) := (hf_230.rI _ (fun h9 => absurd h9 hz_25))
  obtain ⟨S_231, eS_232⟩ : ∃ S9 : Hp, S9 = (rI S_188 q_22 (va_cpy (aI S_188 q_183) (aI S_188 q_22) 0 112 7)) := ⟨_, rfl⟩
  refine J.eq (S' := S_231) eS_232.symm rfl rfl ?_
  have hm_234 : h ∈ hL S_231 := by rw [eS_232]; exact hm_197
  have hk_235 : Kd S_231 h 2 := by rw [eS_232]; exact hk_198
  have hm_236 : q_1 ∈ hL S_231 := by rw [eS_232]; exact hm_199
  have hk_237 : Kd S_231 q_1 8 := by rw [eS_232]; exact hk_200
  have hm_238 : q_104 ∈ hL S_231 := by rw [eS_232]; exact hm_201
  have hk_239 : Kd S_231 q_104 14 := by rw [eS_232]; exact hk_202
  have hn_240 : Ln S_231 q_104 2470 := by rw [eS_232]; exact hn_203
  have hz_241 : ∀ j, aI S_231 q_104 j = 0 := by rw [eS_232]; exact (fun j9 => rd_rIa (Ne.symm (ne_of_nin hq_105 hm_82)) (hz_191 j9))
  have hm_242 : q_141 ∈ hL S_231 := by rw [eS_232]; exact hm_204
  have hk_243 : Kd S_231 q_141 14 := by rw [eS_232]; exact hk_205
  have hn_244 : Ln S_231 q_141 15808 := by rw [eS_232]; exact hn_206
  have hz_245 : ∀ j, aI S_231 q_141 j = 0 := by rw [eS_232]; exact (fun j9 => rd_rIa (Ne.symm (ne_of_nin hq_142 hm_118)) (hz_192 j9))
  have hm_246 : q_183 ∈ hL S_231 := by rw [eS_232]; exact hm_207
  have hk_247 : Kd S_231 q_183 14 := by rw [eS_232]; exact hk_208
  have hn_248 : Ln S_231 q_183 8 := by rw [eS_232]; exact hn_209
  have hm_249 : q_22 ∈ hL S_231 := by rw [eS_232]; exact hm_210
  have hk_250 : Kd S_231 q_22 14 := by rw [eS_232]; exact hk_211
  have hn_251 : Ln S_231 q_22 119 := by rw [eS_232]; exact hn_212
  have hm_252 : q_45 ∈ hL S_231 := by rw [eS_232]; exact hm_213
  have hk_253 : Kd S_231 q_45 14 := by rw [eS_232]; exact hk_214
  have hn_254 : Ln S_231 q_45 4352 := by rw [eS_232]; exact hn_215
  have hz_255 : ∀ j, aI S_231 q_45 j = 0 := by rw [eS_232]; exact (fun j9 => rd_rIa (Ne.symm (ne_of_nin hq_46 hm_33)) (hz_194 j9))
  have hm_256 : q_5 ∈ hL S_231 := by rw [eS_232]; exact hm_216
  have hk_257 : Kd S_231 q_5 14 := by rw [eS_232]; exact hk_217
  have hn_258 : Ln S_231 q_5 16 := by rw [eS_232]; exact hn_218
  have hz_259 : ∀ j, aI S_231 q_5 j = 0 := by rw [eS_232]; exact (fun j9 => rd_rIa (ne_of_nin hq_23 e_7) (hz_195 j9))
  have hm_260 : q_72 ∈ hL S_231 := by rw [eS_232]; exact hm_219
  have hk_261 : Kd S_231 q_72 17 := by rw [eS_232]; exact hk_220
  have hn_262 : Ln S_231 q_72 400 := by rw [eS_232]; exact hn_221
  have hz_263 : ∀ j, aI S_231 q_72 j = 0 := by rw [eS_232]; exact (fun j9 => rd_rIa (fun e9 => absurd ((hk_220).symm.trans ((congrArg (hK _) e9).trans hk_211)) (by decide)) (hz_196 j9))
  have hv_264 : hR S_231 200 h = (some q_1) := by rw [eS_232]; exact hv_222
  have hv_265 : hR S_231 201 h = (some q_22) := by rw [eS_232]; exact hv_223
  have hv_266 : hR S_231 202 h = (some q_45) := by rw [eS_232]; exact hv_224
  have hv_267 : hR S_231 203 h = (some q_72) := by rw [eS_232]; exact hv_225
  have hv_268 : hR S_231 204 h = (some q_104) := by rw [eS_232]; exact hv_226
  have hv_269 : hR S_231 205 h = (some q_141) := by rw [eS_232]; exact hv_227
  have hv_270 : hR S_231 207 h = (some q_183) := by rw [eS_232]; exact hv_228
  have hv_271 : hR S_231 800 q_1 = (some q_5) := by rw [eS_232]; exact hv_229
  have hf_272 : Fm (fun _ _ => False) (fun f9 b9 => b9 = h) (fun _ => False) S S_231 := by rw [eS_232]; exact hf_233
  have loop_277 : ∀ (m9 c : Nat) (S_274 : Hp), c + m9 = 94 → Fm (fun _ _ => False) (fun _ _ => False) (fun b9 => b9 = q_45 ∨ b9 = q_104 ∨ b9 = q_141) S_231 S_274 → J x (0 + 1 + 1 + 1 + 1 + 1 + 1 + 1 + 1 + 0) (0 + 1 + 16 + 119 + 4352 + 400 + 2470 + 15808 + 8 + 0) S_274 [(1, .int (nI (33 + c))), (0, .ref h)] 93 [] := by
    intro m9
    induction m9 with
    | zero =>
      intro c S_274 hi_278 hl_275 
      have hz_279 : ∀ j, aI S_274 q_5 j = 0 := fun j9 => (hl_275.ai hm_256 (fun h9 => h9.elim (fun q9 => (ne_of_nin hq_46 hm_37) q9) (fun h9 => h9.elim (fun q9 => (ne_of_nin hq_105 hm_90) q9) (fun q9 => (ne_of_nin hq_142 hm_126) q9))) j9).trans (hz_259 j9)
      have hz_280 : ∀ j, aI S_274 q_72 j = 0 := fun j9 => (hl_275.ai hm_260 (fun h9 => h9.elim (fun q9 => (fun e9 => absurd ((hk_261).symm.trans ((congrArg (hK _) e9).trans hk_253)) (by decide)) q9) (fun h9 => h9.elim (fun q9 => (fun e9 => absurd ((hk_261).symm.trans ((congrArg (hK _) e9).trans hk_239)) (by decide)) q9) (fun q9 => (fun e9 => absurd ((hk_261).symm.trans ((congrArg (hK _) e9).trans hk_243)) (by decide)) q9))) j9).trans (hz_263 j9)
      have hm_281 : h ∈ hL S_274 := hl_275.mem hm_234
      have hk_282 : Kd S_274 h 2 := hl_275.kd hm_234 hk_235
      have hm_283 : q_1 ∈ hL S_274 := hl_275.mem hm_236
      have hk_284 : Kd S_274 q_1 8 := hl_275.kd hm_236 hk_237
      have hm_285 : q_104 ∈ hL S_274 := hl_275.mem hm_238
      have hk_286 : Kd S_274 q_104 14 := hl_275.kd hm_238 hk_239
      have hn_287 : Ln S_274 q_104 2470 := hl_275.ln hm_238 hn_240
      have hm_288 : q_141 ∈ hL S_274 := hl_275.mem hm_242
      have hk_289 : Kd S_274 q_141 14 := hl_275.kd hm_242 hk_243
      have hn_290 : Ln S_274 q_141 15808 := hl_275.ln hm_242 hn_244
      have hm_291 : q_183 ∈ hL S_274 := hl_275.mem hm_246
      have hk_292 : Kd S_274 q_183 14 := hl_275.kd hm_246 hk_247
      have hn_293 : Ln S_274 q_183 8 := hl_275.ln hm_246 hn_248
      have hm_294 : q_22 ∈ hL S_274 := hl_275.mem hm_249
      have hk_295 : Kd S_274 q_22 14 := hl_275.kd hm_249 hk_250
      have hn_296 : Ln S_274 q_22 119 := hl_275.ln hm_249 hn_251
      have hm_297 : q_45 ∈ hL S_274 := hl_275.mem hm_252
      have hk_298 : Kd S_274 q_45 14 := hl_275.kd hm_252 hk_253
      have hn_299 : Ln S_274 q_45 4352 := hl_275.ln hm_252 hn_254
      have hm_300 : q_5 ∈ hL S_274 := hl_275.mem hm_256
      have hk_301 : Kd S_274 q_5 14 := hl_275.kd hm_256 hk_257
      have hn_302 : Ln S_274 q_5 16 := hl_275.ln hm_256 hn_258
      have hm_303 : q_72 ∈ hL S_274 := hl_275.mem hm_260
      have hk_304 : Kd S_274 q_72 17 := hl_275.kd hm_260 hk_261
      have hn_305 : Ln S_274 q_72 400 := hl_275.ln hm_260 hn_262
      have hv_306 : hR S_274 200 h = (some q_1) := hl_275.fr hm_234 (fun h9 => h9) hv_264
      have hv_307 : hR S_274 201 h = (some q_22) := hl_275.fr hm_234 (fun h9 => h9) hv_265
      have hv_308 : hR S_274 202 h = (some q_45) := hl_275.fr hm_234 (fun h9 => h9) hv_266
      have hv_309 : hR S_274 203 h = (some q_72) := hl_275.fr hm_234 (fun h9 => h9) hv_267
      have hv_310 : hR S_274 204 h = (some q_104) := hl_275.fr hm_234 (fun h9 => h9) hv_268
      have hv_311 : hR S_274 205 h = (some q_141) := hl_275.fr hm_234 (fun h9 => h9) hv_269
      have hv_312 : hR S_274 207 h = (some q_183) := hl_275.fr hm_234 (fun h9 => h9) hv_270
      have hv_313 : hR S_274 800 q_1 = (some q_5) := hl_275.fr hm_236 (fun h9 => h9) hv_271
      have hf_314 : Fm (fun _ _ => False) (fun f9 b9 => b9 = h) (fun _ => False) S S_274 := hf_272.then hl_275 (fun a9 ha9 => ⟨(fun f9 h9 => h9.elim), (fun f9 h9 => h9.elim), (fun h9 => (fun h9 => h9.elim (fun h8 => absurd (h8 ▸ ha9) hz_47) (fun h9 => h9.elim (fun h8 => absurd (h8 ▸ ha9) hz_106) (fun h8 => absurd (h8 ▸ ha9) hz_143))) h9)⟩)
      refine j_iload_n C dX2_init_93 rfl 0 rfl ?_
      refine j_bipush (v := 126) C dX2_init_94 (by decide) ?_
      refine j_ic_gt (tgt := 193) C dX2_init_96 (by decide) (fun c_96 => ?_) (fun c_96 => absurd (nI_lt (a := 126) (by omega) (by omega)) c_96)
      exact j_vret C M dX2_init_193 (Nat.le_of_ble_eq_true rfl) (Nat.le_of_ble_eq_true rfl) ⟨rfl, hf_314, q_1, q_5, hz_3, hm_283, hk_284, hv_306, hz_21, hm_300, hk_301, hn_302, hv_313, hz_279⟩
    | succ m9 ih_276 =>
      intro c S_274 hi_278 hl_275 
      have hz_315 : ∀ j, aI S_274 q_5 j = 0 := fun j9 => (hl_275.ai hm_256 (fun h9 => h9.elim (fun q9 => (ne_of_nin hq_46 hm_37) q9) (fun h9 => h9.elim (fun q9 => (ne_of_nin hq_105 hm_90) q9) (fun q9 => (ne_of_nin hq_142 hm_126) q9))) j9).trans (hz_259 j9)
      have hz_316 : ∀ j, aI S_274 q_72 j = 0 := fun j9 => (hl_275.ai hm_260 (fun h9 => h9.elim (fun q9 => (fun e9 => absurd ((hk_261).symm.trans ((congrArg (hK _) e9).trans hk_253)) (by decide)) q9) (fun h9 => h9.elim (fun q9 => (fun e9 => absurd ((hk_261).symm.trans ((congrArg (hK _) e9).trans hk_239)) (by decide)) q9) (fun q9 => (fun e9 => absurd ((hk_261).symm.trans ((congrArg (hK _) e9).trans hk_243)) (by decide)) q9))) j9).trans (hz_263 j9)
      have hm_317 : h ∈ hL S_274 := hl_275.mem hm_234
      have hk_318 : Kd S_274 h 2 := hl_275.kd hm_234 hk_235
      have hm_319 : q_1 ∈ hL S_274 := hl_275.mem hm_236
      have hk_320 : Kd S_274 q_1 8 := hl_275.kd hm_236 hk_237
      have hm_321 : q_104 ∈ hL S_274 := hl_275.mem hm_238
      have hk_322 : Kd S_274 q_104 14 := hl_275.kd hm_238 hk_239
      have hn_323 : Ln S_274 q_104 2470 := hl_275.ln hm_238 hn_240
      have hm_324 : q_141 ∈ hL S_274 := hl_275.mem hm_242
      have hk_325 : Kd S_274 q_141 14 := hl_275.kd hm_242 hk_243
      have hn_326 : Ln S_274 q_141 15808 := hl_275.ln hm_242 hn_244
      have hm_327 : q_183 ∈ hL S_274 := hl_275.mem hm_246
      have hk_328 : Kd S_274 q_183 14 := hl_275.kd hm_246 hk_247
      have hn_329 : Ln S_274 q_183 8 := hl_275.ln hm_246 hn_248
      have hm_330 : q_22 ∈ hL S_274 := hl_275.mem hm_249
      have hk_331 : Kd S_274 q_22 14 := hl_275.kd hm_249 hk_250
      have hn_332 : Ln S_274 q_22 119 := hl_275.ln hm_249 hn_251
      have hm_333 : q_45 ∈ hL S_274 := hl_275.mem hm_252
      have hk_334 : Kd S_274 q_45 14 := hl_275.kd hm_252 hk_253
      have hn_335 : Ln S_274 q_45 4352 := hl_275.ln hm_252 hn_254
      have hm_336 : q_5 ∈ hL S_274 := hl_275.mem hm_256
      have hk_337 : Kd S_274 q_5 14 := hl_275.kd hm_256 hk_257
      have hn_338 : Ln S_274 q_5 16 := hl_275.ln hm_256 hn_258
      have hm_339 : q_72 ∈ hL S_274 := hl_275.mem hm_260
      have hk_340 : Kd S_274 q_72 17 := hl_275.kd hm_260 hk_261
      have hn_341 : Ln S_274 q_72 400 := hl_275.ln hm_260 hn_262
      have hv_342 : hR S_274 200 h = (some q_1) := hl_275.fr hm_234 (fun h9 => h9) hv_264
      have hv_343 : hR S_274 201 h = (some q_22) := hl_275.fr hm_234 (fun h9 => h9) hv_265
      have hv_344 : hR S_274 202 h = (some q_45) := hl_275.fr hm_234 (fun h9 => h9) hv_266
      have hv_345 : hR S_274 203 h = (some q_72) := hl_275.fr hm_234 (fun h9 => h9) hv_267
      have hv_346 : hR S_274 204 h = (some q_104) := hl_275.fr hm_234 (fun h9 => h9) hv_268
      have hv_347 : hR S_274 205 h = (some q_141) := hl_275.fr hm_234 (fun h9 => h9) hv_269
      have hv_348 : hR S_274 207 h = (some q_183) := hl_275.fr hm_234 (fun h9 => h9) hv_270
      have hv_349 : hR S_274 800 q_1 = (some q_5) := hl_275.fr hm_236 (fun h9 => h9) hv_271
      have hf_350 : Fm (fun _ _ => False) (fun f9 b9 => b9 = h) (fun _ => False) S S_274 := hf_272.then hl_275 (fun a9 ha9 => ⟨(fun f9 h9 => h9.elim), (fun f9 h9 => h9.elim), (fun h9 => (fun h9 => h9.elim (fun h8 => absurd (h8 ▸ ha9) hz_47) (fun h9 => h9.elim (fun h8 => absurd (h8 ▸ ha9) hz_106) (fun h8 => absurd (h8 ▸ ha9) hz_143))) h9)⟩)
      refine j_iload_n C dX2_init_93 rfl 0 rfl ?_
      refine j_bipush (v := 126) C dX2_init_94 (by decide) ?_
      refine j_ic_gt (tgt := 193) C dX2_init_96 (by decide) (fun c_96 => absurd c_96 (nI_nlt (a := 126) (by omega) (by omega))) (fun c_96 => ?_)
      show J _ _ _ _ _ 99 _
      refine j_sipush (v := 400) C dX2_init_99 (by decide) ?_
      refine j_iload_n C dX2_init_102 rfl 0 rfl ?_
      refine j_iadd (v := nI (400 + (33 + c))) C dX2_init_103 (nI_add 400 (33 + c)) ?_
      refine j_bipush (v := 33) C dX2_init_104 (by decide) ?_
      refine j_isub (v := nI (400 + c)) C dX2_init_106 ((pk_sub (a := 400 + (33 + c)) (b := 33) (by omega)).trans (congrArg nI (by omega))) ?_
      refine j_istore_n (lv' := [(2, .int (nI (400 + c))), (1, .int (nI (33 + c))), (0, .ref h)]) C dX2_init_107 rfl (by rw [hn9]; decide) rfl ?_
      refine j_aload_n C dX2_init_108 rfl 2 rfl ?_
      refine j_getr (f := 202) (v := q_45) C flX2_22 dX2_init_109 hm_317 hk_318 (by decide) rfl hv_344 ?_
      show J _ _ _ _ _ 112 _
      refine j_sipush (v := 4096) C dX2_init_112 (by decide) ?_
      refine j_iload_n C dX2_init_115 rfl 1 rfl ?_
      refine j_iadd (v := nI (4096 + (33 + c))) C dX2_init_116 (nI_add 4096 (33 + c)) ?_
      refine j_iload_n C dX2_init_117 rfl 0 rfl ?_
      refine j_iconst (v := 1) C dX2_init_118 (by decide) ?_
      refine j_iadd (v := nI (400 + c + 1)) C dX2_init_119 (nI_add (400 + c) 1) ?_
      refine j_iast (j := (4096 + (33 + c))) C dX2_init_120 hm_333 hk_334 (inr_of (n := 4352) hn_335 (vp_in_nI (by omega) (by omega))) (nI_clamp (by omega)) ?_
      refine j_aload_n C dX2_init_121 rfl 2 rfl ?_
      show J _ _ _ _ _ 122 _
      refine j_iload_n C dX2_init_122 rfl 0 rfl ?_
      refine j_iconst (v := 0) C dX2_init_123 (by decide) ?_
      refine j_bipush (v := 7) C dX2_init_124 (by decide) ?_
      refine j_bipush (v := 6) C dX2_init_126 (by decide) ?_
      refine j_bipush (v := 8) C dX2_init_128 (by decide) ?_
      refine j_sipush (v := 720) C dX2_init_130 (by decide) ?_
      have hf_351 : Fm (fun _ _ => False) (fun f9 b9 => b9 = h) (fun _ => False) S (tI S_274 q_45 (4096 + (33 + c)) (nI (400 + c + 1))) := (hf_350.tI _ _ (fun h9 => absurd h9 hz_47))
      have hf_352 : Fm (fun _ _ => False) (fun _ _ => False) (fun b9 => b9 = q_45 ∨ b9 = q_104 ∨ b9 = q_141) S_231 (tI S_274 q_45 (4096 + (33 + c)) (nI (400 + c + 1))) := (hl_275.tI _ _ (fun _ => (Or.inl rfl)))
      refine j_callV (ci := 2) C [.int (nI (400 + c)), .int 0, .int 7, .int 6, .int 8, .int 720] [] mlX2_48 mcX2_setHead (c_X2_setHead (tI S_274 q_45 (4096 + (33 + c)) (nI (400 + c + 1))) h q_104 (400 + c) 0 7 6 8 720 hm_317 hk_318 (by omega) hv_346 hm_321 hk_322 hn_323) hm_317 hk_318 rfl (M.rm (by decide) (by decide) (Nat.le_of_ble_eq_true rfl) (Nat.le_of_ble_eq_true rfl)) rfl rfl (Nat.le_of_ble_eq_true rfl) dX2_init_133 (fun r_353 S_354 hp_355 => ?_)
      obtain ⟨rfl, hf_356⟩ := hp_355
      refine J.eq (st' := []) rfl rfl rfl ?_
      have hz_357 : ∀ j, aI S_354 q_5 j = 0 := fun j9 => (hf_356.ai hm_336 (fun q9 => (ne_of_nin hq_105 hm_90) q9) j9).trans ((fun j9 => rd_tIa (ne_of_nin hq_46 hm_37) (hz_315 j9)) j9)
      have hz_358 : ∀ j, aI S_354 q_72 j = 0 := fun j9 => (hf_356.ai hm_339 (fun q9 => (fun e9 => absurd ((hk_340).symm.trans ((congrArg (hK _) e9).trans hk_322)) (by decide)) q9) j9).trans ((fun j9 => rd_tIa (fun e9 => absurd ((hk_340).symm.trans ((congrArg (hK _) e9).trans hk_334)) (by decide)) (hz_316 j9)) j9)
      have hm_359 : h ∈ hL S_354 := hf_356.mem hm_317
      have hk_360 : Kd S_354 h 2 := hf_356.kd hm_317 hk_318
      have hm_361 : q_1 ∈ hL S_354 := hf_356.mem hm_319
      have hk_362 : Kd S_354 q_1 8 := hf_356.kd hm_319 hk_320
      have hm_363 : q_104 ∈ hL S_354 := hf_356.mem hm_321
      have hk_364 : Kd S_354 q_104 14 := hf_356.kd hm_321 hk_322
      have hn_365 : Ln S_354 q_104 2470 := hf_356.ln hm_321 hn_323
      have hm_366 : q_141 ∈ hL S_354 := hf_356.mem hm_324
      have hk_367 : Kd S_354 q_141 14 := hf_356.kd hm_324 hk_325
      have hn_368 : Ln S_354 q_141 15808 := hf_356.ln hm_324 hn_326
      have hm_369 : q_183 ∈ hL S_354 := hf_356.mem hm_327
      have hk_370 : Kd S_354 q_183 14 := hf_356.kd hm_327 hk_328
      have hn_371 : Ln S_354 q_183 8 := hf_356.ln hm_327 hn_329
      have hm_372 : q_22 ∈ hL S_354 := hf_356.mem hm_330
      have hk_373 : Kd S_354 q_22 14 := hf_356.kd hm_330 hk_331
      have hn_374 : Ln S_354 q_22 119 := hf_356.ln hm_330 hn_332
      have hm_375 : q_45 ∈ hL S_354 := hf_356.mem hm_333
      have hk_376 : Kd S_354 q_45 14 := hf_356.kd hm_333 hk_334
      have hn_377 : Ln S_354 q_45 4352 := hf_356.ln hm_333 hn_335
      have hm_378 : q_5 ∈ hL S_354 := hf_356.mem hm_336
      have hk_379 : Kd S_354 q_5 14 := hf_356.kd hm_336 hk_337
      have hn_380 : Ln S_354 q_5 16 := hf_356.ln hm_336 hn_338
      have hm_381 : q_72 ∈ hL S_354 := hf_356.mem hm_339
      have hk_382 : Kd S_354 q_72 17 := hf_356.kd hm_339 hk_340
      have hn_383 : Ln S_354 q_72 400 := hf_356.ln hm_339 hn_341
      have hv_384 : hR S_354 200 h = (some q_1) := hf_356.fr hm_317 (fun h9 => h9) hv_342
      have hv_385 : hR S_354 201 h = (some q_22) := hf_356.fr hm_317 (fun h9 => h9) hv_343
      have hv_386 : hR S_354 202 h = (some q_45) := hf_356.fr hm_317 (fun h9 => h9) hv_344
      have hv_387 : hR S_354 203 h = (some q_72) := hf_356.fr hm_317 (fun h9 => h9) hv_345
      have hv_388 : hR S_354 204 h = (some q_104) := hf_356.fr hm_317 (fun h9 => h9) hv_346
      have hv_389 : hR S_354 205 h = (some q_141) := hf_356.fr hm_317 (fun h9 => h9) hv_347
      have hv_390 : hR S_354 207 h = (some q_183) := hf_356.fr hm_317 (fun h9 => h9) hv_348
      have hv_391 : hR S_354 800 q_1 = (some q_5) := hf_356.fr hm_319 (fun h9 => h9) hv_349
      have hf_392 : Fm (fun _ _ => False) (fun f9 b9 => b9 = h) (fun _ => False) S S_354 := hf_351.then hf_356 (fun a9 ha9 => ⟨(fun f9 h9 => h9.elim), (fun f9 h9 => h9.elim), (fun h9 => (fun h8 => absurd (h8 ▸ ha9) hz_106) h9)⟩)
      have hf_393 : Fm (fun _ _ => False) (fun _ _ => False) (fun b9 => b9 = q_45 ∨ b9 = q_104 ∨ b9 = q_141) S_231 S_354 := hf_352.then hf_356 (fun a9 ha9 => ⟨(fun f9 h9 => h9.elim), (fun f9 h9 => h9.elim), (fun h9 => (fun h8 => (Or.inr (Or.inl h8))) h9)⟩)
      refine j_iconst (v := 0) C dX2_init_136 (by decide) ?_
      show J _ _ _ _ _ 137 _
      refine j_istore_n (lv' := [(3, .int 0), (2, .int (nI (400 + c))), (1, .int (nI (33 + c))), (0, .ref h)]) C dX2_init_137 rfl (by rw [hn9]; decide) rfl ?_
      have loop_398 : ∀ (m9 r1 : Nat) (S_395 : Hp), r1 + m9 = 8 → Fm (fun _ _ => False) (fun _ _ => False) (fun b9 => b9 = q_141) S_354 S_395 → J x (0 + 1 + 1 + 1 + 1 + 1 + 1 + 1 + 1 + 0 + 0) (0 + 1 + 16 + 119 + 4352 + 400 + 2470 + 15808 + 8 + 0 + 0) S_395 [(3, .int (nI r1)), (2, .int (nI (400 + c))), (1, .int (nI (33 + c))), (0, .ref h)] 138 [] := by
        intro m9
        induction m9 with
        | zero =>
          intro r1 S_395 hi_399 hl_396 
          have hz_400 : ∀ j, aI S_395 q_5 j = 0 := fun j9 => (hl_396.ai hm_378 (fun q9 => (ne_of_nin hq_142 hm_126) q9) j9).trans (hz_357 j9)
          have hz_401 : ∀ j, aI S_395 q_72 j = 0 := fun j9 => (hl_396.ai hm_381 (fun q9 => (fun e9 => absurd ((hk_382).symm.trans ((congrArg (hK _) e9).trans hk_367)) (by decide)) q9) j9).trans (hz_358 j9)
          have hm_402 : h ∈ hL S_395 := hl_396.mem hm_359
          have hk_403 : Kd S_395 h 2 := hl_396.kd hm_359 hk_360
          have hm_404 : q_1 ∈ hL S_395 := hl_396.mem hm_361
          have hk_405 : Kd S_395 q_1 8 := hl_396.kd hm_361 hk_362
          have hm_406 : q_104 ∈ hL S_395 := hl_396.mem hm_363
          have hk_407 : Kd S_395 q_104 14 := hl_396.kd hm_363 hk_364
          have hn_408 : Ln S_395 q_104 2470 := hl_396.ln hm_363 hn_365
          have hm_409 : q_141 ∈ hL S_395 := hl_396.mem hm_366
          have hk_410 : Kd S_395 q_141 14 := hl_396.kd hm_366 hk_367
          have hn_411 : Ln S_395 q_141 15808 := hl_396.ln hm_366 hn_368
          have hm_412 : q_183 ∈ hL S_395 := hl_396.mem hm_369
          have hk_413 : Kd S_395 q_183 14 := hl_396.kd hm_369 hk_370
          have hn_414 : Ln S_395 q_183 8 := hl_396.ln hm_369 hn_371
          have hm_415 : q_22 ∈ hL S_395 := hl_396.mem hm_372
          have hk_416 : Kd S_395 q_22 14 := hl_396.kd hm_372 hk_373
          have hn_417 : Ln S_395 q_22 119 := hl_396.ln hm_372 hn_374
          have hm_418 : q_45 ∈ hL S_395 := hl_396.mem hm_375
          have hk_419 : Kd S_395 q_45 14 := hl_396.kd hm_375 hk_376
          have hn_420 : Ln S_395 q_45 4352 := hl_396.ln hm_375 hn_377
          have hm_421 : q_5 ∈ hL S_395 := hl_396.mem hm_378
          have hk_422 : Kd S_395 q_5 14 := hl_396.kd hm_378 hk_379
          have hn_423 : Ln S_395 q_5 16 := hl_396.ln hm_378 hn_380
          have hm_424 : q_72 ∈ hL S_395 := hl_396.mem hm_381
          have hk_425 : Kd S_395 q_72 17 := hl_396.kd hm_381 hk_382
          have hn_426 : Ln S_395 q_72 400 := hl_396.ln hm_381 hn_383
          have hv_427 : hR S_395 200 h = (some q_1) := hl_396.fr hm_359 (fun h9 => h9) hv_384
          have hv_428 : hR S_395 201 h = (some q_22) := hl_396.fr hm_359 (fun h9 => h9) hv_385
          have hv_429 : hR S_395 202 h = (some q_45) := hl_396.fr hm_359 (fun h9 => h9) hv_386
          have hv_430 : hR S_395 203 h = (some q_72) := hl_396.fr hm_359 (fun h9 => h9) hv_387
          have hv_431 : hR S_395 204 h = (some q_104) := hl_396.fr hm_359 (fun h9 => h9) hv_388
          have hv_432 : hR S_395 205 h = (some q_141) := hl_396.fr hm_359 (fun h9 => h9) hv_389
          have hv_433 : hR S_395 207 h = (some q_183) := hl_396.fr hm_359 (fun h9 => h9) hv_390
          have hv_434 : hR S_395 800 q_1 = (some q_5) := hl_396.fr hm_361 (fun h9 => h9) hv_391
          have hf_435 : Fm (fun _ _ => False) (fun f9 b9 => b9 = h) (fun _ => False) S S_395 := hf_392.then hl_396 (fun a9 ha9 => ⟨(fun f9 h9 => h9.elim), (fun f9 h9 => h9.elim), (fun h9 => (fun h8 => absurd (h8 ▸ ha9) hz_143) h9)⟩)
          have hf_436 : Fm (fun _ _ => False) (fun _ _ => False) (fun b9 => b9 = q_45 ∨ b9 = q_104 ∨ b9 = q_141) S_231 S_395 := hf_393.then hl_396 (fun a9 ha9 => ⟨(fun f9 h9 => h9.elim), (fun f9 h9 => h9.elim), (fun h9 => (fun h8 => (Or.inr (Or.inr h8))) h9)⟩)
          refine j_iload_n C dX2_init_138 rfl 0 rfl ?_
          refine j_bipush (v := 8) C dX2_init_139 (by decide) ?_
          refine j_ic_ge (tgt := 187) C dX2_init_141 (by decide) (fun c_141 => ?_) (fun c_141 => absurd (nI_le (a := 8) (by omega) (by omega)) c_141)
          refine j_iinc (q := 2) (v := nI (33 + (c + 1))) (lv' := [(1, .int (nI (33 + (c + 1)))), (3, .int (nI r1)), (2, .int (nI (400 + c))), (0, .ref h)]) C dX2_init_187 rfl (by rw [show Int32.ofInt 1 = 1 by decide]; exact nI_add (33 + c) 1) (by rw [hn9]; decide) rfl ?_
          refine j_goto (tgt := 93) C dX2_init_190 (by decide) ?_
          refine J.sub [0, 3] (lv' := [(1, .int (nI (33 + (c + 1)))), (0, .ref h)]) (by rfl) ?_
          exact ih_276 (c + 1) _ (by omega) hf_436 
        | succ m9 ih_397 =>
          intro r1 S_395 hi_399 hl_396 
          have hz_437 : ∀ j, aI S_395 q_5 j = 0 := fun j9 => (hl_396.ai hm_378 (fun q9 => (ne_of_nin hq_142 hm_126) q9) j9).trans (hz_357 j9)
          have hz_438 : ∀ j, aI S_395 q_72 j = 0 := fun j9 => (hl_396.ai hm_381 (fun q9 => (fun e9 => absurd ((hk_382).symm.trans ((congrArg (hK _) e9).trans hk_367)) (by decide)) q9) j9).trans (hz_358 j9)
          have hm_439 : h ∈ hL S_395 := hl_396.mem hm_359
          have hk_440 : Kd S_395 h 2 := hl_396.kd hm_359 hk_360
          have hm_441 : q_1 ∈ hL S_395 := hl_396.mem hm_361
          have hk_442 : Kd S_395 q_1 8 := hl_396.kd hm_361 hk_362
          have hm_443 : q_104 ∈ hL S_395 := hl_396.mem hm_363
          have hk_444 : Kd S_395 q_104 14 := hl_396.kd hm_363 hk_364
          have hn_445 : Ln S_395 q_104 2470 := hl_396.ln hm_363 hn_365
          have hm_446 : q_141 ∈ hL S_395 := hl_396.mem hm_366
          have hk_447 : Kd S_395 q_141 14 := hl_396.kd hm_366 hk_367
          have hn_448 : Ln S_395 q_141 15808 := hl_396.ln hm_366 hn_368
          have hm_449 : q_183 ∈ hL S_395 := hl_396.mem hm_369
          have hk_450 : Kd S_395 q_183 14 := hl_396.kd hm_369 hk_370
          have hn_451 : Ln S_395 q_183 8 := hl_396.ln hm_369 hn_371
          have hm_452 : q_22 ∈ hL S_395 := hl_396.mem hm_372
          have hk_453 : Kd S_395 q_22 14 := hl_396.kd hm_372 hk_373
          have hn_454 : Ln S_395 q_22 119 := hl_396.ln hm_372 hn_374
          have hm_455 : q_45 ∈ hL S_395 := hl_396.mem hm_375
          have hk_456 : Kd S_395 q_45 14 := hl_396.kd hm_375 hk_376
          have hn_457 : Ln S_395 q_45 4352 := hl_396.ln hm_375 hn_377
          have hm_458 : q_5 ∈ hL S_395 := hl_396.mem hm_378
          have hk_459 : Kd S_395 q_5 14 := hl_396.kd hm_378 hk_379
          have hn_460 : Ln S_395 q_5 16 := hl_396.ln hm_378 hn_380
          have hm_461 : q_72 ∈ hL S_395 := hl_396.mem hm_381
          have hk_462 : Kd S_395 q_72 17 := hl_396.kd hm_381 hk_382
          have hn_463 : Ln S_395 q_72 400 := hl_396.ln hm_381 hn_383
          have hv_464 : hR S_395 200 h = (some q_1) := hl_396.fr hm_359 (fun h9 => h9) hv_384
          have hv_465 : hR S_395 201 h = (some q_22) := hl_396.fr hm_359 (fun h9 => h9) hv_385
          have hv_466 : hR S_395 202 h = (some q_45) := hl_396.fr hm_359 (fun h9 => h9) hv_386
          have hv_467 : hR S_395 203 h = (some q_72) := hl_396.fr hm_359 (fun h9 => h9) hv_387
          have hv_468 : hR S_395 204 h = (some q_104) := hl_396.fr hm_359 (fun h9 => h9) hv_388
          have hv_469 : hR S_395 205 h = (some q_141) := hl_396.fr hm_359 (fun h9 => h9) hv_389
          have hv_470 : hR S_395 207 h = (some q_183) := hl_396.fr hm_359 (fun h9 => h9) hv_390
          have hv_471 : hR S_395 800 q_1 = (some q_5) := hl_396.fr hm_361 (fun h9 => h9) hv_391
          have hf_472 : Fm (fun _ _ => False) (fun f9 b9 => b9 = h) (fun _ => False) S S_395 := hf_392.then hl_396 (fun a9 ha9 => ⟨(fun f9 h9 => h9.elim), (fun f9 h9 => h9.elim), (fun h9 => (fun h8 => absurd (h8 ▸ ha9) hz_143) h9)⟩)
          have hf_473 : Fm (fun _ _ => False) (fun _ _ => False) (fun b9 => b9 = q_45 ∨ b9 = q_104 ∨ b9 = q_141) S_231 S_395 := hf_393.then hl_396 (fun a9 ha9 => ⟨(fun f9 h9 => h9.elim), (fun f9 h9 => h9.elim), (fun h9 => (fun h8 => (Or.inr (Or.inr h8))) h9)⟩)
          refine j_iload_n C dX2_init_138 rfl 0 rfl ?_
          refine j_bipush (v := 8) C dX2_init_139 (by decide) ?_
          refine j_ic_ge (tgt := 187) C dX2_init_141 (by decide) (fun c_141 => absurd c_141 (nI_ge (b := 8) (by omega) (by omega))) (fun c_141 => ?_)
          refine j_iload_n C dX2_init_144 rfl 2 rfl ?_
          show J _ _ _ _ _ 145 _
          refine j_iload_n C dX2_init_145 rfl 2 rfl ?_
          refine j_imul C dX2_init_146 rfl ?_
          refine j_bipush (v := 7) C dX2_init_147 (by decide) ?_
          refine j_iload_n C dX2_init_149 rfl 2 rfl ?_
          refine j_imul C dX2_init_150 rfl ?_
          refine j_iload_n C dX2_init_151 rfl 0 rfl ?_
          refine j_imul C dX2_init_152 rfl ?_
          refine j_iadd C dX2_init_153 rfl ?_
          show J _ _ _ _ _ 154 _
          refine j_bipush (v := 13) C dX2_init_154 (by decide) ?_
          refine j_iload_n C dX2_init_156 rfl 0 rfl ?_
          refine j_imul C dX2_init_157 rfl ?_
          refine j_iload_n C dX2_init_158 rfl 0 rfl ?_
          refine j_imul C dX2_init_159 rfl ?_
          refine j_iadd C dX2_init_160 rfl ?_
          refine j_iconst (v := 4) C dX2_init_161 (by decide) ?_
          refine j_idiv C dX2_init_162 (by decide) rfl ?_
          show J _ _ _ _ _ 163 _
          refine j_istore (lv' := [(4, .int (((((nI (33 + c)) * (nI (33 + c))) + (((7 : Int32) * (nI (33 + c))) * (nI r1))) + (((13 : Int32) * (nI r1)) * (nI r1))) / 4)), (3, .int (nI r1)), (2, .int (nI (400 + c))), (1, .int (nI (33 + c))), (0, .ref h)]) C dX2_init_163 (by rw [hn9]; decide) rfl ?_
          refine j_aload_n C dX2_init_165 rfl 4 rfl ?_
          refine j_getr (f := 205) (v := q_141) C flX2_32 dX2_init_166 hm_439 hk_440 (by decide) rfl hv_469 ?_
          refine j_iload_n C dX2_init_169 rfl 2 rfl ?_
          refine j_bipush (v := 32) C dX2_init_170 (by decide) ?_
          refine j_imul (v := nI ((400 + c) * 32)) C dX2_init_172 (pk_mul (400 + c) 32) ?_
          refine j_iload_n C dX2_init_173 rfl 1 rfl ?_
          refine j_iadd (v := nI ((400 + c) * 32 + r1)) C dX2_init_174 (nI_add ((400 + c) * 32) r1) ?_
          show J _ _ _ _ _ 175 _
          refine j_iload C dX2_init_175 0 rfl ?_
          refine j_bipush (v := 26) C dX2_init_177 (by decide) ?_
          refine j_ishl C dX2_init_179 rfl ?_
          refine j_iast (j := ((400 + c) * 32 + r1)) C dX2_init_180 hm_446 hk_447 (inr_of (n := 15808) hn_448 (vp_in_nI (by omega) (by omega))) (nI_clamp (by omega)) ?_
          refine j_iinc (q := 1) (v := nI (r1 + 1)) (lv' := [(3, .int (nI (r1 + 1))), (4, .int (((((nI (33 + c)) * (nI (33 + c))) + (((7 : Int32) * (nI (33 + c))) * (nI r1))) + (((13 : Int32) * (nI r1)) * (nI r1))) / 4)), (2, .int (nI (400 + c))), (1, .int (nI (33 + c))), (0, .ref h)]) C dX2_init_181 rfl (by rw [show Int32.ofInt 1 = 1 by decide]; exact nI_add r1 1) (by rw [hn9]; decide) rfl ?_
          refine j_goto (tgt := 138) C dX2_init_184 (by decide) ?_
          refine J.sub [0, 2, 3, 4] (lv' := [(3, .int (nI (r1 + 1))), (2, .int (nI (400 + c))), (1, .int (nI (33 + c))), (0, .ref h)]) (by rfl) ?_
          exact ih_397 (r1 + 1) _ (by omega) (hl_396.tI _ _ (fun _ => rfl)) 
      refine J.sub [0, 1, 2, 3] (lv' := [(3, .int (nI 0)), (2, .int (nI (400 + c))), (1, .int (nI (33 + c))), (0, .ref h)]) (by rw [nI_0]; rfl) ?_
      exact loop_398 8 0 _ (by omega) Fm.refl 
  refine J.sub [0, 1] (lv' := [(1, .int (nI (33 + 0))), (0, .ref h)]) (by rfl) ?_
  exact loop_277 94 0 _ (by omega) Fm.refl 
