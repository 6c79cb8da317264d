def rt_o (i : Nat) : Nat := 13 - (st_RUN_BITS.getD i 0).toNatClampNeg
def rt_s (i : Nat) : Nat := 2 ^ rt_o i
def rt_f (i : Nat) : Nat := i / 74 * 8192 + (st_RUN_CODES.getD i 0).toNatClampNeg * rt_s i
set_option maxRecDepth 100000 in
theorem rt_all : ∀ i, i < 148 → ((13 : Int32) - st_RUN_BITS.getD i 0 = nI (rt_o i) ∧ (1 : Int32) <<< (nI (rt_o i) &&& 31) = nI (rt_s i) ∧ (nI (i / 74) <<< ((13 : Int32) &&& 31)) + (st_RUN_CODES.getD i 0 <<< (nI (rt_o i) &&& 31)) = nI (rt_f i) ∧ rt_f i + rt_s i ≤ 16384) := by decide +kernel

theorem dX3_init_0 : decode cX3_init 0 = .ok (.aload_n 0, 1) := by decide +kernel
theorem dX3_init_1 : decode cX3_init 1 = .ok (.invokespecial 3, 3) := by decide +kernel
theorem dX3_init_4 : decode cX3_init 4 = .ok (.aload_n 0, 1) := by decide +kernel
theorem dX3_init_5 : decode cX3_init 5 = .ok (.iconst 0, 1) := by decide +kernel
theorem dX3_init_6 : decode cX3_init 6 = .ok (.newarray .byte, 2) := by decide +kernel
theorem dX3_init_8 : decode cX3_init 8 = .ok (.putfield 9, 3) := by decide +kernel
theorem dX3_init_11 : decode cX3_init 11 = .ok (.aload_n 0, 1) := by decide +kernel
theorem dX3_init_12 : decode cX3_init 12 = .ok (.bipush 12, 2) := by decide +kernel
theorem dX3_init_14 : decode cX3_init 14 = .ok (.newarray .long, 2) := by decide +kernel
theorem dX3_init_16 : decode cX3_init 16 = .ok (.putfield 15, 3) := by decide +kernel
theorem dX3_init_19 : decode cX3_init 19 = .ok (.aload_n 0, 1) := by decide +kernel
theorem dX3_init_20 : decode cX3_init 20 = .ok (.sipush 12000, 3) := by decide +kernel
theorem dX3_init_23 : decode cX3_init 23 = .ok (.newarray .byte, 2) := by decide +kernel
theorem dX3_init_25 : decode cX3_init 25 = .ok (.putfield 19, 3) := by decide +kernel
theorem dX3_init_28 : decode cX3_init 28 = .ok (.aload_n 0, 1) := by decide +kernel
theorem dX3_init_29 : decode cX3_init 29 = .ok (.sipush 16384, 3) := by decide +kernel
theorem dX3_init_32 : decode cX3_init 32 = .ok (.newarray .short, 2) := by decide +kernel
theorem dX3_init_34 : decode cX3_init 34 = .ok (.putfield 22, 3) := by decide +kernel
theorem dX3_init_37 : decode cX3_init 37 = .ok (.aload_n 0, 1) := by decide +kernel
theorem dX3_init_38 : decode cX3_init 38 = .ok (.aload_n 1, 1) := by decide +kernel
theorem dX3_init_39 : decode cX3_init 39 = .ok (.putfield 26, 3) := by decide +kernel
theorem dX3_init_42 : decode cX3_init 42 = .ok (.iconst 0, 1) := by decide +kernel
theorem dX3_init_43 : decode cX3_init 43 = .ok (.istore_n 2, 1) := by decide +kernel
theorem dX3_init_44 : decode cX3_init 44 = .ok (.iload_n 2, 1) := by decide +kernel
theorem dX3_init_45 : decode cX3_init 45 = .ok (.getstatic 30, 3) := by decide +kernel
theorem dX3_init_48 : decode cX3_init 48 = .ok (.arraylength, 1) := by decide +kernel
theorem dX3_init_49 : decode cX3_init 49 = .ok (.if_icmp .ge 90, 3) := by decide +kernel
theorem dX3_init_52 : decode cX3_init 52 = .ok (.iload_n 2, 1) := by decide +kernel
theorem dX3_init_53 : decode cX3_init 53 = .ok (.getstatic 34, 3) := by decide +kernel
theorem dX3_init_56 : decode cX3_init 56 = .ok (.arraylength, 1) := by decide +kernel
theorem dX3_init_57 : decode cX3_init 57 = .ok (.if_icmp .ge 82, 3) := by decide +kernel
theorem dX3_init_60 : decode cX3_init 60 = .ok (.iload_n 2, 1) := by decide +kernel
theorem dX3_init_61 : decode cX3_init 61 = .ok (.bipush 74, 2) := by decide +kernel
theorem dX3_init_63 : decode cX3_init 63 = .ok (.idiv, 1) := by decide +kernel
theorem dX3_init_64 : decode cX3_init 64 = .ok (.istore_n 3, 1) := by decide +kernel
theorem dX3_init_65 : decode cX3_init 65 = .ok (.bipush 13, 2) := by decide +kernel
theorem dX3_init_67 : decode cX3_init 67 = .ok (.getstatic 34, 3) := by decide +kernel
theorem dX3_init_70 : decode cX3_init 70 = .ok (.iload_n 2, 1) := by decide +kernel
theorem dX3_init_71 : decode cX3_init 71 = .ok (.iaload, 1) := by decide +kernel
theorem dX3_init_72 : decode cX3_init 72 = .ok (.isub, 1) := by decide +kernel
theorem dX3_init_73 : decode cX3_init 73 = .ok (.istore 4, 2) := by decide +kernel
theorem dX3_init_75 : decode cX3_init 75 = .ok (.iload_n 3, 1) := by decide +kernel
theorem dX3_init_76 : decode cX3_init 76 = .ok (.bipush 13, 2) := by decide +kernel
theorem dX3_init_78 : decode cX3_init 78 = .ok (.ishl, 1) := by decide +kernel
theorem dX3_init_79 : decode cX3_init 79 = .ok (.getstatic 30, 3) := by decide +kernel
theorem dX3_init_82 : decode cX3_init 82 = .ok (.iload_n 2, 1) := by decide +kernel
theorem dX3_init_83 : decode cX3_init 83 = .ok (.iaload, 1) := by decide +kernel
theorem dX3_init_84 : decode cX3_init 84 = .ok (.iload 4, 2) := by decide +kernel
theorem dX3_init_86 : decode cX3_init 86 = .ok (.ishl, 1) := by decide +kernel
theorem dX3_init_87 : decode cX3_init 87 = .ok (.iadd, 1) := by decide +kernel
theorem dX3_init_88 : decode cX3_init 88 = .ok (.istore 5, 2) := by decide +kernel
theorem dX3_init_90 : decode cX3_init 90 = .ok (.iload 5, 2) := by decide +kernel
theorem dX3_init_92 : decode cX3_init 92 = .ok (.istore 6, 2) := by decide +kernel
theorem dX3_init_94 : decode cX3_init 94 = .ok (.iload 6, 2) := by decide +kernel
theorem dX3_init_96 : decode cX3_init 96 = .ok (.iload 5, 2) := by decide +kernel
theorem dX3_init_98 : decode cX3_init 98 = .ok (.iconst 1, 1) := by decide +kernel
theorem dX3_init_99 : decode cX3_init 99 = .ok (.iload 4, 2) := by decide +kernel
theorem dX3_init_101 : decode cX3_init 101 = .ok (.ishl, 1) := by decide +kernel
theorem dX3_init_102 : decode cX3_init 102 = .ok (.iadd, 1) := by decide +kernel
theorem dX3_init_103 : decode cX3_init 103 = .ok (.if_icmp .ge 30, 3) := by decide +kernel
theorem dX3_init_106 : decode cX3_init 106 = .ok (.iload 6, 2) := by decide +kernel
theorem dX3_init_108 : decode cX3_init 108 = .ok (.aload_n 0, 1) := by decide +kernel
theorem dX3_init_109 : decode cX3_init 109 = .ok (.getfield 22, 3) := by decide +kernel
theorem dX3_init_112 : decode cX3_init 112 = .ok (.arraylength, 1) := by decide +kernel
theorem dX3_init_113 : decode cX3_init 113 = .ok (.if_icmp .ge 20, 3) := by decide +kernel
theorem dX3_init_116 : decode cX3_init 116 = .ok (.aload_n 0, 1) := by decide +kernel
theorem dX3_init_117 : decode cX3_init 117 = .ok (.getfield 22, 3) := by decide +kernel
theorem dX3_init_120 : decode cX3_init 120 = .ok (.iload 6, 2) := by decide +kernel
theorem dX3_init_122 : decode cX3_init 122 = .ok (.iload_n 2, 1) := by decide +kernel
theorem dX3_init_123 : decode cX3_init 123 = .ok (.iconst 1, 1) := by decide +kernel
theorem dX3_init_124 : decode cX3_init 124 = .ok (.iadd, 1) := by decide +kernel
theorem dX3_init_125 : decode cX3_init 125 = .ok (.i2s, 1) := by decide +kernel
theorem dX3_init_126 : decode cX3_init 126 = .ok (.sastore, 1) := by decide +kernel
theorem dX3_init_127 : decode cX3_init 127 = .ok (.iinc 6 1, 3) := by decide +kernel
theorem dX3_init_130 : decode cX3_init 130 = .ok (.goto (-36), 3) := by decide +kernel
theorem dX3_init_133 : decode cX3_init 133 = .ok (.iinc 2 1, 3) := by decide +kernel
theorem dX3_init_136 : decode cX3_init 136 = .ok (.goto (-92), 3) := by decide +kernel
theorem dX3_init_139 : decode cX3_init 139 = .ok (.return_, 1) := by decide +kernel
set_option maxRecDepth 100000 in
set_option maxHeartbeats 4000000 in
theorem c_X3_init (S : Hp) (h : Nat) (hm : h ∈ hL S) (hk : hK S h = 3) (s0 : Nat) : Ct 1 yX3_init cX3_init 7 none 4 28396 [.ref h, .ref s0] S (fun r S' => r = none ∧ Fm (fun _ _ => False) (fun f9 b9 => b9 = h) (fun _ => False) S S') := by
  refine ct_of (by decide) (Nat.le_of_ble_eq_true rfl) fun x hn9 C M hm9 => ?_
  have C : CB x RX3 cX3_init := C
  refine J.eq (lv' := [(0, .ref h), (1, .ref s0)]) rfl rfl rfl ?_
  refine j_aload_n C dX3_init_0 rfl 0 rfl ?_
  refine j_objInit C mlX3_3 nst_oi (M.fl (by decide)) dX3_init_1 ?_
  refine j_aload_n C dX3_init_4 rfl 0 rfl ?_
  refine j_iconst (v := 0) C dX3_init_5 (by decide) ?_
  refine j_newB (N := 0) C ka_byte (by decide) (by decide) (Nat.le_of_ble_eq_true rfl) (M.cells (by decide)) (M.slots (Nat.le_of_ble_eq_true rfl)) dX3_init_6 (fun q_1 hq_2 => ?_)
  have hz_3 : q_1 ∉ hL S := hq_2
  refine j_putr (f := 301) C flX3_9 (by decide) rfl rfl dX3_init_8 (mem_old hm) (kd_nA (k := 13) (n := 0) hq_2 hm hk) rfl ?_
  refine j_aload_n C dX3_init_11 rfl 0 rfl ?_
  refine j_bipush (v := 12) C dX3_init_12 (by decide) ?_
  show J _ _ _ _ _ 14 _
  have hf_6 : Fm (fun _ _ => False) (fun f9 b9 => b9 = h) (fun _ => False) S (sR (nA S q_1 13 0) 301 h (some q_1)) := (((Fm.refl (WI := (fun _ _ => False)) (WR := (fun f9 b9 => b9 = h)) (WA := (fun _ => False))).nA _ _ hq_2).sR _ (fun _ => rfl))
  obtain ⟨S_4, eS_5⟩ : ∃ S9 : Hp, S9 = (sR (nA S q_1 13 0) 301 h (some q_1)) := ⟨_, rfl⟩
  refine J.eq (S' := S_4) eS_5.symm rfl rfl ?_
  have hm_7 : h ∈ hL S_4 := by rw [eS_5]; exact (mem_old hm)
  have hk_8 : Kd S_4 h 3 := by rw [eS_5]; exact (kd_nA (k := 13) (n := 0) hq_2 hm hk)
  have hm_9 : q_1 ∈ hL S_4 := by rw [eS_5]; exact mem_new
  have hk_10 : Kd S_4 q_1 13 := by rw [eS_5]; exact (kd_nA' (k := 13) (n := 0))
  have hn_11 : Ln S_4 q_1 0 := by rw [eS_5]; exact (ln_nA' (k := 13))
  have hz_12 : ∀ j, aI S_4 q_1 j = 0 := by rw [eS_5]; exact (fun j9 => rd_nAI' (k := 13) (n := 0))
  have hv_13 : hR S_4 301 h = (some q_1) := by rw [eS_5]; exact (rd_sR (S := (nA S q_1 13 0)) (g := 301) (a := h) (v := (some q_1)))
  have hf_14 : Fm (fun _ _ => False) (fun f9 b9 => b9 = h) (fun _ => False) S S_4 := by rw [eS_5]; exact hf_6
  refine j_newJ (N := 12) C ka_long (by decide) (by decide) (Nat.le_of_ble_eq_true rfl) (M.cells (by decide)) (M.slots (Nat.le_of_ble_eq_true rfl)) dX3_init_14 (fun q_15 hq_16 => ?_)
  have hz_17 : q_15 ∉ hL S := fun h9 => hq_16 (hf_14.mem h9)
  refine j_putrF (f := 307) C hm9 flX3_15o (by decide) rfl rfl dX3_init_16 (mem_old hm_7) (kd_nA (k := 15) (n := 12) hq_16 hm_7 hk_8) rfl ?_
  refine j_aload_n C dX3_init_19 rfl 0 rfl ?_
  refine j_sipush (v := 12000) C dX3_init_20 (by decide) ?_
  have hf_20 : Fm (fun _ _ => False) (fun f9 b9 => b9 = h) (fun _ => False) S (sR (nA S_4 q_15 15 12) 307 h (some q_15)) := ((hf_14.nA _ _ hq_16).sR _ (fun _ => rfl))
  obtain ⟨S_18, eS_19⟩ : ∃ S9 : Hp, S9 = (sR (nA S_4 q_15 15 12) 307 h (some q_15)) := ⟨_, rfl⟩
  refine J.eq (S' := S_18) eS_19.symm rfl rfl ?_
  have hm_21 : h ∈ hL S_18 := by rw [eS_19]; exact (mem_old hm_7)
  have hk_22 : Kd S_18 h 3 := by rw [eS_19]; exact (kd_nA (k := 15) (n := 12) hq_16 hm_7 hk_8)
  have hm_23 : q_1 ∈ hL S_18 := by rw [eS_19]; exact (mem_old hm_9)
  have hk_24 : Kd S_18 q_1 13 := by rw [eS_19]; exact (kd_nA (k := 15) (n := 12) hq_16 hm_9 hk_10)
  have hn_25 : Ln S_18 q_1 0 := by rw [eS_19]; exact (ln_nA (k := 15) hq_16 hm_9 hn_11)
  have hz_26 : ∀ j, aI S_18 q_1 j = 0 := by rw [eS_19]; exact (fun j9 => rd_nAI (k := 15) (n := 12) hq_16 hm_9 (hz_12 j9))
  have hm_27 : q_15 ∈ hL S_18 := by rw [eS_19]; exact mem_new
  have hk_28 : Kd S_18 q_15 15 := by rw [eS_19]; exact (kd_nA' (k := 15) (n := 12))
  have hn_29 : Ln S_18 q_15 12 := by rw [eS_19]; exact (ln_nA' (k := 15))
  have hz_30 : ∀ j, aI S_18 q_15 j = 0 := by rw [eS_19]; exact (fun j9 => rd_nAI' (k := 15) (n := 12))
  have hv_31 : hR S_18 301 h = (some q_1) := by rw [eS_19]; exact (rd_sRf (S := (nA S_4 q_15 15 12)) (g := 307) (a := h) (v := (some q_15)) (by decide) hv_13)
  have hv_32 : hR S_18 307 h = (some q_15) := by rw [eS_19]; exact (rd_sR (S := (nA S_4 q_15 15 12)) (g := 307) (a := h) (v := (some q_15)))
  have hf_33 : Fm (fun _ _ => False) (fun f9 b9 => b9 = h) (fun _ => False) S S_18 := by rw [eS_19]; exact hf_20
  refine j_newB (N := 12000) C ka_byte (by decide) (by decide) (Nat.le_of_ble_eq_true rfl) (M.cells (by decide)) (M.slots (Nat.le_of_ble_eq_true rfl)) dX3_init_23 (fun q_34 hq_35 => ?_)
  have hz_36 : q_34 ∉ hL S := fun h9 => hq_35 (hf_33.mem h9)
  refine j_putrF (f := 317) C hm9 flX3_19o (by decide) rfl rfl dX3_init_25 (mem_old hm_21) (kd_nA (k := 13) (n := 12000) hq_35 hm_21 hk_22) rfl ?_
  refine j_aload_n C dX3_init_28 rfl 0 rfl ?_
  refine j_sipush (v := 16384) C dX3_init_29 (by decide) ?_
  show J _ _ _ _ _ 32 _
  have hf_39 : Fm (fun _ _ => False) (fun f9 b9 => b9 = h) (fun _ => False) S (sR (nA S_18 q_34 13 12000) 317 h (some q_34)) := ((hf_33.nA _ _ hq_35).sR _ (fun _ => rfl))
  obtain ⟨S_37, eS_38⟩ : ∃ S9 : Hp, S9 = (sR (nA S_18 q_34 13 12000) 317 h (some q_34)) := ⟨_, rfl⟩
  refine J.eq (S' := S_37) eS_38.symm rfl rfl ?_
  have hm_40 : h ∈ hL S_37 := by rw [eS_38]; exact (mem_old hm_21)
  have hk_41 : Kd S_37 h 3 := by rw [eS_38]; exact (kd_nA (k := 13) (n := 12000) hq_35 hm_21 hk_22)
  have hm_42 : q_1 ∈ hL S_37 := by rw [eS_38]; exact (mem_old hm_23)
  have hk_43 : Kd S_37 q_1 13 := by rw [eS_38]; exact (kd_nA (k := 13) (n := 12000) hq_35 hm_23 hk_24)
  have hn_44 : Ln S_37 q_1 0 := by rw [eS_38]; exact (ln_nA (k := 13) hq_35 hm_23 hn_25)
  have hz_45 : ∀ j, aI S_37 q_1 j = 0 := by rw [eS_38]; exact (fun j9 => rd_nAI (k := 13) (n := 12000) hq_35 hm_23 (hz_26 j9))
  have hm_46 : q_15 ∈ hL S_37 := by rw [eS_38]; exact (mem_old hm_27)
  have hk_47 : Kd S_37 q_15 15 := by rw [eS_38]; exact (kd_nA (k := 13) (n := 12000) hq_35 hm_27 hk_28)
  have hn_48 : Ln S_37 q_15 12 := by rw [eS_38]; exact (ln_nA (k := 13) hq_35 hm_27 hn_29)
  have hz_49 : ∀ j, aI S_37 q_15 j = 0 := by rw [eS_38]; exact (fun j9 => rd_nAI (k := 13) (n := 12000) hq_35 hm_27 (hz_30 j9))
  have hm_50 : q_34 ∈ hL S_37 := by rw [eS_38]; exact mem_new
  have hk_51 : Kd S_37 q_34 13 := by rw [eS_38]; exact (kd_nA' (k := 13) (n := 12000))
  have hn_52 : Ln S_37 q_34 12000 := by rw [eS_38]; exact (ln_nA' (k := 13))
  have hz_53 : ∀ j, aI S_37 q_34 j = 0 := by rw [eS_38]; exact (fun j9 => rd_nAI' (k := 13) (n := 12000))
  have hv_54 : hR S_37 301 h = (some q_1) := by rw [eS_38]; exact (rd_sRf (S := (nA S_18 q_34 13 12000)) (g := 317) (a := h) (v := (some q_34)) (by decide) hv_31)
  have hv_55 : hR S_37 307 h = (some q_15) := by rw [eS_38]; exact (rd_sRf (S := (nA S_18 q_34 13 12000)) (g := 317) (a := h) (v := (some q_34)) (by decide) hv_32)
  have hv_56 : hR S_37 317 h = (some q_34) := by rw [eS_38]; exact (rd_sR (S := (nA S_18 q_34 13 12000)) (g := 317) (a := h) (v := (some q_34)))
  have hf_57 : Fm (fun _ _ => False) (fun f9 b9 => b9 = h) (fun _ => False) S S_37 := by rw [eS_38]; exact hf_39
  refine j_newS (N := 16384) C ka_short (by decide) (by decide) (Nat.le_of_ble_eq_true rfl) (M.cells (by decide)) (M.slots (Nat.le_of_ble_eq_true rfl)) dX3_init_32 (fun q_58 hq_59 => ?_)
  have hz_60 : q_58 ∉ hL S := fun h9 => hq_59 (hf_57.mem h9)
  refine j_putrF (f := 320) C hm9 flX3_22o (by decide) rfl rfl dX3_init_34 (mem_old hm_40) (kd_nA (k := 16) (n := 16384) hq_59 hm_40 hk_41) rfl ?_
  refine j_aload_n C dX3_init_37 rfl 0 rfl ?_
  refine j_aload_n C dX3_init_38 rfl 1 rfl ?_
  refine j_putrF (f := 300) C hm9 flX3_26o (by decide) rfl rfl dX3_init_39 (mem_old hm_40) (kd_nA (k := 16) (n := 16384) hq_59 hm_40 hk_41) rfl ?_
  refine j_iconst (v := 0) C dX3_init_42 (by decide) ?_
  refine j_istore_n (lv' := [(2, .int 0), (0, .ref h), (1, .ref s0)]) C dX3_init_43 rfl (by rw [hn9]; decide) rfl ?_
  have hf_63 : Fm (fun _ _ => False) (fun f9 b9 => b9 = h) (fun _ => False) S (sR (sR (nA S_37 q_58 16 16384) 320 h (some q_58)) 300 h (some s0)) := (((hf_57.nA _ _ hq_59).sR _ (fun _ => rfl)).sR _ (fun _ => rfl))
  obtain ⟨S_61, eS_62⟩ : ∃ S9 : Hp, S9 = (sR (sR (nA S_37 q_58 16 16384) 320 h (some q_58)) 300 h (some s0)) := ⟨_, rfl⟩
  refine J.eq (S' := S_61) eS_62.symm rfl rfl ?_
  have hm_64 : h ∈ hL S_61 := by rw [eS_62]; exact (mem_old hm_40)
  have hk_65 : Kd S_61 h 3 := by rw [eS_62]; exact (kd_nA (k := 16) (n := 16384) hq_59 hm_40 hk_41)
  have hm_66 : q_1 ∈ hL S_61 := by rw [eS_62]; exact (mem_old hm_42)
  have hk_67 : Kd S_61 q_1 13 := by rw [eS_62]; exact (kd_nA (k := 16) (n := 16384) hq_59 hm_42 hk_43)
  have hn_68 : Ln S_61 q_1 0 := by rw [eS_62]; exact (ln_nA (k := 16) hq_59 hm_42 hn_44)
  have hz_69 : ∀ j, aI S_61 q_1 j = 0 := by rw [eS_62]; exact (fun j9 => rd_nAI (k := 16) (n := 16384) hq_59 hm_42 (hz_45 j9))
  have hm_70 : q_15 ∈ hL S_61 := by rw [eS_62]; exact (mem_old hm_46)
  have hk_71 : Kd S_61 q_15 15 := by rw [eS_62]; exact (kd_nA (k := 16) (n := 16384) hq_59 hm_46 hk_47)
  have hn_72 : Ln S_61 q_15 12 := by rw [eS_62]; exact (ln_nA (k := 16) hq_59 hm_46 hn_48)
  have hz_73 : ∀ j, aI S_61 q_15 j = 0 := by rw [eS_62]; exact (fun j9 => rd_nAI (k := 16) (n := 16384) hq_59 hm_46 (hz_49 j9))
  have hm_74 : q_34 ∈ hL S_61 := by rw [eS_62]; exact (mem_old hm_50)
  have hk_75 : Kd S_61 q_34 13 := by rw [eS_62]; exact (kd_nA (k := 16) (n := 16384) hq_59 hm_50 hk_51)
  have hn_76 : Ln S_61 q_34 12000 := by rw [eS_62]; exact (ln_nA (k := 16) hq_59 hm_50 hn_52)
  have hz_77 : ∀ j, aI S_61 q_34 j = 0 := by rw [eS_62]; exact (fun j9 => rd_nAI (k := 16) (n := 16384) hq_59 hm_50 (hz_53 j9))
  have hm_78 : q_58 ∈ hL S_61 := by rw [eS_62]; exact mem_new
  have hk_79 : Kd S_61 q_58 16 := by rw [eS_62]; exact (kd_nA' (k := 16) (n := 16384))
  have hn_80 : Ln S_61 q_58 16384 := by rw [eS_62]; exact (ln_nA' (k := 16))
  have hz_81 : ∀ j, aI S_61 q_58 j = 0 := by rw [eS_62]; exact (fun j9 => rd_nAI' (k := 16) (n := 16384))
  have hv_82 : hR S_61 300 h = (some s0) := by rw [eS_62]; exact (rd_sR (S := (sR (nA S_37 q_58 16 16384) 320 h (some q_58))) (g := 300) (a := h) (v := (some s0)))
  have hv_83 : hR S_61 301 h = (some q_1) := by rw [eS_62]; exact (rd_sRf (S := (sR (nA S_37 q_58 16 16384) 320 h (some q_58))) (g := 300) (a := h) (v := (some s0)) (by decide) (rd_sRf (S := (nA S_37 q_58 16 16384)) (g := 320) (a := h) (v := (some q_58)) (by decide) hv_54))
  have hv_84 : hR S_61 307 h = (some q_15) := by rw [eS_62]; exact (rd_sRf (S := (sR (nA S_37 q_58 16 16384) 320 h (some q_58))) (g := 300) (a := h) (v := (some s0)) (by decide) (rd_sRf (S := (nA S_37 q_58 16 16384)) (g := 320) (a := h) (v := (some q_58)) (by decide) hv_55))
  have hv_85 : hR S_61 317 h = (some q_34) := by rw [eS_62]; exact (rd_sRf (S := (sR (nA S_37 q_58 16 16384) 320 h (some q_58))) (g := 300) (a := h) (v := (some s0)) (by decide) (rd_sRf (S := (nA S_37 q_58 16 16384)) (g := 320) (a := h) (v := (some q_58)) (by decide) hv_56))
  have hv_86 : hR S_61 320 h = (some q_58) := by rw [eS_62]; exact (rd_sRf (S := (sR (nA S_37 q_58 16 16384) 320 h (some q_58))) (g := 300) (a := h) (v := (some s0)) (by decide) (rd_sR (S := (nA S_37 q_58 16 16384)) (g := 320) (a := h) (v := (some q_58))))
  have hf_87 : Fm (fun _ _ => False) (fun f9 b9 => b9 = h) (fun _ => False) S S_61 := by rw [eS_62]; exact hf_63
  have loop_92 : ∀ (m9 i : Nat) (S_89 : Hp), i + m9 = 148 → Fm (fun _ _ => False) (fun _ _ => False) (fun b9 => b9 = q_58) S_61 S_89 → J x (0 + 1 + 1 + 1 + 1) (0 + 0 + 12 + 12000 + 16384) S_89 [(2, .int (nI i)), (0, .ref h), (1, .ref s0)] 44 [] := by
    intro m9
    induction m9 with
    | zero =>
      intro i S_89  hi_93 hl_90 
      have hz_94 : ∀ j, aI S_89 q_1 j = 0 := fun j9 => (hl_90.ai hm_66 (fun q9 => (fun e9 => absurd ((hk_67).symm.trans ((congrArg (hK _) e9).trans hk_79)) (by decide)) q9) j9).trans (hz_69 j9)
      have hz_95 : ∀ j, aI S_89 q_15 j = 0 := fun j9 => (hl_90.ai hm_70 (fun q9 => (fun e9 => absurd ((hk_71).symm.trans ((congrArg (hK _) e9).trans hk_79)) (by decide)) q9) j9).trans (hz_73 j9)
      have hz_96 : ∀ j, aI S_89 q_34 j = 0 := fun j9 => (hl_90.ai hm_74 (fun q9 => (fun e9 => absurd ((hk_75).symm.trans ((congrArg (hK _) e9).trans hk_79)) (by decide)) q9) j9).trans (hz_77 j9)
      have hm_97 : h ∈ hL S_89 := hl_90.mem hm_64
      have hk_98 : Kd S_89 h 3 := hl_90.kd hm_64 hk_65
      have hm_99 : q_1 ∈ hL S_89 := hl_90.mem hm_66
      have hk_100 : Kd S_89 q_1 13 := hl_90.kd hm_66 hk_67
      have hn_101 : Ln S_89 q_1 0 := hl_90.ln hm_66 hn_68
      have hm_102 : q_15 ∈ hL S_89 := hl_90.mem hm_70
      have hk_103 : Kd S_89 q_15 15 := hl_90.kd hm_70 hk_71
      have hn_104 : Ln S_89 q_15 12 := hl_90.ln hm_70 hn_72
      have hm_105 : q_34 ∈ hL S_89 := hl_90.mem hm_74
      have hk_106 : Kd S_89 q_34 13 := hl_90.kd hm_74 hk_75
      have hn_107 : Ln S_89 q_34 12000 := hl_90.ln hm_74 hn_76
      have hm_108 : q_58 ∈ hL S_89 := hl_90.mem hm_78
      have hk_109 : Kd S_89 q_58 16 := hl_90.kd hm_78 hk_79
      have hn_110 : Ln S_89 q_58 16384 := hl_90.ln hm_78 hn_80
      have hv_111 : hR S_89 300 h = (some s0) := hl_90.fr hm_64 (fun h9 => h9) hv_82
      have hv_112 : hR S_89 301 h = (some q_1) := hl_90.fr hm_64 (fun h9 => h9) hv_83
      have hv_113 : hR S_89 307 h = (some q_15) := hl_90.fr hm_64 (fun h9 => h9) hv_84
      have hv_114 : hR S_89 317 h = (some q_34) := hl_90.fr hm_64 (fun h9 => h9) hv_85
      have hv_115 : hR S_89 320 h = (some q_58) := hl_90.fr hm_64 (fun h9 => h9) hv_86
      have hf_116 : Fm (fun _ _ => False) (fun f9 b9 => b9 = h) (fun _ => False) S S_89 := hf_87.then hl_90 (fun a9 ha9 => ⟨(fun f9 h9 => h9.elim), (fun f9 h9 => h9.elim), (fun h9 => (fun h8 => absurd (h8 ▸ ha9) hz_60) h9)⟩)
      refine j_iload_n C dX3_init_44 rfl 0 rfl ?_
      refine j_gets C 3 rfl (Or.inr ⟨_, gsX3_30⟩) dX3_init_45 ?_
      show J _ _ _ _ _ 48 _
      refine j_stlen (v := 148) C 3 rfl dX3_init_48 (by decide) ?_
      refine j_ic_ge (tgt := 139) C dX3_init_49 (by decide) (fun c_49 => ?_) (fun c_49 => absurd (nI_le (a := 148) (by omega) (by omega)) c_49)
      exact j_vret C M dX3_init_139 (Nat.le_of_ble_eq_true rfl) (Nat.le_of_ble_eq_true rfl) ⟨rfl, hf_116⟩
    | succ m9 ih_91 =>
      intro i S_89  hi_93 hl_90 
      have hz_117 : ∀ j, aI S_89 q_1 j = 0 := fun j9 => (hl_90.ai hm_66 (fun q9 => (fun e9 => absurd ((hk_67).symm.trans ((congrArg (hK _) e9).trans hk_79)) (by decide)) q9) j9).trans (hz_69 j9)
      have hz_118 : ∀ j, aI S_89 q_15 j = 0 := fun j9 => (hl_90.ai hm_70 (fun q9 => (fun e9 => absurd ((hk_71).symm.trans ((congrArg (hK _) e9).trans hk_79)) (by decide)) q9) j9).trans (hz_73 j9)
      have hz_119 : ∀ j, aI S_89 q_34 j = 0 := fun j9 => (hl_90.ai hm_74 (fun q9 => (fun e9 => absurd ((hk_75).symm.trans ((congrArg (hK _) e9).trans hk_79)) (by decide)) q9) j9).trans (hz_77 j9)
      have hm_120 : h ∈ hL S_89 := hl_90.mem hm_64
      have hk_121 : Kd S_89 h 3 := hl_90.kd hm_64 hk_65
      have hm_122 : q_1 ∈ hL S_89 := hl_90.mem hm_66
      have hk_123 : Kd S_89 q_1 13 := hl_90.kd hm_66 hk_67
      have hn_124 : Ln S_89 q_1 0 := hl_90.ln hm_66 hn_68
      have hm_125 : q_15 ∈ hL S_89 := hl_90.mem hm_70
      have hk_126 : Kd S_89 q_15 15 := hl_90.kd hm_70 hk_71
      have hn_127 : Ln S_89 q_15 12 := hl_90.ln hm_70 hn_72
      have hm_128 : q_34 ∈ hL S_89 := hl_90.mem hm_74
      have hk_129 : Kd S_89 q_34 13 := hl_90.kd hm_74 hk_75
      have hn_130 : Ln S_89 q_34 12000 := hl_90.ln hm_74 hn_76
      have hm_131 : q_58 ∈ hL S_89 := hl_90.mem hm_78
      have hk_132 : Kd S_89 q_58 16 := hl_90.kd hm_78 hk_79
      have hn_133 : Ln S_89 q_58 16384 := hl_90.ln hm_78 hn_80
      have hv_134 : hR S_89 300 h = (some s0) := hl_90.fr hm_64 (fun h9 => h9) hv_82
      have hv_135 : hR S_89 301 h = (some q_1) := hl_90.fr hm_64 (fun h9 => h9) hv_83
      have hv_136 : hR S_89 307 h = (some q_15) := hl_90.fr hm_64 (fun h9 => h9) hv_84
      have hv_137 : hR S_89 317 h = (some q_34) := hl_90.fr hm_64 (fun h9 => h9) hv_85
      have hv_138 : hR S_89 320 h = (some q_58) := hl_90.fr hm_64 (fun h9 => h9) hv_86
      have hf_139 : Fm (fun _ _ => False) (fun f9 b9 => b9 = h) (fun _ => False) S S_89 := hf_87.then hl_90 (fun a9 ha9 => ⟨(fun f9 h9 => h9.elim), (fun f9 h9 => h9.elim), (fun h9 => (fun h8 => absurd (h8 ▸ ha9) hz_60) h9)⟩)
      have hrt := rt_all i (by omega)
      have hle9 := hrt.2.2.2
      refine j_iload_n C dX3_init_44 rfl 0 rfl ?_
      refine j_gets C 3 rfl (Or.inr ⟨_, gsX3_30⟩) dX3_init_45 ?_
      refine j_stlen (v := 148) C 3 rfl dX3_init_48 (by decide) ?_
      refine j_ic_ge (tgt := 139) C dX3_init_49 (by decide) (fun c_49 => absurd c_49 (nI_ge (b := 148) (by omega) (by omega))) (fun c_49 => ?_)
      refine j_iload_n C dX3_init_52 rfl 0 rfl ?_
      refine j_gets C 2 rfl (Or.inr ⟨_, gsX3_34⟩) dX3_init_53 ?_
      refine j_stlen (v := 148) C 2 rfl dX3_init_56 (by decide) ?_
      show J _ _ _ _ _ 57 _
      refine j_ic_ge (tgt := 139) C dX3_init_57 (by decide) (fun c_57 => absurd c_57 (nI_ge (b := 148) (by omega) (by omega))) (fun c_57 => ?_)
      refine j_iload_n C dX3_init_60 rfl 0 rfl ?_
      refine j_bipush (v := 74) C dX3_init_61 (by decide) ?_
      refine j_idiv (v := nI (i / 74)) C dX3_init_63 (by decide) (pk_div (d := 74) (by omega) (by omega) (by omega)) ?_
      refine j_istore_n (lv' := [(3, .int (nI (i / 74))), (2, .int (nI i)), (0, .ref h), (1, .ref s0)]) C dX3_init_64 rfl (by rw [hn9]; decide) rfl ?_
      refine j_bipush (v := 13) C dX3_init_65 (by decide) ?_
      refine j_gets C 2 rfl (Or.inr ⟨_, gsX3_34⟩) dX3_init_67 ?_
      refine j_iload_n C dX3_init_70 rfl 1 rfl ?_
      show J _ _ _ _ _ 71 _
      refine j_stld (v := st_RUN_BITS.getD i 0) C 2 rfl dX3_init_71 (show vp_in (nI i) 148 from vp_in_nI (by omega) (by omega)) (congrArg (fun z9 => st_RUN_BITS.getD z9 0) (nI_clamp (by omega))) ?_
      refine j_isub (v := nI (rt_o i)) C dX3_init_72 hrt.1 ?_
      refine j_istore (lv' := [(4, .int (nI (rt_o i))), (3, .int (nI (i / 74))), (2, .int (nI i)), (0, .ref h), (1, .ref s0)]) C dX3_init_73 (by rw [hn9]; decide) rfl ?_
      refine j_iload_n C dX3_init_75 rfl 1 rfl ?_
      refine j_bipush (v := 13) C dX3_init_76 (by decide) ?_
      refine j_ishl C dX3_init_78 rfl ?_
      refine j_gets C 3 rfl (Or.inr ⟨_, gsX3_30⟩) dX3_init_79 ?_
      refine j_iload_n C dX3_init_82 rfl 2 rfl ?_
      show J _ _ _ _ _ 83 _
      refine j_stld (v := st_RUN_CODES.getD i 0) C 3 rfl dX3_init_83 (show vp_in (nI i) 148 from vp_in_nI (by omega) (by omega)) (congrArg (fun z9 => st_RUN_CODES.getD z9 0) (nI_clamp (by omega))) ?_
      refine j_iload C dX3_init_84 0 rfl ?_
      refine j_ishl C dX3_init_86 rfl ?_
      refine j_iadd (v := nI (rt_f i)) C dX3_init_87 hrt.2.2.1 ?_
      refine j_istore (lv' := [(5, .int (nI (rt_f i))), (4, .int (nI (rt_o i))), (3, .int (nI (i / 74))), (2, .int (nI i)), (0, .ref h), (1, .ref s0)]) C dX3_init_88 (by rw [hn9]; decide) rfl ?_
      refine j_iload C dX3_init_90 0 rfl ?_
      refine j_istore (lv' := [(6, .int (nI (rt_f i))), (5, .int (nI (rt_f i))), (4, .int (nI (rt_o i))), (3, .int (nI (i / 74))), (2, .int (nI i)), (0, .ref h), (1, .ref s0)]) C dX3_init_92 (by rw [hn9]; decide) rfl ?_
      have loop_144 : ∀ (m9 j : Nat) (S_141 : Hp), j + m9 = (rt_s i) → Fm (fun _ _ => False) (fun _ _ => False) (fun b9 => b9 = q_58) S_89 S_141 → J x (0 + 1 + 1 + 1 + 1) (0 + 0 + 12 + 12000 + 16384) S_141 [(6, .int (nI (rt_f i + j))), (5, .int (nI (rt_f i))), (4, .int (nI (rt_o i))), (3, .int (nI (i / 74))), (2, .int (nI i)), (0, .ref h), (1, .ref s0)] 94 [] := by
        intro m9
        induction m9 with
        | zero =>
          intro j S_141  hi_145 hl_142 
          have hz_146 : ∀ j, aI S_141 q_1 j = 0 := fun j9 => (hl_142.ai hm_122 (fun q9 => (fun e9 => absurd ((hk_123).symm.trans ((congrArg (hK _) e9).trans hk_132)) (by decide)) q9) j9).trans (hz_117 j9)
          have hz_147 : ∀ j, aI S_141 q_15 j = 0 := fun j9 => (hl_142.ai hm_125 (fun q9 => (fun e9 => absurd ((hk_126).symm.trans ((congrArg (hK _) e9).trans hk_132)) (by decide)) q9) j9).trans (hz_118 j9)
          have hz_148 : ∀ j, aI S_141 q_34 j = 0 := fun j9 => (hl_142.ai hm_128 (fun q9 => (fun e9 => absurd ((hk_129).symm.trans ((congrArg (hK _) e9).trans hk_132)) (by decide)) q9) j9).trans (hz_119 j9)
          have hm_149 : h ∈ hL S_141 := hl_142.mem hm_120
          have hk_150 : Kd S_141 h 3 := hl_142.kd hm_120 hk_121
          have hm_151 : q_1 ∈ hL S_141 := hl_142.mem hm_122
          have hk_152 : Kd S_141 q_1 13 := hl_142.kd hm_122 hk_123
          have hn_153 : Ln S_141 q_1 0 := hl_142.ln hm_122 hn_124
          have hm_154 : q_15 ∈ hL S_141 := hl_142.mem hm_125
          have hk_155 : Kd S_141 q_15 15 := hl_142.kd hm_125 hk_126
          have hn_156 : Ln S_141 q_15 12 := hl_142.ln hm_125 hn_127
          have hm_157 : q_34 ∈ hL S_141 := hl_142.mem hm_128
          have hk_158 : Kd S_141 q_34 13 := hl_142.kd hm_128 hk_129
          have hn_159 : Ln S_141 q_34 12000 := hl_142.ln hm_128 hn_130
          have hm_160 : q_58 ∈ hL S_141 := hl_142.mem hm_131
          have hk_161 : Kd S_141 q_58 16 := hl_142.kd hm_131 hk_132
          have hn_162 : Ln S_141 q_58 16384 := hl_142.ln hm_131 hn_133
          have hv_163 : hR S_141 300 h = (some s0) := hl_142.fr hm_120 (fun h9 => h9) hv_134
          have hv_164 : hR S_141 301 h = (some q_1) := hl_142.fr hm_120 (fun h9 => h9) hv_135
          have hv_165 : hR S_141 307 h = (some q_15) := hl_142.fr hm_120 (fun h9 => h9) hv_136
          have hv_166 : hR S_141 317 h = (some q_34) := hl_142.fr hm_120 (fun h9 => h9) hv_137
          have hv_167 : hR S_141 320 h = (some q_58) := hl_142.fr hm_120 (fun h9 => h9) hv_138
          have hf_168 : Fm (fun _ _ => False) (fun f9 b9 => b9 = h) (fun _ => False) S S_141 := hf_139.then hl_142 (fun a9 ha9 => ⟨(fun f9 h9 => h9.elim), (fun f9 h9 => h9.elim), (fun h9 => (fun h8 => absurd (h8 ▸ ha9) hz_60) h9)⟩)
          have hf_169 : Fm (fun _ _ => False) (fun _ _ => False) (fun b9 => b9 = q_58) S_61 S_141 := hl_90.then hl_142 (fun a9 ha9 => ⟨(fun f9 h9 => h9.elim), (fun f9 h9 => h9.elim), (fun h9 => (fun h8 => h8) h9)⟩)
          refine j_iload C dX3_init_94 0 rfl ?_
          refine j_iload C dX3_init_96 1 rfl ?_
          show J _ _ _ _ _ 98 _
          refine j_iconst (v := 1) C dX3_init_98 (by decide) ?_
          refine j_iload C dX3_init_99 2 rfl ?_
          refine j_ishl (v := nI (rt_s i)) C dX3_init_101 hrt.2.1 ?_
          refine j_iadd (v := nI (rt_f i + rt_s i)) C dX3_init_102 (nI_add _ _) ?_
          refine j_ic_ge (tgt := 133) C dX3_init_103 (by decide) (fun c_103 => ?_) (fun c_103 => absurd (nI_le (by omega) (by omega)) c_103)
          refine j_iinc (q := 4) (v := nI (i + 1)) (lv' := [(2, .int (nI (i + 1))), (6, .int (nI (rt_f i + j))), (5, .int (nI (rt_f i))), (4, .int (nI (rt_o i))), (3, .int (nI (i / 74))), (0, .ref h), (1, .ref s0)]) C dX3_init_133 rfl (by rw [show Int32.ofInt 1 = 1 by decide]; exact nI_add i 1) (by rw [hn9]; decide) rfl ?_
          refine j_goto (tgt := 44) C dX3_init_136 (by decide) ?_
          refine J.sub [0, 5, 6] (lv' := [(2, .int (nI (i + 1))), (0, .ref h), (1, .ref s0)]) (by rfl) ?_
          exact ih_91 (i + 1) _  (by omega) hf_169 
        | succ m9 ih_143 =>
          intro j S_141  hi_145 hl_142 
          have hz_170 : ∀ j, aI S_141 q_1 j = 0 := fun j9 => (hl_142.ai hm_122 (fun q9 => (fun e9 => absurd ((hk_123).symm.trans ((congrArg (hK _) e9).trans hk_132)) (by decide)) q9) j9).trans (hz_117 j9)
          have hz_171 : ∀ j, aI S_141 q_15 j = 0 := fun j9 => (hl_142.ai hm_125 (fun q9 => (fun e9 => absurd ((hk_126).symm.trans ((congrArg (hK _) e9).trans hk_132)) (by decide)) q9) j9).trans (hz_118 j9)
          have hz_172 : ∀ j, aI S_141 q_34 j = 0 := fun j9 => (hl_142.ai hm_128 (fun q9 => (fun e9 => absurd ((hk_129).symm.trans ((congrArg (hK _) e9).trans hk_132)) (by decide)) q9) j9).trans (hz_119 j9)
          have hm_173 : h ∈ hL S_141 := hl_142.mem hm_120
          have hk_174 : Kd S_141 h 3 := hl_142.kd hm_120 hk_121
          have hm_175 : q_1 ∈ hL S_141 := hl_142.mem hm_122
          have hk_176 : Kd S_141 q_1 13 := hl_142.kd hm_122 hk_123
          have hn_177 : Ln S_141 q_1 0 := hl_142.ln hm_122 hn_124
          have hm_178 : q_15 ∈ hL S_141 := hl_142.mem hm_125
          have hk_179 : Kd S_141 q_15 15 := hl_142.kd hm_125 hk_126
          have hn_180 : Ln S_141 q_15 12 := hl_142.ln hm_125 hn_127
          have hm_181 : q_34 ∈ hL S_141 := hl_142.mem hm_128
          have hk_182 : Kd S_141 q_34 13 := hl_142.kd hm_128 hk_129
          have hn_183 : Ln S_141 q_34 12000 := hl_142.ln hm_128 hn_130
          have hm_184 : q_58 ∈ hL S_141 := hl_142.mem hm_131
          have hk_185 : Kd S_141 q_58 16 := hl_142.kd hm_131 hk_132
          have hn_186 : Ln S_141 q_58 16384 := hl_142.ln hm_131 hn_133
          have hv_187 : hR S_141 300 h = (some s0) := hl_142.fr hm_120 (fun h9 => h9) hv_134
          have hv_188 : hR S_141 301 h = (some q_1) := hl_142.fr hm_120 (fun h9 => h9) hv_135
          have hv_189 : hR S_141 307 h = (some q_15) := hl_142.fr hm_120 (fun h9 => h9) hv_136
          have hv_190 : hR S_141 317 h = (some q_34) := hl_142.fr hm_120 (fun h9 => h9) hv_137
          have hv_191 : hR S_141 320 h = (some q_58) := hl_142.fr hm_120 (fun h9 => h9) hv_138
          have hf_192 : Fm (fun _ _ => False) (fun f9 b9 => b9 = h) (fun _ => False) S S_141 := hf_139.then hl_142 (fun a9 ha9 => ⟨(fun f9 h9 => h9.elim), (fun f9 h9 => h9.elim), (fun h9 => (fun h8 => absurd (h8 ▸ ha9) hz_60) h9)⟩)
          have hf_193 : Fm (fun _ _ => False) (fun _ _ => False) (fun b9 => b9 = q_58) S_61 S_141 := hl_90.then hl_142 (fun a9 ha9 => ⟨(fun f9 h9 => h9.elim), (fun f9 h9 => h9.elim), (fun h9 => (fun h8 => h8) h9)⟩)
          refine j_iload C dX3_init_94 0 rfl ?_
          refine j_iload C dX3_init_96 1 rfl ?_
          show J _ _ _ _ _ 98 _
          refine j_iconst (v := 1) C dX3_init_98 (by decide) ?_
          refine j_iload C dX3_init_99 2 rfl ?_
          refine j_ishl (v := nI (rt_s i)) C dX3_init_101 hrt.2.1 ?_
          refine j_iadd (v := nI (rt_f i + rt_s i)) C dX3_init_102 (nI_add _ _) ?_
          refine j_ic_ge (tgt := 133) C dX3_init_103 (by decide) (fun c_103 => absurd c_103 (nI_ge (by omega) (by omega))) (fun c_103 => ?_)
          refine j_iload C dX3_init_106 0 rfl ?_
          refine j_aload_n C dX3_init_108 rfl 5 rfl ?_
          refine j_getr (f := 320) (v := q_58) C flX3_22 dX3_init_109 hm_173 hk_174 (by decide) rfl hv_191 ?_
          show J _ _ _ _ _ 112 _
          refine j_alen (v := 16384) C dX3_init_112 hm_184 hk_185 (by decide) (by decide) (len_of (n := 16384) hn_186 (by decide)) ?_
          refine j_ic_ge (tgt := 133) C dX3_init_113 (by decide) (fun c_113 => absurd c_113 (nI_ge (b := 16384) (by omega) (by omega))) (fun c_113 => ?_)
          refine j_aload_n C dX3_init_116 rfl 5 rfl ?_
          refine j_getr (f := 320) (v := q_58) C flX3_22 dX3_init_117 hm_173 hk_174 (by decide) rfl hv_191 ?_
          refine j_iload C dX3_init_120 0 rfl ?_
          refine j_iload_n C dX3_init_122 rfl 4 rfl ?_
          refine j_iconst (v := 1) C dX3_init_123 (by decide) ?_
          refine j_iadd C dX3_init_124 rfl ?_
          show J _ _ _ _ _ 125 _
          refine j_i2s C dX3_init_125 rfl ?_
          refine j_sast (j := (rt_f i + j)) C dX3_init_126 hm_184 hk_185 (inr_of (n := 16384) hn_186 (vp_in_nI (by omega) (by omega))) (nI_clamp (by omega)) ?_
          refine j_iinc (q := 0) (v := nI (rt_f i + (j + 1))) (lv' := [(6, .int (nI (rt_f i + (j + 1)))), (5, .int (nI (rt_f i))), (4, .int (nI (rt_o i))), (3, .int (nI (i / 74))), (2, .int (nI i)), (0, .ref h), (1, .ref s0)]) C dX3_init_127 rfl (by rw [show Int32.ofInt 1 = 1 by decide]; exact nI_add (rt_f i + j) 1) (by rw [hn9]; decide) rfl ?_
          refine j_goto (tgt := 94) C dX3_init_130 (by decide) ?_
          refine J.sub [0, 1, 2, 3, 4, 5, 6] (lv' := [(6, .int (nI (rt_f i + (j + 1)))), (5, .int (nI (rt_f i))), (4, .int (nI (rt_o i))), (3, .int (nI (i / 74))), (2, .int (nI i)), (0, .ref h), (1, .ref s0)]) (by rfl) ?_
          exact ih_143 (j + 1) _  (by omega) (hl_142.tI _ _ (fun _ => rfl)) 
      refine J.sub [0, 1, 2, 3, 4, 5, 6] (lv' := [(6, .int (nI (rt_f i + 0))), (5, .int (nI (rt_f i))), (4, .int (nI (rt_o i))), (3, .int (nI (i / 74))), (2, .int (nI i)), (0, .ref h), (1, .ref s0)]) (by rfl) ?_
      exact loop_144 (rt_s i) 0 _  (by omega) Fm.refl 
  refine J.sub [0, 1, 2] (lv' := [(2, .int (nI 0)), (0, .ref h), (1, .ref s0)]) (by rw [nI_0]; rfl) ?_
  exact loop_92 148 0 _  (by omega) Fm.refl 
