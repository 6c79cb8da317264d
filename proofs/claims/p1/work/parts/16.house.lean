theorem dX11_init_0 : decode cX11_init 0 = .ok (.aload_n 0, 1) := by decide +kernel
theorem dX11_init_1 : decode cX11_init 1 = .ok (.invokespecial 1, 3) := by decide +kernel
theorem dX11_init_4 : decode cX11_init 4 = .ok (.aload_n 0, 1) := by decide +kernel
theorem dX11_init_5 : decode cX11_init 5 = .ok (.sipush 8000, 3) := by decide +kernel
theorem dX11_init_8 : decode cX11_init 8 = .ok (.newarray .byte, 2) := by decide +kernel
theorem dX11_init_10 : decode cX11_init 10 = .ok (.putfield 9, 3) := by decide +kernel
theorem dX11_init_13 : decode cX11_init 13 = .ok (.aload_n 0, 1) := by decide +kernel
theorem dX11_init_14 : decode cX11_init 14 = .ok (.sipush 12000, 3) := by decide +kernel
theorem dX11_init_17 : decode cX11_init 17 = .ok (.newarray .byte, 2) := by decide +kernel
theorem dX11_init_19 : decode cX11_init 19 = .ok (.putfield 13, 3) := by decide +kernel
theorem dX11_init_22 : decode cX11_init 22 = .ok (.aload_n 0, 1) := by decide +kernel
theorem dX11_init_23 : decode cX11_init 23 = .ok (.bipush 6, 2) := by decide +kernel
theorem dX11_init_25 : decode cX11_init 25 = .ok (.newarray .int, 2) := by decide +kernel
theorem dX11_init_27 : decode cX11_init 27 = .ok (.putfield 16, 3) := by decide +kernel
theorem dX11_init_30 : decode cX11_init 30 = .ok (.aload_n 0, 1) := by decide +kernel
theorem dX11_init_31 : decode cX11_init 31 = .ok (.bipush 7, 2) := by decide +kernel
theorem dX11_init_33 : decode cX11_init 33 = .ok (.newarray .int, 2) := by decide +kernel
theorem dX11_init_35 : decode cX11_init 35 = .ok (.putfield 20, 3) := by decide +kernel
theorem dX11_init_38 : decode cX11_init 38 = .ok (.aload_n 0, 1) := by decide +kernel
theorem dX11_init_39 : decode cX11_init 39 = .ok (.iconst (-1), 1) := by decide +kernel
theorem dX11_init_40 : decode cX11_init 40 = .ok (.putfield 23, 3) := by decide +kernel
theorem dX11_init_43 : decode cX11_init 43 = .ok (.aload_n 0, 1) := by decide +kernel
theorem dX11_init_44 : decode cX11_init 44 = .ok (.iconst (-1), 1) := by decide +kernel
theorem dX11_init_45 : decode cX11_init 45 = .ok (.putfield 27, 3) := by decide +kernel
theorem dX11_init_48 : decode cX11_init 48 = .ok (.aload_n 0, 1) := by decide +kernel
theorem dX11_init_49 : decode cX11_init 49 = .ok (.new 30, 3) := by decide +kernel
theorem dX11_init_52 : decode cX11_init 52 = .ok (.dup, 1) := by decide +kernel
theorem dX11_init_53 : decode cX11_init 53 = .ok (.invokespecial 32, 3) := by decide +kernel
theorem dX11_init_56 : decode cX11_init 56 = .ok (.putfield 33, 3) := by decide +kernel
theorem dX11_init_59 : decode cX11_init 59 = .ok (.aload_n 0, 1) := by decide +kernel
theorem dX11_init_60 : decode cX11_init 60 = .ok (.new 37, 3) := by decide +kernel
theorem dX11_init_63 : decode cX11_init 63 = .ok (.dup, 1) := by decide +kernel
theorem dX11_init_64 : decode cX11_init 64 = .ok (.aload_n 0, 1) := by decide +kernel
theorem dX11_init_65 : decode cX11_init 65 = .ok (.getfield 33, 3) := by decide +kernel
theorem dX11_init_68 : decode cX11_init 68 = .ok (.invokespecial 39, 3) := by decide +kernel
theorem dX11_init_71 : decode cX11_init 71 = .ok (.putfield 42, 3) := by decide +kernel
theorem dX11_init_74 : decode cX11_init 74 = .ok (.aload_n 0, 1) := by decide +kernel
theorem dX11_init_75 : decode cX11_init 75 = .ok (.new 46, 3) := by decide +kernel
theorem dX11_init_78 : decode cX11_init 78 = .ok (.dup, 1) := by decide +kernel
theorem dX11_init_79 : decode cX11_init 79 = .ok (.aload_n 0, 1) := by decide +kernel
theorem dX11_init_80 : decode cX11_init 80 = .ok (.getfield 33, 3) := by decide +kernel
theorem dX11_init_83 : decode cX11_init 83 = .ok (.invokespecial 48, 3) := by decide +kernel
theorem dX11_init_86 : decode cX11_init 86 = .ok (.putfield 49, 3) := by decide +kernel
theorem dX11_init_89 : decode cX11_init 89 = .ok (.return_, 1) := by decide +kernel
set_option maxRecDepth 100000 in
set_option maxHeartbeats 4000000 in
theorem c_X11_init (S : Hp) (h : Nat) (hm : h ∈ hL S) (hk : hK S h = 11) : Ct 5 yX11_init cX11_init 1 none 141 384920 [.ref h] S (fun r S' => r = none ∧ Fm (fun f9 b9 => (f9 = 1110 ∧ b9 = h) ∨ (f9 = 1111 ∧ b9 = h)) (fun f9 b9 => b9 = h) (fun _ => False) S S' ∧ hI S' 1110 h = (-1) ∧ hI S' 1111 h = (-1) ∧ ∃ t0 t1 t2 t3 t4 t5 t6 u0 u1 u2 u3 u4 u5 u6 u7 u8 u9 u10 : Nat, t0 ∉ hL S ∧ t0 ∈ hL S' ∧ Kd S' t0 13 ∧ Ln S' t0 8000 ∧ hR S' 1100 h = some t0 ∧ (∀ j, aI S' t0 j = 0) ∧ t1 ∉ hL S ∧ t1 ∈ hL S' ∧ Kd S' t1 13 ∧ Ln S' t1 12000 ∧ hR S' 1102 h = some t1 ∧ (∀ j, aI S' t1 j = 0) ∧ t2 ∉ hL S ∧ t2 ∈ hL S' ∧ Kd S' t2 14 ∧ Ln S' t2 6 ∧ hR S' 1103 h = some t2 ∧ (∀ j, aI S' t2 j = 0) ∧ t3 ∉ hL S ∧ t3 ∈ hL S' ∧ Kd S' t3 14 ∧ Ln S' t3 7 ∧ hR S' 1104 h = some t3 ∧ (∀ j, aI S' t3 j = 0) ∧ t4 ∉ hL S ∧ t4 ∈ hL S' ∧ Kd S' t4 6 ∧ hR S' 1106 h = some t4 ∧ t5 ∉ hL S ∧ t5 ∈ hL S' ∧ Kd S' t5 13 ∧ Ln S' t5 60000 ∧ hR S' 600 t4 = some t5 ∧ (∀ j, aI S' t5 j = 0) ∧ t6 ∉ hL S ∧ t6 ∈ hL S' ∧ Kd S' t6 9 ∧ hR S' 1107 h = some t6 ∧ u0 ∉ hL S ∧ u0 ∈ hL S' ∧ Kd S' u0 0 ∧ hR S' 901 t6 = some u0 ∧ u1 ∉ hL S ∧ u1 ∈ hL S' ∧ Kd S' u1 14 ∧ Ln S' u1 20000 ∧ hR S' 0 u0 = some u1 ∧ (∀ j, aI S' u1 j = 0) ∧ u2 ∉ hL S ∧ u2 ∈ hL S' ∧ Kd S' u2 2 ∧ hR S' 902 t6 = some u2 ∧ u3 ∉ hL S ∧ u3 ∈ hL S' ∧ Kd S' u3 8 ∧ hR S' 200 u2 = some u3 ∧ u4 ∉ hL S ∧ u4 ∈ hL S' ∧ Kd S' u4 14 ∧ Ln S' u4 16 ∧ hR S' 800 u3 = some u4 ∧ (∀ j, aI S' u4 j = 0) ∧ u5 ∉ hL S ∧ u5 ∈ hL S' ∧ Kd S' u5 8 ∧ hR S' 903 t6 = some u5 ∧ u6 ∉ hL S ∧ u6 ∈ hL S' ∧ Kd S' u6 14 ∧ Ln S' u6 16 ∧ hR S' 800 u5 = some u6 ∧ (∀ j, aI S' u6 j = 0) ∧ u7 ∉ hL S ∧ u7 ∈ hL S' ∧ Kd S' u7 8 ∧ hR S' 906 t6 = some u7 ∧ u8 ∉ hL S ∧ u8 ∈ hL S' ∧ Kd S' u8 14 ∧ Ln S' u8 16 ∧ hR S' 800 u7 = some u8 ∧ (∀ j, aI S' u8 j = 0) ∧ u9 ∉ hL S ∧ u9 ∈ hL S' ∧ Kd S' u9 14 ∧ Ln S' u9 16 ∧ hR S' 908 t6 = some u9 ∧ (∀ j, aI S' u9 j = 0) ∧ u10 ∉ hL S ∧ u10 ∈ hL S' ∧ Kd S' u10 14 ∧ Ln S' u10 12 ∧ hR S' 917 t6 = some u10 ∧ (∀ j, aI S' u10 j = 0) ∧ hI S' 601 t4 = 0 ∧ hI S' 602 t4 = 0 ∧ hI S' 603 t4 = 0 ∧ hI S' 916 t6 = 0 ∧ hI S' 918 t6 = 0 ∧ hI S' 3 u0 = 0 ∧ hI S' 206 u2 = 0) := by
  refine ct_of (by decide) (Nat.le_of_ble_eq_true rfl) fun x hn9 C M hm9 => ?_
  have C : CB x RX11 cX11_init := C
  refine J.eq (lv' := [(0, .ref h)]) rfl rfl rfl ?_
  refine j_aload_n C dX11_init_0 rfl 0 rfl ?_
  refine j_objInit C mlX11_1 nst_oi (M.fl (by decide)) dX11_init_1 ?_
  refine j_aload_n C dX11_init_4 rfl 0 rfl ?_
  refine j_sipush (v := 8000) C dX11_init_5 (by decide) ?_
  refine j_newB (N := 8000) C ka_byte (by decide) (by decide) (Nat.le_of_ble_eq_true rfl) (M.cells (by decide)) (M.slots (Nat.le_of_ble_eq_true rfl)) dX11_init_8 (fun q_1 hq_2 => ?_)
  have hz_3 : q_1 ∉ hL S := hq_2
  refine j_putrF (f := 1100) C hm9 flX11_9o (by decide) rfl rfl dX11_init_10 (mem_old hm) (kd_nA (k := 13) (n := 8000) hq_2 hm hk) rfl ?_
  refine j_aload_n C dX11_init_13 rfl 0 rfl ?_
  refine j_sipush (v := 12000) C dX11_init_14 (by decide) ?_
  show J _ _ _ _ _ 17 _
  have hf_6 : Fm (fun f9 b9 => (f9 = 1110 ∧ b9 = h) ∨ (f9 = 1111 ∧ b9 = h)) (fun f9 b9 => b9 = h) (fun _ => False) S (sR (nA S q_1 13 8000) 1100 h (some q_1)) := (((Fm.refl (WI := (fun f9 b9 => (f9 = 1110 ∧ b9 = h) ∨ (f9 = 1111 ∧ b9 = h))) (WR := (fun f9 b9 => b9 = h)) (WA := (fun _ => False))).nA _ _ hq_2).sR _ (fun _ => rfl))
  obtain ⟨S_4, eS_5⟩ : ∃ S9 : Hp, S9 = (sR (nA S q_1 13 8000) 1100 h (some q_1)) := ⟨_, rfl⟩
  refine J.eq (S' := S_4) eS_5.symm rfl rfl ?_
  have hm_7 : h ∈ hL S_4 := by rw [eS_5]; exact (mem_old hm)
  have hk_8 : Kd S_4 h 11 := by rw [eS_5]; exact (kd_nA (k := 13) (n := 8000) hq_2 hm hk)
  have hm_9 : q_1 ∈ hL S_4 := by rw [eS_5]; exact mem_new
  have hk_10 : Kd S_4 q_1 13 := by rw [eS_5]; exact (kd_nA' (k := 13) (n := 8000))
  have hn_11 : Ln S_4 q_1 8000 := by rw [eS_5]; exact (ln_nA' (k := 13))
  have hz_12 : ∀ j, aI S_4 q_1 j = 0 := by rw [eS_5]; exact (fun j9 => rd_nAI' (k := 13) (n := 8000))
  have hv_13 : hR S_4 1100 h = (some q_1) := by rw [eS_5]; exact (rd_sR (S := (nA S q_1 13 8000)) (g := 1100) (a := h) (v := (some q_1)))
  have hf_14 : Fm (fun f9 b9 => (f9 = 1110 ∧ b9 = h) ∨ (f9 = 1111 ∧ b9 = h)) (fun f9 b9 => b9 = h) (fun _ => False) S S_4 := by rw [eS_5]; exact hf_6
  refine j_newB (N := 12000) C ka_byte (by decide) (by decide) (Nat.le_of_ble_eq_true rfl) (M.cells (by decide)) (M.slots (Nat.le_of_ble_eq_true rfl)) dX11_init_17 (fun q_15 hq_16 => ?_)
  have hz_17 : q_15 ∉ hL S := fun h9 => hq_16 (hf_14.mem h9)
  refine j_putrF (f := 1102) C hm9 flX11_13o (by decide) rfl rfl dX11_init_19 (mem_old hm_7) (kd_nA (k := 13) (n := 12000) hq_16 hm_7 hk_8) rfl ?_
  refine j_aload_n C dX11_init_22 rfl 0 rfl ?_
  refine j_bipush (v := 6) C dX11_init_23 (by decide) ?_
  have hf_20 : Fm (fun f9 b9 => (f9 = 1110 ∧ b9 = h) ∨ (f9 = 1111 ∧ b9 = h)) (fun f9 b9 => b9 = h) (fun _ => False) S (sR (nA S_4 q_15 13 12000) 1102 h (some q_15)) := ((hf_14.nA _ _ hq_16).sR _ (fun _ => rfl))
  obtain ⟨S_18, eS_19⟩ : ∃ S9 : Hp, S9 = (sR (nA S_4 q_15 13 12000) 1102 h (some q_15)) := ⟨_, rfl⟩
  refine J.eq (S' := S_18) eS_19.symm rfl rfl ?_
  have hm_21 : h ∈ hL S_18 := by rw [eS_19]; exact (mem_old hm_7)
  have hk_22 : Kd S_18 h 11 := by rw [eS_19]; exact (kd_nA (k := 13) (n := 12000) hq_16 hm_7 hk_8)
  have hm_23 : q_1 ∈ hL S_18 := by rw [eS_19]; exact (mem_old hm_9)
  have hk_24 : Kd S_18 q_1 13 := by rw [eS_19]; exact (kd_nA (k := 13) (n := 12000) hq_16 hm_9 hk_10)
  have hn_25 : Ln S_18 q_1 8000 := by rw [eS_19]; exact (ln_nA (k := 13) hq_16 hm_9 hn_11)
  have hz_26 : ∀ j, aI S_18 q_1 j = 0 := by rw [eS_19]; exact (fun j9 => rd_nAI (k := 13) (n := 12000) hq_16 hm_9 (hz_12 j9))
  have hm_27 : q_15 ∈ hL S_18 := by rw [eS_19]; exact mem_new
  have hk_28 : Kd S_18 q_15 13 := by rw [eS_19]; exact (kd_nA' (k := 13) (n := 12000))
  have hn_29 : Ln S_18 q_15 12000 := by rw [eS_19]; exact (ln_nA' (k := 13))
  have hz_30 : ∀ j, aI S_18 q_15 j = 0 := by rw [eS_19]; exact (fun j9 => rd_nAI' (k := 13) (n := 12000))
  have hv_31 : hR S_18 1100 h = (some q_1) := by rw [eS_19]; exact (rd_sRf (S := (nA S_4 q_15 13 12000)) (g := 1102) (a := h) (v := (some q_15)) (by decide) hv_13)
  have hv_32 : hR S_18 1102 h = (some q_15) := by rw [eS_19]; exact (rd_sR (S := (nA S_4 q_15 13 12000)) (g := 1102) (a := h) (v := (some q_15)))
  have hf_33 : Fm (fun f9 b9 => (f9 = 1110 ∧ b9 = h) ∨ (f9 = 1111 ∧ b9 = h)) (fun f9 b9 => b9 = h) (fun _ => False) S S_18 := by rw [eS_19]; exact hf_20
  refine j_newI (N := 6) C ka_int (by decide) (by decide) (Nat.le_of_ble_eq_true rfl) (M.cells (by decide)) (M.slots (Nat.le_of_ble_eq_true rfl)) dX11_init_25 (fun q_34 hq_35 => ?_)
  have hz_36 : q_34 ∉ hL S := fun h9 => hq_35 (hf_33.mem h9)
  refine j_putrF (f := 1103) C hm9 flX11_16o (by decide) rfl rfl dX11_init_27 (mem_old hm_21) (kd_nA (k := 14) (n := 6) hq_35 hm_21 hk_22) rfl ?_
  refine j_aload_n C dX11_init_30 rfl 0 rfl ?_
  refine j_bipush (v := 7) C dX11_init_31 (by decide) ?_
  show J _ _ _ _ _ 33 _
  have hf_39 : Fm (fun f9 b9 => (f9 = 1110 ∧ b9 = h) ∨ (f9 = 1111 ∧ b9 = h)) (fun f9 b9 => b9 = h) (fun _ => False) S (sR (nA S_18 q_34 14 6) 1103 h (some q_34)) := ((hf_33.nA _ _ hq_35).sR _ (fun _ => rfl))
  obtain ⟨S_37, eS_38⟩ : ∃ S9 : Hp, S9 = (sR (nA S_18 q_34 14 6) 1103 h (some q_34)) := ⟨_, rfl⟩
  refine J.eq (S' := S_37) eS_38.symm rfl rfl ?_
  have hm_40 : h ∈ hL S_37 := by rw [eS_38]; exact (mem_old hm_21)
  have hk_41 : Kd S_37 h 11 := by rw [eS_38]; exact (kd_nA (k := 14) (n := 6) hq_35 hm_21 hk_22)
  have hm_42 : q_1 ∈ hL S_37 := by rw [eS_38]; exact (mem_old hm_23)
  have hk_43 : Kd S_37 q_1 13 := by rw [eS_38]; exact (kd_nA (k := 14) (n := 6) hq_35 hm_23 hk_24)
  have hn_44 : Ln S_37 q_1 8000 := by rw [eS_38]; exact (ln_nA (k := 14) hq_35 hm_23 hn_25)
  have hz_45 : ∀ j, aI S_37 q_1 j = 0 := by rw [eS_38]; exact (fun j9 => rd_nAI (k := 14) (n := 6) hq_35 hm_23 (hz_26 j9))
  have hm_46 : q_15 ∈ hL S_37 := by rw [eS_38]; exact (mem_old hm_27)
  have hk_47 : Kd S_37 q_15 13 := by rw [eS_38]; exact (kd_nA (k := 14) (n := 6) hq_35 hm_27 hk_28)
  have hn_48 : Ln S_37 q_15 12000 := by rw [eS_38]; exact (ln_nA (k := 14) hq_35 hm_27 hn_29)
  have hz_49 : ∀ j, aI S_37 q_15 j = 0 := by rw [eS_38]; exact (fun j9 => rd_nAI (k := 14) (n := 6) hq_35 hm_27 (hz_30 j9))
  have hm_50 : q_34 ∈ hL S_37 := by rw [eS_38]; exact mem_new
  have hk_51 : Kd S_37 q_34 14 := by rw [eS_38]; exact (kd_nA' (k := 14) (n := 6))
  have hn_52 : Ln S_37 q_34 6 := by rw [eS_38]; exact (ln_nA' (k := 14))
  have hz_53 : ∀ j, aI S_37 q_34 j = 0 := by rw [eS_38]; exact (fun j9 => rd_nAI' (k := 14) (n := 6))
  have hv_54 : hR S_37 1100 h = (some q_1) := by rw [eS_38]; exact (rd_sRf (S := (nA S_18 q_34 14 6)) (g := 1103) (a := h) (v := (some q_34)) (by decide) hv_31)
  have hv_55 : hR S_37 1102 h = (some q_15) := by rw [eS_38]; exact (rd_sRf (S := (nA S_18 q_34 14 6)) (g := 1103) (a := h) (v := (some q_34)) (by decide) hv_32)
  have hv_56 : hR S_37 1103 h = (some q_34) := by rw [eS_38]; exact (rd_sR (S := (nA S_18 q_34 14 6)) (g := 1103) (a := h) (v := (some q_34)))
  have hf_57 : Fm (fun f9 b9 => (f9 = 1110 ∧ b9 = h) ∨ (f9 = 1111 ∧ b9 = h)) (fun f9 b9 => b9 = h) (fun _ => False) S S_37 := by rw [eS_38]; exact hf_39
  refine j_newI (N := 7) C ka_int (by decide) (by decide) (Nat.le_of_ble_eq_true rfl) (M.cells (by decide)) (M.slots (Nat.le_of_ble_eq_true rfl)) dX11_init_33 (fun q_58 hq_59 => ?_)
  have hz_60 : q_58 ∉ hL S := fun h9 => hq_59 (hf_57.mem h9)
  refine j_putrF (f := 1104) C hm9 flX11_20o (by decide) rfl rfl dX11_init_35 (mem_old hm_40) (kd_nA (k := 14) (n := 7) hq_59 hm_40 hk_41) rfl ?_
  refine j_aload_n C dX11_init_38 rfl 0 rfl ?_
  refine j_iconst (v := (-1)) C dX11_init_39 (by decide) ?_
  refine j_puti (f := 1110) C flX11_23 (by decide) rfl rfl dX11_init_40 (mem_old hm_40) (kd_nA (k := 14) (n := 7) hq_59 hm_40 hk_41) rfl ?_
  refine j_aload_n C dX11_init_43 rfl 0 rfl ?_
  refine j_iconst (v := (-1)) C dX11_init_44 (by decide) ?_
  refine j_puti (f := 1111) C flX11_27 (by decide) rfl rfl dX11_init_45 (mem_old hm_40) (kd_nA (k := 14) (n := 7) hq_59 hm_40 hk_41) rfl ?_
  show J _ _ _ _ _ 48 _
  refine j_aload_n C dX11_init_48 rfl 0 rfl ?_
  have hf_63 : Fm (fun f9 b9 => (f9 = 1110 ∧ b9 = h) ∨ (f9 = 1111 ∧ b9 = h)) (fun f9 b9 => b9 = h) (fun _ => False) S (sI (sI (sR (nA S_37 q_58 14 7) 1104 h (some q_58)) 1110 h (-1)) 1111 h (-1)) := ((((hf_57.nA _ _ hq_59).sR _ (fun _ => rfl)).sI _ (fun _ => (Or.inl ⟨rfl, rfl⟩))).sI _ (fun _ => (Or.inr ⟨rfl, rfl⟩)))
  obtain ⟨S_61, eS_62⟩ : ∃ S9 : Hp, S9 = (sI (sI (sR (nA S_37 q_58 14 7) 1104 h (some q_58)) 1110 h (-1)) 1111 h (-1)) := ⟨_, rfl⟩
  refine J.eq (S' := S_61) eS_62.symm rfl rfl ?_
  have hm_64 : h ∈ hL S_61 := by rw [eS_62]; exact (mem_old hm_40)
  have hk_65 : Kd S_61 h 11 := by rw [eS_62]; exact (kd_nA (k := 14) (n := 7) hq_59 hm_40 hk_41)
  have hm_66 : q_1 ∈ hL S_61 := by rw [eS_62]; exact (mem_old hm_42)
  have hk_67 : Kd S_61 q_1 13 := by rw [eS_62]; exact (kd_nA (k := 14) (n := 7) hq_59 hm_42 hk_43)
  have hn_68 : Ln S_61 q_1 8000 := by rw [eS_62]; exact (ln_nA (k := 14) hq_59 hm_42 hn_44)
  have hz_69 : ∀ j, aI S_61 q_1 j = 0 := by rw [eS_62]; exact (fun j9 => rd_nAI (k := 14) (n := 7) hq_59 hm_42 (hz_45 j9))
  have hm_70 : q_15 ∈ hL S_61 := by rw [eS_62]; exact (mem_old hm_46)
  have hk_71 : Kd S_61 q_15 13 := by rw [eS_62]; exact (kd_nA (k := 14) (n := 7) hq_59 hm_46 hk_47)
  have hn_72 : Ln S_61 q_15 12000 := by rw [eS_62]; exact (ln_nA (k := 14) hq_59 hm_46 hn_48)
  have hz_73 : ∀ j, aI S_61 q_15 j = 0 := by rw [eS_62]; exact (fun j9 => rd_nAI (k := 14) (n := 7) hq_59 hm_46 (hz_49 j9))
  have hm_74 : q_34 ∈ hL S_61 := by rw [eS_62]; exact (mem_old hm_50)
  have hk_75 : Kd S_61 q_34 14 := by rw [eS_62]; exact (kd_nA (k := 14) (n := 7) hq_59 hm_50 hk_51)
  have hn_76 : Ln S_61 q_34 6 := by rw [eS_62]; exact (ln_nA (k := 14) hq_59 hm_50 hn_52)
  have hz_77 : ∀ j, aI S_61 q_34 j = 0 := by rw [eS_62]; exact (fun j9 => rd_nAI (k := 14) (n := 7) hq_59 hm_50 (hz_53 j9))
  have hm_78 : q_58 ∈ hL S_61 := by rw [eS_62]; exact mem_new
  have hk_79 : Kd S_61 q_58 14 := by rw [eS_62]; exact (kd_nA' (k := 14) (n := 7))
  have hn_80 : Ln S_61 q_58 7 := by rw [eS_62]; exact (ln_nA' (k := 14))
  have hz_81 : ∀ j, aI S_61 q_58 j = 0 := by rw [eS_62]; exact (fun j9 => rd_nAI' (k := 14) (n := 7))
  have hv_82 : hI S_61 1110 h = (-1) := by rw [eS_62]; exact (rd_sIf (S := (sI (sR (nA S_37 q_58 14 7) 1104 h (some q_58)) 1110 h (-1))) (g := 1111) (a := h) (v := (-1)) (by decide) (rd_sI (S := (sR (nA S_37 q_58 14 7) 1104 h (some q_58))) (g := 1110) (a := h) (v := (-1))))
  have hv_83 : hI S_61 1111 h = (-1) := by rw [eS_62]; exact (rd_sI (S := (sI (sR (nA S_37 q_58 14 7) 1104 h (some q_58)) 1110 h (-1))) (g := 1111) (a := h) (v := (-1)))
  have hv_84 : hR S_61 1100 h = (some q_1) := by rw [eS_62]; exact (rd_sRf (S := (nA S_37 q_58 14 7)) (g := 1104) (a := h) (v := (some q_58)) (by decide) hv_54)
  have hv_85 : hR S_61 1102 h = (some q_15) := by rw [eS_62]; exact (rd_sRf (S := (nA S_37 q_58 14 7)) (g := 1104) (a := h) (v := (some q_58)) (by decide) hv_55)
  have hv_86 : hR S_61 1103 h = (some q_34) := by rw [eS_62]; exact (rd_sRf (S := (nA S_37 q_58 14 7)) (g := 1104) (a := h) (v := (some q_58)) (by decide) hv_56)
  have hv_87 : hR S_61 1104 h = (some q_58) := by rw [eS_62]; exact (rd_sR (S := (nA S_37 q_58 14 7)) (g := 1104) (a := h) (v := (some q_58)))
  have hf_88 : Fm (fun f9 b9 => (f9 = 1110 ∧ b9 = h) ∨ (f9 = 1111 ∧ b9 = h)) (fun f9 b9 => b9 = h) (fun _ => False) S S_61 := by rw [eS_62]; exact hf_63
  refine j_new (N := 10) C (ci := 6) rfl rfl klX11_30 knX6 kiX6 (M.cells (by decide)) (M.slots (by decide)) dX11_init_49 (fun q_89 hq_90 => ?_)
  have hz_91 : q_89 ∉ hL S := fun h9 => hq_90 (hf_88.mem h9)
  refine j_dup C dX11_init_52 rfl ?_
  have hf_92 : Fm (fun f9 b9 => (f9 = 1110 ∧ b9 = h) ∨ (f9 = 1111 ∧ b9 = h)) (fun f9 b9 => b9 = h) (fun _ => False) S (nO S_61 q_89 6) := (hf_88.nO _ hq_90)
  refine j_callI C [] [.ref q_89, .ref h] mlX11_32 mcX6_init (c_X6_init (nO S_61 q_89 6) q_89 mem_new (kd_nO' (k := 6))) (M.rm (by decide) (by decide) (Nat.le_of_ble_eq_true rfl) (Nat.le_of_ble_eq_true rfl)) rfl rfl (Nat.le_of_ble_eq_true rfl) dX11_init_53 (fun r_100 S_101 hp_102 => ?_)
  obtain ⟨rfl, hf_103, q_93, e_94, e_95, e_96, e_97, e_98, e_99⟩ := hp_102
  refine J.eq (st' := [.ref q_89, .ref h]) rfl rfl rfl ?_
  have hz_104 : ∀ j, aI S_101 q_1 j = 0 := fun j9 => (hf_103.ai (mem_old hm_66) (fun h9 => h9) j9).trans (hz_69 j9)
  have hz_105 : ∀ j, aI S_101 q_15 j = 0 := fun j9 => (hf_103.ai (mem_old hm_70) (fun h9 => h9) j9).trans (hz_73 j9)
  have hz_106 : ∀ j, aI S_101 q_34 j = 0 := fun j9 => (hf_103.ai (mem_old hm_74) (fun h9 => h9) j9).trans (hz_77 j9)
  have hz_107 : ∀ j, aI S_101 q_58 j = 0 := fun j9 => (hf_103.ai (mem_old hm_78) (fun h9 => h9) j9).trans (hz_81 j9)
  have hm_108 : h ∈ hL S_101 := hf_103.mem (mem_old hm_64)
  have hk_109 : Kd S_101 h 11 := hf_103.kd (mem_old hm_64) (kd_nO (k := 6) hq_90 hm_64 hk_65)
  have hm_110 : q_1 ∈ hL S_101 := hf_103.mem (mem_old hm_66)
  have hk_111 : Kd S_101 q_1 13 := hf_103.kd (mem_old hm_66) (kd_nO (k := 6) hq_90 hm_66 hk_67)
  have hn_112 : Ln S_101 q_1 8000 := hf_103.ln (mem_old hm_66) hn_68
  have hm_113 : q_15 ∈ hL S_101 := hf_103.mem (mem_old hm_70)
  have hk_114 : Kd S_101 q_15 13 := hf_103.kd (mem_old hm_70) (kd_nO (k := 6) hq_90 hm_70 hk_71)
  have hn_115 : Ln S_101 q_15 12000 := hf_103.ln (mem_old hm_70) hn_72
  have hm_116 : q_34 ∈ hL S_101 := hf_103.mem (mem_old hm_74)
  have hk_117 : Kd S_101 q_34 14 := hf_103.kd (mem_old hm_74) (kd_nO (k := 6) hq_90 hm_74 hk_75)
  have hn_118 : Ln S_101 q_34 6 := hf_103.ln (mem_old hm_74) hn_76
  have hm_119 : q_58 ∈ hL S_101 := hf_103.mem (mem_old hm_78)
  have hk_120 : Kd S_101 q_58 14 := hf_103.kd (mem_old hm_78) (kd_nO (k := 6) hq_90 hm_78 hk_79)
  have hn_121 : Ln S_101 q_58 7 := hf_103.ln (mem_old hm_78) hn_80
  have hm_122 : q_89 ∈ hL S_101 := hf_103.mem mem_new
  have hk_123 : Kd S_101 q_89 6 := hf_103.kd mem_new (kd_nO' (k := 6))
  have hv_124 : hI S_101 1110 h = (-1) := hf_103.fi (mem_old hm_64) (fun h9 => h9) (rd_nOI (k := 6) hq_90 hm_64 hv_82)
  have hv_125 : hI S_101 1111 h = (-1) := hf_103.fi (mem_old hm_64) (fun h9 => h9) (rd_nOI (k := 6) hq_90 hm_64 hv_83)
  have hv_126 : hI S_101 601 q_89 = 0 := hf_103.fi mem_new (fun h9 => h9) (rd_nOI' (k := 6))
  have hv_127 : hI S_101 602 q_89 = 0 := hf_103.fi mem_new (fun h9 => h9) (rd_nOI' (k := 6))
  have hv_128 : hI S_101 603 q_89 = 0 := hf_103.fi mem_new (fun h9 => h9) (rd_nOI' (k := 6))
  have hv_129 : hR S_101 1100 h = (some q_1) := hf_103.fr (mem_old hm_64) (fun q9 => (fun e9 => absurd (((kd_nO (k := 6) hq_90 hm_64 hk_65)).symm.trans ((congrArg (hK _) e9).trans (kd_nO' (k := 6)))) (by decide)) q9) (rd_nOR (k := 6) hq_90 hm_64 hv_84)
  have hv_130 : hR S_101 1102 h = (some q_15) := hf_103.fr (mem_old hm_64) (fun q9 => (fun e9 => absurd (((kd_nO (k := 6) hq_90 hm_64 hk_65)).symm.trans ((congrArg (hK _) e9).trans (kd_nO' (k := 6)))) (by decide)) q9) (rd_nOR (k := 6) hq_90 hm_64 hv_85)
  have hv_131 : hR S_101 1103 h = (some q_34) := hf_103.fr (mem_old hm_64) (fun q9 => (fun e9 => absurd (((kd_nO (k := 6) hq_90 hm_64 hk_65)).symm.trans ((congrArg (hK _) e9).trans (kd_nO' (k := 6)))) (by decide)) q9) (rd_nOR (k := 6) hq_90 hm_64 hv_86)
  have hv_132 : hR S_101 1104 h = (some q_58) := hf_103.fr (mem_old hm_64) (fun q9 => (fun e9 => absurd (((kd_nO (k := 6) hq_90 hm_64 hk_65)).symm.trans ((congrArg (hK _) e9).trans (kd_nO' (k := 6)))) (by decide)) q9) (rd_nOR (k := 6) hq_90 hm_64 hv_87)
  have hf_133 : Fm (fun f9 b9 => (f9 = 1110 ∧ b9 = h) ∨ (f9 = 1111 ∧ b9 = h)) (fun f9 b9 => b9 = h) (fun _ => False) S S_101 := hf_92.then hf_103 (fun a9 ha9 => ⟨(fun f9 h9 => h9.elim), (fun f9 h9 => (fun h8 => absurd (h8 ▸ ha9) hz_91) h9), (fun h9 => h9.elim)⟩)
  have hz_134 : q_93 ∉ hL S := fun h9 => e_94 (hf_92.mem h9)
  refine j_putrF (f := 1106) C hm9 flX11_33o (by decide) rfl rfl dX11_init_56 hm_108 hk_109 rfl ?_
  refine j_aload_n C dX11_init_59 rfl 0 rfl ?_
  have hf_137 : Fm (fun f9 b9 => (f9 = 1110 ∧ b9 = h) ∨ (f9 = 1111 ∧ b9 = h)) (fun f9 b9 => b9 = h) (fun _ => False) S (sR S_101 1106 h (some q_89)) := (hf_133.sR _ (fun _ => rfl))
  refine j_new (N := 19) C (ci := 9) rfl rfl klX11_37 knX9 kiX9 (M.cells (by decide)) (M.slots (by decide)) dX11_init_60 (fun q_135 hq_136 => ?_)
  have hz_138 : q_135 ∉ hL S := fun h9 => hq_136 (hf_137.mem h9)
  refine j_dup C dX11_init_63 rfl ?_
  show J _ _ _ _ _ 64 _
  refine j_aload_n C dX11_init_64 rfl 0 rfl ?_
  refine j_getr (f := 1106) (v := q_89) C flX11_33 dX11_init_65 (mem_old hm_108) (kd_nO (k := 9) hq_136 hm_108 hk_109) (by decide) rfl (rd_nOR (k := 9) hq_136 hm_108 (rd_sR (S := S_101) (g := 1106) (a := h) (v := (some q_89)))) ?_
  have hf_139 : Fm (fun f9 b9 => (f9 = 1110 ∧ b9 = h) ∨ (f9 = 1111 ∧ b9 = h)) (fun f9 b9 => b9 = h) (fun _ => False) S (nO (sR S_101 1106 h (some q_89)) q_135 9) := (hf_137.nO _ hq_136)
  refine j_callI C [.ref q_89] [.ref q_135, .ref h] mlX11_39 mcX9_init (c_X9_init (nO (sR S_101 1106 h (some q_89)) q_135 9) q_135 mem_new (kd_nO' (k := 9)) q_89) (M.rm (by decide) (by decide) (Nat.le_of_ble_eq_true rfl) (Nat.le_of_ble_eq_true rfl)) rfl rfl (Nat.le_of_ble_eq_true rfl) dX11_init_68 (fun r_209 S_210 hp_211 => ?_)
  obtain ⟨rfl, hf_212, q_140, q_141, q_142, q_143, q_144, q_145, q_146, q_147, q_148, q_149, q_150, e_151, e_152, e_153, e_154, e_155, e_156, e_157, e_158, e_159, e_160, e_161, e_162, e_163, e_164, e_165, e_166, e_167, e_168, e_169, e_170, e_171, e_172, e_173, e_174, e_175, e_176, e_177, e_178, e_179, e_180, e_181, e_182, e_183, e_184, e_185, e_186, e_187, e_188, e_189, e_190, e_191, e_192, e_193, e_194, e_195, e_196, e_197, e_198, e_199, e_200, e_201, e_202, e_203, e_204, e_205, e_206, e_207, e_208⟩ := hp_211
  refine J.eq (st' := [.ref q_135, .ref h]) rfl rfl rfl ?_
  have hz_213 : ∀ j, aI S_210 q_1 j = 0 := fun j9 => (hf_212.ai (mem_old hm_110) (fun h9 => h9) j9).trans (hz_104 j9)
  have hz_214 : ∀ j, aI S_210 q_15 j = 0 := fun j9 => (hf_212.ai (mem_old hm_113) (fun h9 => h9) j9).trans (hz_105 j9)
  have hz_215 : ∀ j, aI S_210 q_34 j = 0 := fun j9 => (hf_212.ai (mem_old hm_116) (fun h9 => h9) j9).trans (hz_106 j9)
  have hz_216 : ∀ j, aI S_210 q_58 j = 0 := fun j9 => (hf_212.ai (mem_old hm_119) (fun h9 => h9) j9).trans (hz_107 j9)
  have hz_217 : ∀ j, aI S_210 q_93 j = 0 := fun j9 => (hf_212.ai (mem_old e_95) (fun h9 => h9) j9).trans (e_99 j9)
  have hm_218 : h ∈ hL S_210 := hf_212.mem (mem_old hm_108)
  have hk_219 : Kd S_210 h 11 := hf_212.kd (mem_old hm_108) (kd_nO (k := 9) hq_136 hm_108 hk_109)
  have hm_220 : q_1 ∈ hL S_210 := hf_212.mem (mem_old hm_110)
  have hk_221 : Kd S_210 q_1 13 := hf_212.kd (mem_old hm_110) (kd_nO (k := 9) hq_136 hm_110 hk_111)
  have hn_222 : Ln S_210 q_1 8000 := hf_212.ln (mem_old hm_110) hn_112
  have hm_223 : q_135 ∈ hL S_210 := hf_212.mem mem_new
  have hk_224 : Kd S_210 q_135 9 := hf_212.kd mem_new (kd_nO' (k := 9))
  have hm_225 : q_15 ∈ hL S_210 := hf_212.mem (mem_old hm_113)
  have hk_226 : Kd S_210 q_15 13 := hf_212.kd (mem_old hm_113) (kd_nO (k := 9) hq_136 hm_113 hk_114)
  have hn_227 : Ln S_210 q_15 12000 := hf_212.ln (mem_old hm_113) hn_115
  have hm_228 : q_34 ∈ hL S_210 := hf_212.mem (mem_old hm_116)
  have hk_229 : Kd S_210 q_34 14 := hf_212.kd (mem_old hm_116) (kd_nO (k := 9) hq_136 hm_116 hk_117)
  have hn_230 : Ln S_210 q_34 6 := hf_212.ln (mem_old hm_116) hn_118
  have hm_231 : q_58 ∈ hL S_210 := hf_212.mem (mem_old hm_119)
  have hk_232 : Kd S_210 q_58 14 := hf_212.kd (mem_old hm_119) (kd_nO (k := 9) hq_136 hm_119 hk_120)
  have hn_233 : Ln S_210 q_58 7 := hf_212.ln (mem_old hm_119) hn_121
  have hm_234 : q_89 ∈ hL S_210 := hf_212.mem (mem_old hm_122)
  have hk_235 : Kd S_210 q_89 6 := hf_212.kd (mem_old hm_122) (kd_nO (k := 9) hq_136 hm_122 hk_123)
  have hm_236 : q_93 ∈ hL S_210 := hf_212.mem (mem_old e_95)
  have hk_237 : Kd S_210 q_93 13 := hf_212.kd (mem_old e_95) (kd_nO (k := 9) hq_136 e_95 e_96)
  have hn_238 : Ln S_210 q_93 60000 := hf_212.ln (mem_old e_95) e_97
  have hv_239 : hI S_210 1110 h = (-1) := hf_212.fi (mem_old hm_108) (fun h9 => h9) (rd_nOI (k := 9) hq_136 hm_108 hv_124)
  have hv_240 : hI S_210 1111 h = (-1) := hf_212.fi (mem_old hm_108) (fun h9 => h9) (rd_nOI (k := 9) hq_136 hm_108 hv_125)
  have hv_241 : hI S_210 601 q_89 = 0 := hf_212.fi (mem_old hm_122) (fun h9 => h9) (rd_nOI (k := 9) hq_136 hm_122 hv_126)
  have hv_242 : hI S_210 602 q_89 = 0 := hf_212.fi (mem_old hm_122) (fun h9 => h9) (rd_nOI (k := 9) hq_136 hm_122 hv_127)
  have hv_243 : hI S_210 603 q_89 = 0 := hf_212.fi (mem_old hm_122) (fun h9 => h9) (rd_nOI (k := 9) hq_136 hm_122 hv_128)
  have hv_244 : hI S_210 914 q_135 = 0 := hf_212.fi mem_new (fun h9 => h9) (rd_nOI' (k := 9))
  have hv_245 : hI S_210 916 q_135 = 0 := hf_212.fi mem_new (fun h9 => h9) (rd_nOI' (k := 9))
  have hv_246 : hI S_210 918 q_135 = 0 := hf_212.fi mem_new (fun h9 => h9) (rd_nOI' (k := 9))
  have hv_247 : hR S_210 1100 h = (some q_1) := hf_212.fr (mem_old hm_108) (fun q9 => (fun e9 => absurd (((kd_nO (k := 9) hq_136 hm_108 hk_109)).symm.trans ((congrArg (hK _) e9).trans (kd_nO' (k := 9)))) (by decide)) q9) (rd_nOR (k := 9) hq_136 hm_108 (rd_sRf (S := S_101) (g := 1106) (a := h) (v := (some q_89)) (by decide) hv_129))
  have hv_248 : hR S_210 1102 h = (some q_15) := hf_212.fr (mem_old hm_108) (fun q9 => (fun e9 => absurd (((kd_nO (k := 9) hq_136 hm_108 hk_109)).symm.trans ((congrArg (hK _) e9).trans (kd_nO' (k := 9)))) (by decide)) q9) (rd_nOR (k := 9) hq_136 hm_108 (rd_sRf (S := S_101) (g := 1106) (a := h) (v := (some q_89)) (by decide) hv_130))
  have hv_249 : hR S_210 1103 h = (some q_34) := hf_212.fr (mem_old hm_108) (fun q9 => (fun e9 => absurd (((kd_nO (k := 9) hq_136 hm_108 hk_109)).symm.trans ((congrArg (hK _) e9).trans (kd_nO' (k := 9)))) (by decide)) q9) (rd_nOR (k := 9) hq_136 hm_108 (rd_sRf (S := S_101) (g := 1106) (a := h) (v := (some q_89)) (by decide) hv_131))
  have hv_250 : hR S_210 1104 h = (some q_58) := hf_212.fr (mem_old hm_108) (fun q9 => (fun e9 => absurd (((kd_nO (k := 9) hq_136 hm_108 hk_109)).symm.trans ((congrArg (hK _) e9).trans (kd_nO' (k := 9)))) (by decide)) q9) (rd_nOR (k := 9) hq_136 hm_108 (rd_sRf (S := S_101) (g := 1106) (a := h) (v := (some q_89)) (by decide) hv_132))
  have hv_251 : hR S_210 1106 h = (some q_89) := hf_212.fr (mem_old hm_108) (fun q9 => (fun e9 => absurd (((kd_nO (k := 9) hq_136 hm_108 hk_109)).symm.trans ((congrArg (hK _) e9).trans (kd_nO' (k := 9)))) (by decide)) q9) (rd_nOR (k := 9) hq_136 hm_108 (rd_sR (S := S_101) (g := 1106) (a := h) (v := (some q_89))))
  have hv_252 : hR S_210 600 q_89 = (some q_93) := hf_212.fr (mem_old hm_122) (fun q9 => (fun e9 => absurd (((kd_nO (k := 9) hq_136 hm_122 hk_123)).symm.trans ((congrArg (hK _) e9).trans (kd_nO' (k := 9)))) (by decide)) q9) (rd_nOR (k := 9) hq_136 hm_122 (rd_sRf (S := S_101) (g := 1106) (a := h) (v := (some q_89)) (by decide) e_98))
  have hf_253 : Fm (fun f9 b9 => (f9 = 1110 ∧ b9 = h) ∨ (f9 = 1111 ∧ b9 = h)) (fun f9 b9 => b9 = h) (fun _ => False) S S_210 := hf_139.then hf_212 (fun a9 ha9 => ⟨(fun f9 h9 => h9.elim), (fun f9 h9 => (fun h8 => absurd (h8 ▸ ha9) hz_138) h9), (fun h9 => h9.elim)⟩)
  have hz_254 : q_140 ∉ hL S := fun h9 => e_151 (hf_139.mem h9)
  have hz_255 : q_141 ∉ hL S := fun h9 => e_155 (hf_139.mem h9)
  have hz_256 : q_142 ∉ hL S := fun h9 => e_161 (hf_139.mem h9)
  have hz_257 : q_143 ∉ hL S := fun h9 => e_165 (hf_139.mem h9)
  have hz_258 : q_144 ∉ hL S := fun h9 => e_169 (hf_139.mem h9)
  have hz_259 : q_145 ∉ hL S := fun h9 => e_175 (hf_139.mem h9)
  have hz_260 : q_146 ∉ hL S := fun h9 => e_179 (hf_139.mem h9)
  have hz_261 : q_147 ∉ hL S := fun h9 => e_185 (hf_139.mem h9)
  have hz_262 : q_148 ∉ hL S := fun h9 => e_189 (hf_139.mem h9)
  have hz_263 : q_149 ∉ hL S := fun h9 => e_195 (hf_139.mem h9)
  have hz_264 : q_150 ∉ hL S := fun h9 => e_201 (hf_139.mem h9)
  refine j_putrF (f := 1107) C hm9 flX11_42o (by decide) rfl rfl dX11_init_71 hm_218 hk_219 rfl ?_
  refine j_aload_n C dX11_init_74 rfl 0 rfl ?_
  have hf_267 : Fm (fun f9 b9 => (f9 = 1110 ∧ b9 = h) ∨ (f9 = 1111 ∧ b9 = h)) (fun f9 b9 => b9 = h) (fun _ => False) S (sR S_210 1107 h (some q_135)) := (hf_253.sR _ (fun _ => rfl))
  refine j_new (N := 21) C (ci := 3) rfl rfl klX11_46 knX3 kiX3 (M.cells (by decide)) (M.slots (by decide)) dX11_init_75 (fun q_265 hq_266 => ?_)
  have hz_268 : q_265 ∉ hL S := fun h9 => hq_266 (hf_267.mem h9)
  refine j_dup C dX11_init_78 rfl ?_
  refine j_aload_n C dX11_init_79 rfl 0 rfl ?_
  show J _ _ _ _ _ 80 _
  refine j_getr (f := 1106) (v := q_89) C flX11_33 dX11_init_80 (mem_old hm_218) (kd_nO (k := 3) hq_266 hm_218 hk_219) (by decide) rfl (rd_nOR (k := 3) hq_266 hm_218 (rd_sRf (S := S_210) (g := 1107) (a := h) (v := (some q_135)) (by decide) hv_251)) ?_
  have hf_269 : Fm (fun f9 b9 => (f9 = 1110 ∧ b9 = h) ∨ (f9 = 1111 ∧ b9 = h)) (fun f9 b9 => b9 = h) (fun _ => False) S (nO (sR S_210 1107 h (some q_135)) q_265 3) := (hf_267.nO _ hq_266)
  refine j_callI C [.ref q_89] [.ref q_265, .ref h] mlX11_48 mcX3_init (c_X3_init (nO (sR S_210 1107 h (some q_135)) q_265 3) q_265 mem_new (kd_nO' (k := 3)) q_89) (M.rm (by decide) (by decide) (Nat.le_of_ble_eq_true rfl) (Nat.le_of_ble_eq_true rfl)) rfl rfl (Nat.le_of_ble_eq_true rfl) dX11_init_83 (fun r_270 S_271 hp_272 => ?_)
  obtain ⟨rfl, hf_273⟩ := hp_272
  refine J.eq (st' := [.ref q_265, .ref h]) rfl rfl rfl ?_
  have hz_274 : ∀ j, aI S_271 q_1 j = 0 := fun j9 => (hf_273.ai (mem_old hm_220) (fun h9 => h9) j9).trans (hz_213 j9)
  have hz_275 : ∀ j, aI S_271 q_141 j = 0 := fun j9 => (hf_273.ai (mem_old e_156) (fun h9 => h9) j9).trans (e_160 j9)
  have hz_276 : ∀ j, aI S_271 q_144 j = 0 := fun j9 => (hf_273.ai (mem_old e_170) (fun h9 => h9) j9).trans (e_174 j9)
  have hz_277 : ∀ j, aI S_271 q_146 j = 0 := fun j9 => (hf_273.ai (mem_old e_180) (fun h9 => h9) j9).trans (e_184 j9)
  have hz_278 : ∀ j, aI S_271 q_148 j = 0 := fun j9 => (hf_273.ai (mem_old e_190) (fun h9 => h9) j9).trans (e_194 j9)
  have hz_279 : ∀ j, aI S_271 q_149 j = 0 := fun j9 => (hf_273.ai (mem_old e_196) (fun h9 => h9) j9).trans (e_200 j9)
  have hz_280 : ∀ j, aI S_271 q_15 j = 0 := fun j9 => (hf_273.ai (mem_old hm_225) (fun h9 => h9) j9).trans (hz_214 j9)
  have hz_281 : ∀ j, aI S_271 q_150 j = 0 := fun j9 => (hf_273.ai (mem_old e_202) (fun h9 => h9) j9).trans (e_206 j9)
  have hz_282 : ∀ j, aI S_271 q_34 j = 0 := fun j9 => (hf_273.ai (mem_old hm_228) (fun h9 => h9) j9).trans (hz_215 j9)
  have hz_283 : ∀ j, aI S_271 q_58 j = 0 := fun j9 => (hf_273.ai (mem_old hm_231) (fun h9 => h9) j9).trans (hz_216 j9)
  have hz_284 : ∀ j, aI S_271 q_93 j = 0 := fun j9 => (hf_273.ai (mem_old hm_236) (fun h9 => h9) j9).trans (hz_217 j9)
  have hm_285 : h ∈ hL S_271 := hf_273.mem (mem_old hm_218)
  have hk_286 : Kd S_271 h 11 := hf_273.kd (mem_old hm_218) (kd_nO (k := 3) hq_266 hm_218 hk_219)
  have hm_287 : q_1 ∈ hL S_271 := hf_273.mem (mem_old hm_220)
  have hk_288 : Kd S_271 q_1 13 := hf_273.kd (mem_old hm_220) (kd_nO (k := 3) hq_266 hm_220 hk_221)
  have hn_289 : Ln S_271 q_1 8000 := hf_273.ln (mem_old hm_220) hn_222
  have hm_290 : q_135 ∈ hL S_271 := hf_273.mem (mem_old hm_223)
  have hk_291 : Kd S_271 q_135 9 := hf_273.kd (mem_old hm_223) (kd_nO (k := 3) hq_266 hm_223 hk_224)
  have hm_292 : q_140 ∈ hL S_271 := hf_273.mem (mem_old e_152)
  have hk_293 : Kd S_271 q_140 0 := hf_273.kd (mem_old e_152) (kd_nO (k := 3) hq_266 e_152 e_153)
  have hm_294 : q_141 ∈ hL S_271 := hf_273.mem (mem_old e_156)
  have hk_295 : Kd S_271 q_141 14 := hf_273.kd (mem_old e_156) (kd_nO (k := 3) hq_266 e_156 e_157)
  have hn_296 : Ln S_271 q_141 20000 := hf_273.ln (mem_old e_156) e_158
  have hm_297 : q_142 ∈ hL S_271 := hf_273.mem (mem_old e_162)
  have hk_298 : Kd S_271 q_142 2 := hf_273.kd (mem_old e_162) (kd_nO (k := 3) hq_266 e_162 e_163)
  have hm_299 : q_143 ∈ hL S_271 := hf_273.mem (mem_old e_166)
  have hk_300 : Kd S_271 q_143 8 := hf_273.kd (mem_old e_166) (kd_nO (k := 3) hq_266 e_166 e_167)
  have hm_301 : q_144 ∈ hL S_271 := hf_273.mem (mem_old e_170)
  have hk_302 : Kd S_271 q_144 14 := hf_273.kd (mem_old e_170) (kd_nO (k := 3) hq_266 e_170 e_171)
  have hn_303 : Ln S_271 q_144 16 := hf_273.ln (mem_old e_170) e_172
  have hm_304 : q_145 ∈ hL S_271 := hf_273.mem (mem_old e_176)
  have hk_305 : Kd S_271 q_145 8 := hf_273.kd (mem_old e_176) (kd_nO (k := 3) hq_266 e_176 e_177)
  have hm_306 : q_146 ∈ hL S_271 := hf_273.mem (mem_old e_180)
  have hk_307 : Kd S_271 q_146 14 := hf_273.kd (mem_old e_180) (kd_nO (k := 3) hq_266 e_180 e_181)
  have hn_308 : Ln S_271 q_146 16 := hf_273.ln (mem_old e_180) e_182
  have hm_309 : q_147 ∈ hL S_271 := hf_273.mem (mem_old e_186)
  have hk_310 : Kd S_271 q_147 8 := hf_273.kd (mem_old e_186) (kd_nO (k := 3) hq_266 e_186 e_187)
  have hm_311 : q_148 ∈ hL S_271 := hf_273.mem (mem_old e_190)
  have hk_312 : Kd S_271 q_148 14 := hf_273.kd (mem_old e_190) (kd_nO (k := 3) hq_266 e_190 e_191)
  have hn_313 : Ln S_271 q_148 16 := hf_273.ln (mem_old e_190) e_192
  have hm_314 : q_149 ∈ hL S_271 := hf_273.mem (mem_old e_196)
  have hk_315 : Kd S_271 q_149 14 := hf_273.kd (mem_old e_196) (kd_nO (k := 3) hq_266 e_196 e_197)
  have hn_316 : Ln S_271 q_149 16 := hf_273.ln (mem_old e_196) e_198
  have hm_317 : q_15 ∈ hL S_271 := hf_273.mem (mem_old hm_225)
  have hk_318 : Kd S_271 q_15 13 := hf_273.kd (mem_old hm_225) (kd_nO (k := 3) hq_266 hm_225 hk_226)
  have hn_319 : Ln S_271 q_15 12000 := hf_273.ln (mem_old hm_225) hn_227
  have hm_320 : q_150 ∈ hL S_271 := hf_273.mem (mem_old e_202)
  have hk_321 : Kd S_271 q_150 14 := hf_273.kd (mem_old e_202) (kd_nO (k := 3) hq_266 e_202 e_203)
  have hn_322 : Ln S_271 q_150 12 := hf_273.ln (mem_old e_202) e_204
  have hm_323 : q_265 ∈ hL S_271 := hf_273.mem mem_new
  have hk_324 : Kd S_271 q_265 3 := hf_273.kd mem_new (kd_nO' (k := 3))
  have hm_325 : q_34 ∈ hL S_271 := hf_273.mem (mem_old hm_228)
  have hk_326 : Kd S_271 q_34 14 := hf_273.kd (mem_old hm_228) (kd_nO (k := 3) hq_266 hm_228 hk_229)
  have hn_327 : Ln S_271 q_34 6 := hf_273.ln (mem_old hm_228) hn_230
  have hm_328 : q_58 ∈ hL S_271 := hf_273.mem (mem_old hm_231)
  have hk_329 : Kd S_271 q_58 14 := hf_273.kd (mem_old hm_231) (kd_nO (k := 3) hq_266 hm_231 hk_232)
  have hn_330 : Ln S_271 q_58 7 := hf_273.ln (mem_old hm_231) hn_233
  have hm_331 : q_89 ∈ hL S_271 := hf_273.mem (mem_old hm_234)
  have hk_332 : Kd S_271 q_89 6 := hf_273.kd (mem_old hm_234) (kd_nO (k := 3) hq_266 hm_234 hk_235)
  have hm_333 : q_93 ∈ hL S_271 := hf_273.mem (mem_old hm_236)
  have hk_334 : Kd S_271 q_93 13 := hf_273.kd (mem_old hm_236) (kd_nO (k := 3) hq_266 hm_236 hk_237)
  have hn_335 : Ln S_271 q_93 60000 := hf_273.ln (mem_old hm_236) hn_238
  have hv_336 : hI S_271 1110 h = (-1) := hf_273.fi (mem_old hm_218) (fun h9 => h9) (rd_nOI (k := 3) hq_266 hm_218 hv_239)
  have hv_337 : hI S_271 1111 h = (-1) := hf_273.fi (mem_old hm_218) (fun h9 => h9) (rd_nOI (k := 3) hq_266 hm_218 hv_240)
  have hv_338 : hI S_271 206 q_142 = 0 := hf_273.fi (mem_old e_162) (fun h9 => h9) (rd_nOI (k := 3) hq_266 e_162 e_208)
  have hv_339 : hI S_271 3 q_140 = 0 := hf_273.fi (mem_old e_152) (fun h9 => h9) (rd_nOI (k := 3) hq_266 e_152 e_207)
  have hv_340 : hI S_271 601 q_89 = 0 := hf_273.fi (mem_old hm_234) (fun h9 => h9) (rd_nOI (k := 3) hq_266 hm_234 hv_241)
  have hv_341 : hI S_271 602 q_89 = 0 := hf_273.fi (mem_old hm_234) (fun h9 => h9) (rd_nOI (k := 3) hq_266 hm_234 hv_242)
  have hv_342 : hI S_271 603 q_89 = 0 := hf_273.fi (mem_old hm_234) (fun h9 => h9) (rd_nOI (k := 3) hq_266 hm_234 hv_243)
  have hv_343 : hI S_271 914 q_135 = 0 := hf_273.fi (mem_old hm_223) (fun h9 => h9) (rd_nOI (k := 3) hq_266 hm_223 hv_244)
  have hv_344 : hI S_271 916 q_135 = 0 := hf_273.fi (mem_old hm_223) (fun h9 => h9) (rd_nOI (k := 3) hq_266 hm_223 hv_245)
  have hv_345 : hI S_271 918 q_135 = 0 := hf_273.fi (mem_old hm_223) (fun h9 => h9) (rd_nOI (k := 3) hq_266 hm_223 hv_246)
  have hv_346 : hR S_271 0 q_140 = (some q_141) := hf_273.fr (mem_old e_152) (fun q9 => (fun e9 => absurd (((kd_nO (k := 3) hq_266 e_152 e_153)).symm.trans ((congrArg (hK _) e9).trans (kd_nO' (k := 3)))) (by decide)) q9) (rd_nOR (k := 3) hq_266 e_152 (rd_sRf (S := S_210) (g := 1107) (a := h) (v := (some q_135)) (by decide) e_159))
  have hv_347 : hR S_271 1100 h = (some q_1) := hf_273.fr (mem_old hm_218) (fun q9 => (fun e9 => absurd (((kd_nO (k := 3) hq_266 hm_218 hk_219)).symm.trans ((congrArg (hK _) e9).trans (kd_nO' (k := 3)))) (by decide)) q9) (rd_nOR (k := 3) hq_266 hm_218 (rd_sRf (S := S_210) (g := 1107) (a := h) (v := (some q_135)) (by decide) hv_247))
  have hv_348 : hR S_271 1102 h = (some q_15) := hf_273.fr (mem_old hm_218) (fun q9 => (fun e9 => absurd (((kd_nO (k := 3) hq_266 hm_218 hk_219)).symm.trans ((congrArg (hK _) e9).trans (kd_nO' (k := 3)))) (by decide)) q9) (rd_nOR (k := 3) hq_266 hm_218 (rd_sRf (S := S_210) (g := 1107) (a := h) (v := (some q_135)) (by decide) hv_248))
  have hv_349 : hR S_271 1103 h = (some q_34) := hf_273.fr (mem_old hm_218) (fun q9 => (fun e9 => absurd (((kd_nO (k := 3) hq_266 hm_218 hk_219)).symm.trans ((congrArg (hK _) e9).trans (kd_nO' (k := 3)))) (by decide)) q9) (rd_nOR (k := 3) hq_266 hm_218 (rd_sRf (S := S_210) (g := 1107) (a := h) (v := (some q_135)) (by decide) hv_249))
  have hv_350 : hR S_271 1104 h = (some q_58) := hf_273.fr (mem_old hm_218) (fun q9 => (fun e9 => absurd (((kd_nO (k := 3) hq_266 hm_218 hk_219)).symm.trans ((congrArg (hK _) e9).trans (kd_nO' (k := 3)))) (by decide)) q9) (rd_nOR (k := 3) hq_266 hm_218 (rd_sRf (S := S_210) (g := 1107) (a := h) (v := (some q_135)) (by decide) hv_250))
  have hv_351 : hR S_271 1106 h = (some q_89) := hf_273.fr (mem_old hm_218) (fun q9 => (fun e9 => absurd (((kd_nO (k := 3) hq_266 hm_218 hk_219)).symm.trans ((congrArg (hK _) e9).trans (kd_nO' (k := 3)))) (by decide)) q9) (rd_nOR (k := 3) hq_266 hm_218 (rd_sRf (S := S_210) (g := 1107) (a := h) (v := (some q_135)) (by decide) hv_251))
  have hv_352 : hR S_271 1107 h = (some q_135) := hf_273.fr (mem_old hm_218) (fun q9 => (fun e9 => absurd (((kd_nO (k := 3) hq_266 hm_218 hk_219)).symm.trans ((congrArg (hK _) e9).trans (kd_nO' (k := 3)))) (by decide)) q9) (rd_nOR (k := 3) hq_266 hm_218 (rd_sR (S := S_210) (g := 1107) (a := h) (v := (some q_135))))
  have hv_353 : hR S_271 200 q_142 = (some q_143) := hf_273.fr (mem_old e_162) (fun q9 => (fun e9 => absurd (((kd_nO (k := 3) hq_266 e_162 e_163)).symm.trans ((congrArg (hK _) e9).trans (kd_nO' (k := 3)))) (by decide)) q9) (rd_nOR (k := 3) hq_266 e_162 (rd_sRf (S := S_210) (g := 1107) (a := h) (v := (some q_135)) (by decide) e_168))
  have hv_354 : hR S_271 600 q_89 = (some q_93) := hf_273.fr (mem_old hm_234) (fun q9 => (fun e9 => absurd (((kd_nO (k := 3) hq_266 hm_234 hk_235)).symm.trans ((congrArg (hK _) e9).trans (kd_nO' (k := 3)))) (by decide)) q9) (rd_nOR (k := 3) hq_266 hm_234 (rd_sRf (S := S_210) (g := 1107) (a := h) (v := (some q_135)) (by decide) hv_252))
  have hv_355 : hR S_271 800 q_143 = (some q_144) := hf_273.fr (mem_old e_166) (fun q9 => (fun e9 => absurd (((kd_nO (k := 3) hq_266 e_166 e_167)).symm.trans ((congrArg (hK _) e9).trans (kd_nO' (k := 3)))) (by decide)) q9) (rd_nOR (k := 3) hq_266 e_166 (rd_sRf (S := S_210) (g := 1107) (a := h) (v := (some q_135)) (by decide) e_173))
  have hv_356 : hR S_271 800 q_145 = (some q_146) := hf_273.fr (mem_old e_176) (fun q9 => (fun e9 => absurd (((kd_nO (k := 3) hq_266 e_176 e_177)).symm.trans ((congrArg (hK _) e9).trans (kd_nO' (k := 3)))) (by decide)) q9) (rd_nOR (k := 3) hq_266 e_176 (rd_sRf (S := S_210) (g := 1107) (a := h) (v := (some q_135)) (by decide) e_183))
  have hv_357 : hR S_271 800 q_147 = (some q_148) := hf_273.fr (mem_old e_186) (fun q9 => (fun e9 => absurd (((kd_nO (k := 3) hq_266 e_186 e_187)).symm.trans ((congrArg (hK _) e9).trans (kd_nO' (k := 3)))) (by decide)) q9) (rd_nOR (k := 3) hq_266 e_186 (rd_sRf (S := S_210) (g := 1107) (a := h) (v := (some q_135)) (by decide) e_193))
  have hv_358 : hR S_271 901 q_135 = (some q_140) := hf_273.fr (mem_old hm_223) (fun q9 => (fun e9 => absurd (((kd_nO (k := 3) hq_266 hm_223 hk_224)).symm.trans ((congrArg (hK _) e9).trans (kd_nO' (k := 3)))) (by decide)) q9) (rd_nOR (k := 3) hq_266 hm_223 (rd_sRf (S := S_210) (g := 1107) (a := h) (v := (some q_135)) (by decide) e_154))
  have hv_359 : hR S_271 902 q_135 = (some q_142) := hf_273.fr (mem_old hm_223) (fun q9 => (fun e9 => absurd (((kd_nO (k := 3) hq_266 hm_223 hk_224)).symm.trans ((congrArg (hK _) e9).trans (kd_nO' (k := 3)))) (by decide)) q9) (rd_nOR (k := 3) hq_266 hm_223 (rd_sRf (S := S_210) (g := 1107) (a := h) (v := (some q_135)) (by decide) e_164))
  have hv_360 : hR S_271 903 q_135 = (some q_145) := hf_273.fr (mem_old hm_223) (fun q9 => (fun e9 => absurd (((kd_nO (k := 3) hq_266 hm_223 hk_224)).symm.trans ((congrArg (hK _) e9).trans (kd_nO' (k := 3)))) (by decide)) q9) (rd_nOR (k := 3) hq_266 hm_223 (rd_sRf (S := S_210) (g := 1107) (a := h) (v := (some q_135)) (by decide) e_178))
  have hv_361 : hR S_271 906 q_135 = (some q_147) := hf_273.fr (mem_old hm_223) (fun q9 => (fun e9 => absurd (((kd_nO (k := 3) hq_266 hm_223 hk_224)).symm.trans ((congrArg (hK _) e9).trans (kd_nO' (k := 3)))) (by decide)) q9) (rd_nOR (k := 3) hq_266 hm_223 (rd_sRf (S := S_210) (g := 1107) (a := h) (v := (some q_135)) (by decide) e_188))
  have hv_362 : hR S_271 908 q_135 = (some q_149) := hf_273.fr (mem_old hm_223) (fun q9 => (fun e9 => absurd (((kd_nO (k := 3) hq_266 hm_223 hk_224)).symm.trans ((congrArg (hK _) e9).trans (kd_nO' (k := 3)))) (by decide)) q9) (rd_nOR (k := 3) hq_266 hm_223 (rd_sRf (S := S_210) (g := 1107) (a := h) (v := (some q_135)) (by decide) e_199))
  have hv_363 : hR S_271 917 q_135 = (some q_150) := hf_273.fr (mem_old hm_223) (fun q9 => (fun e9 => absurd (((kd_nO (k := 3) hq_266 hm_223 hk_224)).symm.trans ((congrArg (hK _) e9).trans (kd_nO' (k := 3)))) (by decide)) q9) (rd_nOR (k := 3) hq_266 hm_223 (rd_sRf (S := S_210) (g := 1107) (a := h) (v := (some q_135)) (by decide) e_205))
  have hf_364 : Fm (fun f9 b9 => (f9 = 1110 ∧ b9 = h) ∨ (f9 = 1111 ∧ b9 = h)) (fun f9 b9 => b9 = h) (fun _ => False) S S_271 := hf_269.then hf_273 (fun a9 ha9 => ⟨(fun f9 h9 => h9.elim), (fun f9 h9 => (fun h8 => absurd (h8 ▸ ha9) hz_268) h9), (fun h9 => h9.elim)⟩)
  refine j_putrF (f := 1108) C hm9 flX11_49o (by decide) rfl rfl dX11_init_86 hm_285 hk_286 rfl ?_
  exact j_vret C M dX11_init_89 (Nat.le_of_ble_eq_true rfl) (Nat.le_of_ble_eq_true rfl) ⟨rfl, (hf_364.sR _ (fun _ => rfl)), hv_336, hv_337, q_1, q_15, q_34, q_58, q_89, q_93, q_135, q_140, q_141, q_142, q_143, q_144, q_145, q_146, q_147, q_148, q_149, q_150, hz_3, hm_287, hk_288, hn_289, (rd_sRf (S := S_271) (g := 1108) (a := h) (v := (some q_265)) (by decide) hv_347), hz_274, hz_17, hm_317, hk_318, hn_319, (rd_sRf (S := S_271) (g := 1108) (a := h) (v := (some q_265)) (by decide) hv_348), hz_280, hz_36, hm_325, hk_326, hn_327, (rd_sRf (S := S_271) (g := 1108) (a := h) (v := (some q_265)) (by decide) hv_349), hz_282, hz_60, hm_328, hk_329, hn_330, (rd_sRf (S := S_271) (g := 1108) (a := h) (v := (some q_265)) (by decide) hv_350), hz_283, hz_91, hm_331, hk_332, (rd_sRf (S := S_271) (g := 1108) (a := h) (v := (some q_265)) (by decide) hv_351), hz_134, hm_333, hk_334, hn_335, (rd_sRf (S := S_271) (g := 1108) (a := h) (v := (some q_265)) (by decide) hv_354), hz_284, hz_138, hm_290, hk_291, (rd_sRf (S := S_271) (g := 1108) (a := h) (v := (some q_265)) (by decide) hv_352), hz_254, hm_292, hk_293, (rd_sRf (S := S_271) (g := 1108) (a := h) (v := (some q_265)) (by decide) hv_358), hz_255, hm_294, hk_295, hn_296, (rd_sRf (S := S_271) (g := 1108) (a := h) (v := (some q_265)) (by decide) hv_346), hz_275, hz_256, hm_297, hk_298, (rd_sRf (S := S_271) (g := 1108) (a := h) (v := (some q_265)) (by decide) hv_359), hz_257, hm_299, hk_300, (rd_sRf (S := S_271) (g := 1108) (a := h) (v := (some q_265)) (by decide) hv_353), hz_258, hm_301, hk_302, hn_303, (rd_sRf (S := S_271) (g := 1108) (a := h) (v := (some q_265)) (by decide) hv_355), hz_276, hz_259, hm_304, hk_305, (rd_sRf (S := S_271) (g := 1108) (a := h) (v := (some q_265)) (by decide) hv_360), hz_260, hm_306, hk_307, hn_308, (rd_sRf (S := S_271) (g := 1108) (a := h) (v := (some q_265)) (by decide) hv_356), hz_277, hz_261, hm_309, hk_310, (rd_sRf (S := S_271) (g := 1108) (a := h) (v := (some q_265)) (by decide) hv_361), hz_262, hm_311, hk_312, hn_313, (rd_sRf (S := S_271) (g := 1108) (a := h) (v := (some q_265)) (by decide) hv_357), hz_278, hz_263, hm_314, hk_315, hn_316, (rd_sRf (S := S_271) (g := 1108) (a := h) (v := (some q_265)) (by decide) hv_362), hz_279, hz_264, hm_320, hk_321, hn_322, (rd_sRf (S := S_271) (g := 1108) (a := h) (v := (some q_265)) (by decide) hv_363), hz_281, hv_340, hv_341, hv_342, hv_344, hv_345, hv_339, hv_338⟩
