theorem dX11_init_0 : decode cX11_init 0 = .ok (.aload_n 0, 1) := by decide +kernel
theorem dX11_init_1 : decode cX11_init 1 = .ok (.invokespecial 1, 3) := by decide +kernel
theorem dX11_init_4 : decode cX11_init 4 = .ok (.aload_n 0, 1) := by decide +kernel
theorem dX11_init_5 : decode cX11_init 5 = .ok (.sipush 8000, 3) := by decide +kernel
theorem dX11_init_8 : decode cX11_init 8 = .ok (.newarray .byte, 2) := by decide +kernel
theorem dX11_init_10 : decode cX11_init 10 = .ok (.putfield 9, 3) := by decide +kernel
theorem dX11_init_13 : decode cX11_init 13 = .ok (.aload_n 0, 1) := by decide +kernel
theorem dX11_init_14 : decode cX11_init 14 = .ok (.sipush 12000, 3) := by decide +kernel
theorem dX11_init_17 : decode cX11_init 17 = .ok (.newarray .byte, 2) := by decide +kernel
theorem dX11_init_19 : decode cX11_init 19 = .ok (.putfield 13, 3) := by decide +kernel
theorem dX11_init_22 : decode cX11_init 22 = .ok (.aload_n 0, 1) := by decide +kernel
theorem dX11_init_23 : decode cX11_init 23 = .ok (.bipush 6, 2) := by decide +kernel
theorem dX11_init_25 : decode cX11_init 25 = .ok (.newarray .int, 2) := by decide +kernel
theorem dX11_init_27 : decode cX11_init 27 = .ok (.putfield 16, 3) := by decide +kernel
theorem dX11_init_30 : decode cX11_init 30 = .ok (.aload_n 0, 1) := by decide +kernel
theorem dX11_init_31 : decode cX11_init 31 = .ok (.bipush 7, 2) := by decide +kernel
theorem dX11_init_33 : decode cX11_init 33 = .ok (.newarray .int, 2) := by decide +kernel
theorem dX11_init_35 : decode cX11_init 35 = .ok (.putfield 20, 3) := by decide +kernel
theorem dX11_init_38 : decode cX11_init 38 = .ok (.aload_n 0, 1) := by decide +kernel
theorem dX11_init_39 : decode cX11_init 39 = .ok (.iconst (-1), 1) := by decide +kernel
theorem dX11_init_40 : decode cX11_init 40 = .ok (.putfield 23, 3) := by decide +kernel
theorem dX11_init_43 : decode cX11_init 43 = .ok (.aload_n 0, 1) := by decide +kernel
theorem dX11_init_44 : decode cX11_init 44 = .ok (.iconst (-1), 1) := by decide +kernel
theorem dX11_init_45 : decode cX11_init 45 = .ok (.putfield 27, 3) := by decide +kernel
theorem dX11_init_48 : decode cX11_init 48 = .ok (.aload_n 0, 1) := by decide +kernel
theorem dX11_init_49 : decode cX11_init 49 = .ok (.new 30, 3) := by decide +kernel
theorem dX11_init_52 : decode cX11_init 52 = .ok (.dup, 1) := by decide +kernel
theorem dX11_init_53 : decode cX11_init 53 = .ok (.invokespecial 32, 3) := by decide +kernel
theorem dX11_init_56 : decode cX11_init 56 = .ok (.putfield 33, 3) := by decide +kernel
theorem dX11_init_59 : decode cX11_init 59 = .ok (.aload_n 0, 1) := by decide +kernel
theorem dX11_init_60 : decode cX11_init 60 = .ok (.new 37, 3) := by decide +kernel
theorem dX11_init_63 : decode cX11_init 63 = .ok (.dup, 1) := by decide +kernel
theorem dX11_init_64 : decode cX11_init 64 = .ok (.aload_n 0, 1) := by decide +kernel
theorem dX11_init_65 : decode cX11_init 65 = .ok (.getfield 33, 3) := by decide +kernel
theorem dX11_init_68 : decode cX11_init 68 = .ok (.invokespecial 39, 3) := by decide +kernel
theorem dX11_init_71 : decode cX11_init 71 = .ok (.putfield 42, 3) := by decide +kernel
theorem dX11_init_74 : decode cX11_init 74 = .ok (.aload_n 0, 1) := by decide +kernel
theorem dX11_init_75 : decode cX11_init 75 = .ok (.new 46, 3) := by decide +kernel
theorem dX11_init_78 : decode cX11_init 78 = .ok (.dup, 1) := by decide +kernel
theorem dX11_init_79 : decode cX11_init 79 = .ok (.aload_n 0, 1) := by decide +kernel
theorem dX11_init_80 : decode cX11_init 80 = .ok (.getfield 33, 3) := by decide +kernel
theorem dX11_init_83 : decode cX11_init 83 = .ok (.invokespecial 48, 3) := by decide +kernel
theorem dX11_init_86 : decode cX11_init 86 = .ok (.putfield 49, 3) := by decide +kernel
theorem dX11_init_89 : decode cX11_init 89 = .ok (.return_, 1) := by decide +kernel

set_option maxRecDepth 100000 in
set_option maxHeartbeats 4000000 in
theorem c_X11_init (S : Hp) (h : Nat) (hm : h ∈ hL S) (hk : hK S h = 11) : Ct 5 yX11_init cX11_init 1 none 141 384920 [.ref h] S (fun r S' => r = none ∧ Fm (fun f9 b9 => (f9 = 1110 ∧ b9 = h) ∨ (f9 = 1111 ∧ b9 = h)) (fun f9 b9 => b9 = h) (fun _ => False) S S' ∧ hI S' 1110 h = (-1) ∧ hI S' 1111 h = (-1) ∧ ∃ o_tp o_jb o_so o_sa o_g o_gb o_gw o_gh o_gd o_g0 o_w o_c o_cd o_cl o_f o_fs o_fss o_fn o_fa o_ts o_tss o_bt o_btr o_ms o_mss o_e o_es o_er o_err o_ep o_epr o_e1 o_e2 o_ra o_ls o_r0 : Nat, o_tp ∉ hL S ∧ o_tp ∈ hL S' ∧ Kd S' o_tp 13 ∧ Ln S' o_tp 8000 ∧ hR S' 1100 h = some o_tp ∧ o_jb ∉ hL S ∧ o_jb ∈ hL S' ∧ Kd S' o_jb 13 ∧ Ln S' o_jb 12000 ∧ hR S' 1102 h = some o_jb ∧ o_so ∉ hL S ∧ o_so ∈ hL S' ∧ Kd S' o_so 14 ∧ Ln S' o_so 6 ∧ hR S' 1103 h = some o_so ∧ o_sa ∉ hL S ∧ o_sa ∈ hL S' ∧ Kd S' o_sa 14 ∧ Ln S' o_sa 7 ∧ hR S' 1104 h = some o_sa ∧ (∀ j, aI S' o_sa j = 0) ∧ o_g ∉ hL S ∧ o_g ∈ hL S' ∧ Kd S' o_g 6 ∧ hR S' 1106 h = some o_g ∧ o_gb ∉ hL S ∧ o_gb ∈ hL S' ∧ Kd S' o_gb 13 ∧ Ln S' o_gb 60000 ∧ hR S' 600 o_g = some o_gb ∧ o_gw ∉ hL S ∧ o_gw ∈ hL S' ∧ Kd S' o_gw 14 ∧ Ln S' o_gw 12 ∧ hR S' 604 o_g = some o_gw ∧ o_gh ∉ hL S ∧ o_gh ∈ hL S' ∧ Kd S' o_gh 14 ∧ Ln S' o_gh 12 ∧ hR S' 605 o_g = some o_gh ∧ o_gd ∉ hL S ∧ o_gd ∈ hL S' ∧ Kd S' o_gd 21 ∧ Ln S' o_gd 13 ∧ hR S' 606 o_g = some o_gd ∧ o_g0 ∉ hL S ∧ o_g0 ∈ hL S' ∧ Kd S' o_g0 14 ∧ Ln S' o_g0 16000 ∧ aR S' o_gd 0 = some o_g0 ∧ o_w ∉ hL S ∧ o_w ∈ hL S' ∧ Kd S' o_w 9 ∧ hR S' 1107 h = some o_w ∧ o_c ∉ hL S ∧ o_c ∈ hL S' ∧ Kd S' o_c 0 ∧ hR S' 901 o_w = some o_c ∧ o_cd ∉ hL S ∧ o_cd ∈ hL S' ∧ Kd S' o_cd 14 ∧ Ln S' o_cd 20000 ∧ hR S' 0 o_c = some o_cd ∧ o_cl ∉ hL S ∧ o_cl ∈ hL S' ∧ Kd S' o_cl 14 ∧ Ln S' o_cl 25 ∧ hR S' 1 o_c = some o_cl ∧ o_f ∉ hL S ∧ o_f ∈ hL S' ∧ Kd S' o_f 2 ∧ hR S' 902 o_w = some o_f ∧ o_fs ∉ hL S ∧ o_fs ∈ hL S' ∧ Kd S' o_fs 8 ∧ hR S' 200 o_f = some o_fs ∧ o_fss ∉ hL S ∧ o_fss ∈ hL S' ∧ Kd S' o_fss 14 ∧ Ln S' o_fss 16 ∧ hR S' 800 o_fs = some o_fss ∧ (∀ j, aI S' o_fss j = 0) ∧ o_fn ∉ hL S ∧ o_fn ∈ hL S' ∧ Kd S' o_fn 14 ∧ Ln S' o_fn 119 ∧ hR S' 201 o_f = some o_fn ∧ o_fa ∉ hL S ∧ o_fa ∈ hL S' ∧ Kd S' o_fa 14 ∧ Ln S' o_fa 8 ∧ hR S' 207 o_f = some o_fa ∧ o_ts ∉ hL S ∧ o_ts ∈ hL S' ∧ Kd S' o_ts 8 ∧ hR S' 903 o_w = some o_ts ∧ o_tss ∉ hL S ∧ o_tss ∈ hL S' ∧ Kd S' o_tss 14 ∧ Ln S' o_tss 16 ∧ hR S' 800 o_ts = some o_tss ∧ (∀ j, aI S' o_tss j = 0) ∧ o_bt ∉ hL S ∧ o_bt ∈ hL S' ∧ Kd S' o_bt 10 ∧ hR S' 905 o_w = some o_bt ∧ o_btr ∉ hL S ∧ o_btr ∈ hL S' ∧ Kd S' o_btr 15 ∧ Ln S' o_btr 16 ∧ hR S' 1003 o_bt = some o_btr ∧ o_ms ∉ hL S ∧ o_ms ∈ hL S' ∧ Kd S' o_ms 8 ∧ hR S' 906 o_w = some o_ms ∧ o_mss ∉ hL S ∧ o_mss ∈ hL S' ∧ Kd S' o_mss 14 ∧ Ln S' o_mss 16 ∧ hR S' 800 o_ms = some o_mss ∧ (∀ j, aI S' o_mss j = 0) ∧ o_e ∉ hL S ∧ o_e ∈ hL S' ∧ Kd S' o_e 1 ∧ hR S' 909 o_w = some o_e ∧ o_es ∉ hL S ∧ o_es ∈ hL S' ∧ Kd S' o_es 7 ∧ hR S' 100 o_e = some o_es ∧ o_er ∉ hL S ∧ o_er ∈ hL S' ∧ Kd S' o_er 4 ∧ hR S' 101 o_e = some o_er ∧ o_err ∉ hL S ∧ o_err ∈ hL S' ∧ Kd S' o_err 14 ∧ Ln S' o_err 20 ∧ hR S' 407 o_er = some o_err ∧ o_ep ∉ hL S ∧ o_ep ∈ hL S' ∧ Kd S' o_ep 10 ∧ hR S' 102 o_e = some o_ep ∧ o_epr ∉ hL S ∧ o_epr ∈ hL S' ∧ Kd S' o_epr 15 ∧ Ln S' o_epr 16 ∧ hR S' 1003 o_ep = some o_epr ∧ o_e1 ∉ hL S ∧ o_e1 ∈ hL S' ∧ Kd S' o_e1 14 ∧ Ln S' o_e1 8 ∧ hR S' 103 o_e = some o_e1 ∧ o_e2 ∉ hL S ∧ o_e2 ∈ hL S' ∧ Kd S' o_e2 14 ∧ Ln S' o_e2 8 ∧ hR S' 104 o_e = some o_e2 ∧ o_ra ∉ hL S ∧ o_ra ∈ hL S' ∧ Kd S' o_ra 19 ∧ Ln S' o_ra 4 ∧ hR S' 912 o_w = some o_ra ∧ o_ls ∉ hL S ∧ o_ls ∈ hL S' ∧ Kd S' o_ls 14 ∧ Ln S' o_ls 12 ∧ hR S' 917 o_w = some o_ls ∧ o_r0 ∉ hL S ∧ o_r0 ∈ hL S' ∧ Kd S' o_r0 5 ∧ aR S' o_ra 0 = some o_r0 ∧ hI S' 209 o_f = 0 ∧ hR S' 900 o_w = some o_g ∧ NL S [o_tp, o_jb, o_so, o_sa, o_g, o_gb, o_gw, o_gh, o_gd, o_g0, o_w, o_c, o_cd, o_cl, o_f, o_fs, o_fss, o_fn, o_fa, o_ts, o_tss, o_bt, o_btr, o_ms, o_mss, o_e, o_es, o_er, o_err, o_ep, o_epr, o_e1, o_e2, o_ra, o_ls, o_r0] S') := by
  refine ct_of (by decide) (Nat.le_of_ble_eq_true rfl) fun x hn9 C M hm9 => ?_
  have C : CB x RX11 cX11_init := C
  refine J.eq (lv' := [(0, .ref h)]) rfl rfl rfl ?_
  refine j_aload_n C dX11_init_0 rfl 0 rfl ?_
  refine j_objInit C mlX11_1 nst_oi (M.fl (by decide)) dX11_init_1 ?_
  refine j_aload_n C dX11_init_4 rfl 0 rfl ?_
  refine j_sipush (v := 8000) C dX11_init_5 (by decide) ?_
  refine j_newB (N := 8000) C ka_byte (by decide) (by decide) (Nat.le_of_ble_eq_true rfl) (M.cells (by decide)) (M.slots (Nat.le_of_ble_eq_true rfl)) dX11_init_8 (fun q_1 hq_2 => ?_)
  have hz_3 : q_1 ∉ hL S := hq_2
  refine j_putrF (f := 1100) C hm9 flX11_9o (by decide) rfl rfl dX11_init_10 (mem_old hm) (kd_nA (k := 13) (n := 8000) hq_2 hm hk) rfl ?_
  refine j_aload_n C dX11_init_13 rfl 0 rfl ?_
  refine j_sipush (v := 12000) C dX11_init_14 (by decide) ?_
  show J _ _ _ _ _ 17 _
  have hf_6 : Fm (fun f9 b9 => (f9 = 1110 ∧ b9 = h) ∨ (f9 = 1111 ∧ b9 = h)) (fun f9 b9 => b9 = h) (fun _ => False) S (sR (nA S q_1 13 8000) 1100 h (some q_1)) := (((Fm.refl (WI := (fun f9 b9 => (f9 = 1110 ∧ b9 = h) ∨ (f9 = 1111 ∧ b9 = h))) (WR := (fun f9 b9 => b9 = h)) (WA := (fun _ => False))).nA _ _ hq_2).sR _ (fun _ => rfl))
  obtain ⟨S_4, eS_5⟩ : ∃ S9 : Hp, S9 = (sR (nA S q_1 13 8000) 1100 h (some q_1)) := ⟨_, rfl⟩
  refine J.eq (S' := S_4) eS_5.symm rfl rfl ?_
  have hm_7 : h ∈ hL S_4 := by rw [eS_5]; exact (mem_old hm)
  have hk_8 : Kd S_4 h 11 := by rw [eS_5]; exact (kd_nA (k := 13) (n := 8000) hq_2 hm hk)
  have hm_9 : q_1 ∈ hL S_4 := by rw [eS_5]; exact mem_new
  have hk_10 : Kd S_4 q_1 13 := by rw [eS_5]; exact (kd_nA' (k := 13) (n := 8000))
  have hn_11 : Ln S_4 q_1 8000 := by rw [eS_5]; exact (ln_nA' (k := 13))
  have hz_12 : ∀ j, aI S_4 q_1 j = 0 := by rw [eS_5]; exact (fun j9 => rd_nAI' (k := 13) (n := 8000))
  have hv_13 : hR S_4 1100 h = (some q_1) := by rw [eS_5]; exact (rd_sR (S := (nA S q_1 13 8000)) (g := 1100) (a := h) (v := (some q_1)))
  have hf_14 : Fm (fun f9 b9 => (f9 = 1110 ∧ b9 = h) ∨ (f9 = 1111 ∧ b9 = h)) (fun f9 b9 => b9 = h) (fun _ => False) S S_4 := by rw [eS_5]; exact hf_6
  have hN_15 : NL S [q_1] S_4 := by rw [eS_5]; exact (NL.sR (S := (nA S q_1 13 8000)) (show NL S [q_1] (nA S q_1 13 8000) from NL.nA (NL.nil : NL S [] S) hq_2 hz_3))
  refine j_newB (N := 12000) C ka_byte (by decide) (by decide) (Nat.le_of_ble_eq_true rfl) (M.cells (by decide)) (M.slots (Nat.le_of_ble_eq_true rfl)) dX11_init_17 (fun q_16 hq_17 => ?_)
  have hz_18 : q_16 ∉ hL S := fun h9 => hq_17 (hf_14.mem h9)
  refine j_putrF (f := 1102) C hm9 flX11_13o (by decide) rfl rfl dX11_init_19 (mem_old hm_7) (kd_nA (k := 13) (n := 12000) hq_17 hm_7 hk_8) rfl ?_
  refine j_aload_n C dX11_init_22 rfl 0 rfl ?_
  refine j_bipush (v := 6) C dX11_init_23 (by decide) ?_
  have hf_21 : Fm (fun f9 b9 => (f9 = 1110 ∧ b9 = h) ∨ (f9 = 1111 ∧ b9 = h)) (fun f9 b9 => b9 = h) (fun _ => False) S (sR (nA S_4 q_16 13 12000) 1102 h (some q_16)) := ((hf_14.nA _ _ hq_17).sR _ (fun _ => rfl))
  obtain ⟨S_19, eS_20⟩ : ∃ S9 : Hp, S9 = (sR (nA S_4 q_16 13 12000) 1102 h (some q_16)) := ⟨_, rfl⟩
  refine J.eq (S' := S_19) eS_20.symm rfl rfl ?_
  have hm_22 : h ∈ hL S_19 := by rw [eS_20]; exact (mem_old hm_7)
  have hk_23 : Kd S_19 h 11 := by rw [eS_20]; exact (kd_nA (k := 13) (n := 12000) hq_17 hm_7 hk_8)
  have hm_24 : q_1 ∈ hL S_19 := by rw [eS_20]; exact (mem_old hm_9)
  have hk_25 : Kd S_19 q_1 13 := by rw [eS_20]; exact (kd_nA (k := 13) (n := 12000) hq_17 hm_9 hk_10)
  have hn_26 : Ln S_19 q_1 8000 := by rw [eS_20]; exact (ln_nA (k := 13) hq_17 hm_9 hn_11)
  have hz_27 : ∀ j, aI S_19 q_1 j = 0 := by rw [eS_20]; exact (fun j9 => rd_nAI (k := 13) (n := 12000) hq_17 hm_9 (hz_12 j9))
  have hm_28 : q_16 ∈ hL S_19 := by rw [eS_20]; exact mem_new
  have hk_29 : Kd S_19 q_16 13 := by rw [eS_20]; exact (kd_nA' (k := 13) (n := 12000))
  have hn_30 : Ln S_19 q_16 12000 := by rw [eS_20]; exact (ln_nA' (k := 13))
  have hz_31 : ∀ j, aI S_19 q_16 j = 0 := by rw [eS_20]; exact (fun j9 => rd_nAI' (k := 13) (n := 12000))
  have hv_32 : hR S_19 1100 h = (some q_1) := by rw [eS_20]; exact (rd_sRf (S := (nA S_4 q_16 13 12000)) (g := 1102) (a := h) (v := (some q_16)) (by decide) hv_13)
  have hv_33 : hR S_19 1102 h = (some q_16) := by rw [eS_20]; exact (rd_sR (S := (nA S_4 q_16 13 12000)) (g := 1102) (a := h) (v := (some q_16)))
  have hf_34 : Fm (fun f9 b9 => (f9 = 1110 ∧ b9 = h) ∨ (f9 = 1111 ∧ b9 = h)) (fun f9 b9 => b9 = h) (fun _ => False) S S_19 := by rw [eS_20]; exact hf_21
  have hN_35 : NL S [q_1, q_16] S_19 := by rw [eS_20]; exact (NL.sR (S := (nA S_4 q_16 13 12000)) (show NL S [q_1, q_16] (nA S_4 q_16 13 12000) from NL.nA hN_15 hq_17 hz_18))
  refine j_newI (N := 6) C ka_int (by decide) (by decide) (Nat.le_of_ble_eq_true rfl) (M.cells (by decide)) (M.slots (Nat.le_of_ble_eq_true rfl)) dX11_init_25 (fun q_36 hq_37 => ?_)
  have hz_38 : q_36 ∉ hL S := fun h9 => hq_37 (hf_34.mem h9)
  refine j_putrF (f := 1103) C hm9 flX11_16o (by decide) rfl rfl dX11_init_27 (mem_old hm_22) (kd_nA (k := 14) (n := 6) hq_37 hm_22 hk_23) rfl ?_
  refine j_aload_n C dX11_init_30 rfl 0 rfl ?_
  refine j_bipush (v := 7) C dX11_init_31 (by decide) ?_
  show J _ _ _ _ _ 33 _
  have hf_41 : Fm (fun f9 b9 => (f9 = 1110 ∧ b9 = h) ∨ (f9 = 1111 ∧ b9 = h)) (fun f9 b9 => b9 = h) (fun _ => False) S (sR (nA S_19 q_36 14 6) 1103 h (some q_36)) := ((hf_34.nA _ _ hq_37).sR _ (fun _ => rfl))
  obtain ⟨S_39, eS_40⟩ : ∃ S9 : Hp, S9 = (sR (nA S_19 q_36 14 6) 1103 h (some q_36)) := ⟨_, rfl⟩
  refine J.eq (S' := S_39) eS_40.symm rfl rfl ?_
  have hm_42 : h ∈ hL S_39 := by rw [eS_40]; exact (mem_old hm_22)
  have hk_43 : Kd S_39 h 11 := by rw [eS_40]; exact (kd_nA (k := 14) (n := 6) hq_37 hm_22 hk_23)
  have hm_44 : q_1 ∈ hL S_39 := by rw [eS_40]; exact (mem_old hm_24)
  have hk_45 : Kd S_39 q_1 13 := by rw [eS_40]; exact (kd_nA (k := 14) (n := 6) hq_37 hm_24 hk_25)
  have hn_46 : Ln S_39 q_1 8000 := by rw [eS_40]; exact (ln_nA (k := 14) hq_37 hm_24 hn_26)
  have hz_47 : ∀ j, aI S_39 q_1 j = 0 := by rw [eS_40]; exact (fun j9 => rd_nAI (k := 14) (n := 6) hq_37 hm_24 (hz_27 j9))
  have hm_48 : q_16 ∈ hL S_39 := by rw [eS_40]; exact (mem_old hm_28)
  have hk_49 : Kd S_39 q_16 13 := by rw [eS_40]; exact (kd_nA (k := 14) (n := 6) hq_37 hm_28 hk_29)
  have hn_50 : Ln S_39 q_16 12000 := by rw [eS_40]; exact (ln_nA (k := 14) hq_37 hm_28 hn_30)
  have hz_51 : ∀ j, aI S_39 q_16 j = 0 := by rw [eS_40]; exact (fun j9 => rd_nAI (k := 14) (n := 6) hq_37 hm_28 (hz_31 j9))
  have hm_52 : q_36 ∈ hL S_39 := by rw [eS_40]; exact mem_new
  have hk_53 : Kd S_39 q_36 14 := by rw [eS_40]; exact (kd_nA' (k := 14) (n := 6))
  have hn_54 : Ln S_39 q_36 6 := by rw [eS_40]; exact (ln_nA' (k := 14))
  have hz_55 : ∀ j, aI S_39 q_36 j = 0 := by rw [eS_40]; exact (fun j9 => rd_nAI' (k := 14) (n := 6))
  have hv_56 : hR S_39 1100 h = (some q_1) := by rw [eS_40]; exact (rd_sRf (S := (nA S_19 q_36 14 6)) (g := 1103) (a := h) (v := (some q_36)) (by decide) hv_32)
  have hv_57 : hR S_39 1102 h = (some q_16) := by rw [eS_40]; exact (rd_sRf (S := (nA S_19 q_36 14 6)) (g := 1103) (a := h) (v := (some q_36)) (by decide) hv_33)
  have hv_58 : hR S_39 1103 h = (some q_36) := by rw [eS_40]; exact (rd_sR (S := (nA S_19 q_36 14 6)) (g := 1103) (a := h) (v := (some q_36)))
  have hf_59 : Fm (fun f9 b9 => (f9 = 1110 ∧ b9 = h) ∨ (f9 = 1111 ∧ b9 = h)) (fun f9 b9 => b9 = h) (fun _ => False) S S_39 := by rw [eS_40]; exact hf_41
  have hN_60 : NL S [q_1, q_16, q_36] S_39 := by rw [eS_40]; exact (NL.sR (S := (nA S_19 q_36 14 6)) (show NL S [q_1, q_16, q_36] (nA S_19 q_36 14 6) from NL.nA hN_35 hq_37 hz_38))
  refine j_newI (N := 7) C ka_int (by decide) (by decide) (Nat.le_of_ble_eq_true rfl) (M.cells (by decide)) (M.slots (Nat.le_of_ble_eq_true rfl)) dX11_init_33 (fun q_61 hq_62 => ?_)
  have hz_63 : q_61 ∉ hL S := fun h9 => hq_62 (hf_59.mem h9)
  refine j_putrF (f := 1104) C hm9 flX11_20o (by decide) rfl rfl dX11_init_35 (mem_old hm_42) (kd_nA (k := 14) (n := 7) hq_62 hm_42 hk_43) rfl ?_
  refine j_aload_n C dX11_init_38 rfl 0 rfl ?_
  refine j_iconst (v := (-1)) C dX11_init_39 (by decide) ?_
  refine j_puti (f := 1110) C flX11_23 (by decide) rfl rfl dX11_init_40 (mem_old hm_42) (kd_nA (k := 14) (n := 7) hq_62 hm_42 hk_43) rfl ?_
  refine j_aload_n C dX11_init_43 rfl 0 rfl ?_
  refine j_iconst (v := (-1)) C dX11_init_44 (by decide) ?_
  refine j_puti (f := 1111) C flX11_27 (by decide) rfl rfl dX11_init_45 (mem_old hm_42) (kd_nA (k := 14) (n := 7) hq_62 hm_42 hk_43) rfl ?_
  show J _ _ _ _ _ 48 _
  refine j_aload_n C dX11_init_48 rfl 0 rfl ?_
  have hf_66 : Fm (fun f9 b9 => (f9 = 1110 ∧ b9 = h) ∨ (f9 = 1111 ∧ b9 = h)) (fun f9 b9 => b9 = h) (fun _ => False) S (sI (sI (sR (nA S_39 q_61 14 7) 1104 h (some q_61)) 1110 h (-1)) 1111 h (-1)) := ((((hf_59.nA _ _ hq_62).sR _ (fun _ => rfl)).sI _ (fun _ => (Or.inl ⟨rfl, rfl⟩))).sI _ (fun _ => (Or.inr ⟨rfl, rfl⟩)))
  obtain ⟨S_64, eS_65⟩ : ∃ S9 : Hp, S9 = (sI (sI (sR (nA S_39 q_61 14 7) 1104 h (some q_61)) 1110 h (-1)) 1111 h (-1)) := ⟨_, rfl⟩
  refine J.eq (S' := S_64) eS_65.symm rfl rfl ?_
  have hm_67 : h ∈ hL S_64 := by rw [eS_65]; exact (mem_old hm_42)
  have hk_68 : Kd S_64 h 11 := by rw [eS_65]; exact (kd_nA (k := 14) (n := 7) hq_62 hm_42 hk_43)
  have hm_69 : q_1 ∈ hL S_64 := by rw [eS_65]; exact (mem_old hm_44)
  have hk_70 : Kd S_64 q_1 13 := by rw [eS_65]; exact (kd_nA (k := 14) (n := 7) hq_62 hm_44 hk_45)
  have hn_71 : Ln S_64 q_1 8000 := by rw [eS_65]; exact (ln_nA (k := 14) hq_62 hm_44 hn_46)
  have hz_72 : ∀ j, aI S_64 q_1 j = 0 := by rw [eS_65]; exact (fun j9 => rd_nAI (k := 14) (n := 7) hq_62 hm_44 (hz_47 j9))
  have hm_73 : q_16 ∈ hL S_64 := by rw [eS_65]; exact (mem_old hm_48)
  have hk_74 : Kd S_64 q_16 13 := by rw [eS_65]; exact (kd_nA (k := 14) (n := 7) hq_62 hm_48 hk_49)
  have hn_75 : Ln S_64 q_16 12000 := by rw [eS_65]; exact (ln_nA (k := 14) hq_62 hm_48 hn_50)
  have hz_76 : ∀ j, aI S_64 q_16 j = 0 := by rw [eS_65]; exact (fun j9 => rd_nAI (k := 14) (n := 7) hq_62 hm_48 (hz_51 j9))
  have hm_77 : q_36 ∈ hL S_64 := by rw [eS_65]; exact (mem_old hm_52)
  have hk_78 : Kd S_64 q_36 14 := by rw [eS_65]; exact (kd_nA (k := 14) (n := 7) hq_62 hm_52 hk_53)
  have hn_79 : Ln S_64 q_36 6 := by rw [eS_65]; exact (ln_nA (k := 14) hq_62 hm_52 hn_54)
  have hz_80 : ∀ j, aI S_64 q_36 j = 0 := by rw [eS_65]; exact (fun j9 => rd_nAI (k := 14) (n := 7) hq_62 hm_52 (hz_55 j9))
  have hm_81 : q_61 ∈ hL S_64 := by rw [eS_65]; exact mem_new
  have hk_82 : Kd S_64 q_61 14 := by rw [eS_65]; exact (kd_nA' (k := 14) (n := 7))
  have hn_83 : Ln S_64 q_61 7 := by rw [eS_65]; exact (ln_nA' (k := 14))
  have hz_84 : ∀ j, aI S_64 q_61 j = 0 := by rw [eS_65]; exact (fun j9 => rd_nAI' (k := 14) (n := 7))
  have hv_85 : hI S_64 1110 h = (-1) := by rw [eS_65]; exact (rd_sIf (S := (sI (sR (nA S_39 q_61 14 7) 1104 h (some q_61)) 1110 h (-1))) (g := 1111) (a := h) (v := (-1)) (by decide) (rd_sI (S := (sR (nA S_39 q_61 14 7) 1104 h (some q_61))) (g := 1110) (a := h) (v := (-1))))
  have hv_86 : hI S_64 1111 h = (-1) := by rw [eS_65]; exact (rd_sI (S := (sI (sR (nA S_39 q_61 14 7) 1104 h (some q_61)) 1110 h (-1))) (g := 1111) (a := h) (v := (-1)))
  have hv_87 : hR S_64 1100 h = (some q_1) := by rw [eS_65]; exact (rd_sRf (S := (nA S_39 q_61 14 7)) (g := 1104) (a := h) (v := (some q_61)) (by decide) hv_56)
  have hv_88 : hR S_64 1102 h = (some q_16) := by rw [eS_65]; exact (rd_sRf (S := (nA S_39 q_61 14 7)) (g := 1104) (a := h) (v := (some q_61)) (by decide) hv_57)
  have hv_89 : hR S_64 1103 h = (some q_36) := by rw [eS_65]; exact (rd_sRf (S := (nA S_39 q_61 14 7)) (g := 1104) (a := h) (v := (some q_61)) (by decide) hv_58)
  have hv_90 : hR S_64 1104 h = (some q_61) := by rw [eS_65]; exact (rd_sR (S := (nA S_39 q_61 14 7)) (g := 1104) (a := h) (v := (some q_61)))
  have hf_91 : Fm (fun f9 b9 => (f9 = 1110 ∧ b9 = h) ∨ (f9 = 1111 ∧ b9 = h)) (fun f9 b9 => b9 = h) (fun _ => False) S S_64 := by rw [eS_65]; exact hf_66
  have hN_92 : NL S [q_1, q_16, q_36, q_61] S_64 := by rw [eS_65]; exact (NL.sI (S := (sI (sR (nA S_39 q_61 14 7) 1104 h (some q_61)) 1110 h (-1))) (NL.sI (S := (sR (nA S_39 q_61 14 7) 1104 h (some q_61))) (NL.sR (S := (nA S_39 q_61 14 7)) (show NL S [q_1, q_16, q_36, q_61] (nA S_39 q_61 14 7) from NL.nA hN_60 hq_62 hz_63))))
  refine j_new (N := 10) C (ci := 6) rfl rfl klX11_30 knX6 kiX6 (M.cells (by decide)) (M.slots (by decide)) dX11_init_49 (fun q_93 hq_94 => ?_)
  have hz_95 : q_93 ∉ hL S := fun h9 => hq_94 (hf_91.mem h9)
  refine j_dup C dX11_init_52 rfl ?_
  have hf_96 : Fm (fun f9 b9 => (f9 = 1110 ∧ b9 = h) ∨ (f9 = 1111 ∧ b9 = h)) (fun f9 b9 => b9 = h) (fun _ => False) S (nO S_64 q_93 6) := (hf_91.nO _ hq_94)
  refine j_callI C [] [.ref q_93, .ref h] mlX11_32 mcX6_init (c_X6_init (nO S_64 q_93 6) q_93 mem_new (kd_nO' (k := 6))) (M.rm (by decide) (by decide) (Nat.le_of_ble_eq_true rfl) (Nat.le_of_ble_eq_true rfl)) rfl rfl (Nat.le_of_ble_eq_true rfl) dX11_init_53 (fun r_128 S_129 hp_130 => ?_)
  obtain ⟨rfl, hf_131, q_97, q_98, q_99, q_100, q_101, e_102, e_103, e_104, e_105, e_106, e_107, e_108, e_109, e_110, e_111, e_112, e_113, e_114, e_115, e_116, e_117, e_118, e_119, e_120, e_121, e_122, e_123, e_124, e_125, e_126, hNl_127⟩ := hp_130
  refine J.eq (st' := [.ref q_93, .ref h]) rfl rfl rfl ?_
  have hz_132 : ∀ j, aI S_129 q_1 j = 0 := fun j9 => (hf_131.ai (mem_old hm_69) (fun h9 => h9) j9).trans (hz_72 j9)
  have hz_133 : ∀ j, aI S_129 q_16 j = 0 := fun j9 => (hf_131.ai (mem_old hm_73) (fun h9 => h9) j9).trans (hz_76 j9)
  have hz_134 : ∀ j, aI S_129 q_36 j = 0 := fun j9 => (hf_131.ai (mem_old hm_77) (fun h9 => h9) j9).trans (hz_80 j9)
  have hz_135 : ∀ j, aI S_129 q_61 j = 0 := fun j9 => (hf_131.ai (mem_old hm_81) (fun h9 => h9) j9).trans (hz_84 j9)
  have hm_136 : h ∈ hL S_129 := hf_131.mem (mem_old hm_67)
  have hk_137 : Kd S_129 h 11 := hf_131.kd (mem_old hm_67) (kd_nO (k := 6) hq_94 hm_67 hk_68)
  have hm_138 : q_1 ∈ hL S_129 := hf_131.mem (mem_old hm_69)
  have hk_139 : Kd S_129 q_1 13 := hf_131.kd (mem_old hm_69) (kd_nO (k := 6) hq_94 hm_69 hk_70)
  have hn_140 : Ln S_129 q_1 8000 := hf_131.ln (mem_old hm_69) hn_71
  have hm_141 : q_16 ∈ hL S_129 := hf_131.mem (mem_old hm_73)
  have hk_142 : Kd S_129 q_16 13 := hf_131.kd (mem_old hm_73) (kd_nO (k := 6) hq_94 hm_73 hk_74)
  have hn_143 : Ln S_129 q_16 12000 := hf_131.ln (mem_old hm_73) hn_75
  have hm_144 : q_36 ∈ hL S_129 := hf_131.mem (mem_old hm_77)
  have hk_145 : Kd S_129 q_36 14 := hf_131.kd (mem_old hm_77) (kd_nO (k := 6) hq_94 hm_77 hk_78)
  have hn_146 : Ln S_129 q_36 6 := hf_131.ln (mem_old hm_77) hn_79
  have hm_147 : q_61 ∈ hL S_129 := hf_131.mem (mem_old hm_81)
  have hk_148 : Kd S_129 q_61 14 := hf_131.kd (mem_old hm_81) (kd_nO (k := 6) hq_94 hm_81 hk_82)
  have hn_149 : Ln S_129 q_61 7 := hf_131.ln (mem_old hm_81) hn_83
  have hm_150 : q_93 ∈ hL S_129 := hf_131.mem mem_new
  have hk_151 : Kd S_129 q_93 6 := hf_131.kd mem_new (kd_nO' (k := 6))
  have hv_152 : hI S_129 1110 h = (-1) := hf_131.fi (mem_old hm_67) (fun h9 => h9) (rd_nOI (k := 6) hq_94 hm_67 hv_85)
  have hv_153 : hI S_129 1111 h = (-1) := hf_131.fi (mem_old hm_67) (fun h9 => h9) (rd_nOI (k := 6) hq_94 hm_67 hv_86)
  have hv_154 : hI S_129 601 q_93 = 0 := hf_131.fi mem_new (fun h9 => h9) (rd_nOI' (k := 6))
  have hv_155 : hI S_129 602 q_93 = 0 := hf_131.fi mem_new (fun h9 => h9) (rd_nOI' (k := 6))
  have hv_156 : hI S_129 603 q_93 = 0 := hf_131.fi mem_new (fun h9 => h9) (rd_nOI' (k := 6))
  have hv_157 : hR S_129 1100 h = (some q_1) := hf_131.fr (mem_old hm_67) (fun q9 => (fun e9 => absurd (((kd_nO (k := 6) hq_94 hm_67 hk_68)).symm.trans ((congrArg (hK _) e9).trans (kd_nO' (k := 6)))) (by decide)) q9) (rd_nOR (k := 6) hq_94 hm_67 hv_87)
  have hv_158 : hR S_129 1102 h = (some q_16) := hf_131.fr (mem_old hm_67) (fun q9 => (fun e9 => absurd (((kd_nO (k := 6) hq_94 hm_67 hk_68)).symm.trans ((congrArg (hK _) e9).trans (kd_nO' (k := 6)))) (by decide)) q9) (rd_nOR (k := 6) hq_94 hm_67 hv_88)
  have hv_159 : hR S_129 1103 h = (some q_36) := hf_131.fr (mem_old hm_67) (fun q9 => (fun e9 => absurd (((kd_nO (k := 6) hq_94 hm_67 hk_68)).symm.trans ((congrArg (hK _) e9).trans (kd_nO' (k := 6)))) (by decide)) q9) (rd_nOR (k := 6) hq_94 hm_67 hv_89)
  have hv_160 : hR S_129 1104 h = (some q_61) := hf_131.fr (mem_old hm_67) (fun q9 => (fun e9 => absurd (((kd_nO (k := 6) hq_94 hm_67 hk_68)).symm.trans ((congrArg (hK _) e9).trans (kd_nO' (k := 6)))) (by decide)) q9) (rd_nOR (k := 6) hq_94 hm_67 hv_90)
  have hf_161 : Fm (fun f9 b9 => (f9 = 1110 ∧ b9 = h) ∨ (f9 = 1111 ∧ b9 = h)) (fun f9 b9 => b9 = h) (fun _ => False) S S_129 := hf_96.then hf_131 (fun a9 ha9 => ⟨(fun f9 h9 => h9.elim), (fun f9 h9 => (fun h8 => absurd (h8 ▸ ha9) hz_95) h9), (fun h9 => h9.elim)⟩)
  have hN_162 : NL S [q_1, q_16, q_36, q_61, q_93] S_129 := NL.mono (show NL S [q_1, q_16, q_36, q_61, q_93] (nO S_64 q_93 6) from NL.nO hN_92 hq_94 hz_95) (fun a9 h9 => hf_131.mem h9)
  have hz_163 : q_97 ∉ hL S := fun h9 => e_102 (hf_96.mem h9)
  have hz_164 : q_98 ∉ hL S := fun h9 => e_107 (hf_96.mem h9)
  have hz_165 : q_99 ∉ hL S := fun h9 => e_112 (hf_96.mem h9)
  have hz_166 : q_100 ∉ hL S := fun h9 => e_117 (hf_96.mem h9)
  have hz_167 : q_101 ∉ hL S := fun h9 => e_122 (hf_96.mem h9)
  have hN_168 : NL S [q_1, q_16, q_36, q_61, q_93, q_97, q_98, q_99, q_100, q_101] S_129 := NL.app (show NL S [q_1, q_16, q_36, q_61, q_93] (nO S_64 q_93 6) from NL.nO hN_92 hq_94 hz_95) hNl_127 (fun a9 h9 => hf_131.mem h9) (fun a9 h9 => hf_96.mem h9)
  refine j_putrF (f := 1106) C hm9 flX11_33o (by decide) rfl rfl dX11_init_56 hm_136 hk_137 rfl ?_
  refine j_aload_n C dX11_init_59 rfl 0 rfl ?_
  have hf_171 : Fm (fun f9 b9 => (f9 = 1110 ∧ b9 = h) ∨ (f9 = 1111 ∧ b9 = h)) (fun f9 b9 => b9 = h) (fun _ => False) S (sR S_129 1106 h (some q_93)) := (hf_161.sR _ (fun _ => rfl))
  refine j_new (N := 19) C (ci := 9) rfl rfl klX11_37 knX9 kiX9 (M.cells (by decide)) (M.slots (by decide)) dX11_init_60 (fun q_169 hq_170 => ?_)
  have hz_172 : q_169 ∉ hL S := fun h9 => hq_170 (hf_171.mem h9)
  refine j_dup C dX11_init_63 rfl ?_
  show J _ _ _ _ _ 64 _
  refine j_aload_n C dX11_init_64 rfl 0 rfl ?_
  refine j_getr (f := 1106) (v := q_93) C flX11_33 dX11_init_65 (mem_old hm_136) (kd_nO (k := 9) hq_170 hm_136 hk_137) (by decide) rfl (rd_nOR (k := 9) hq_170 hm_136 (rd_sR (S := S_129) (g := 1106) (a := h) (v := (some q_93)))) ?_
  have hf_173 : Fm (fun f9 b9 => (f9 = 1110 ∧ b9 = h) ∨ (f9 = 1111 ∧ b9 = h)) (fun f9 b9 => b9 = h) (fun _ => False) S (nO (sR S_129 1106 h (some q_93)) q_169 9) := (hf_171.nO _ hq_170)
  refine j_callI C [.ref q_93] [.ref q_169, .ref h] mlX11_39 mcX9_init (c_X9_init (nO (sR S_129 1106 h (some q_93)) q_169 9) q_169 mem_new (kd_nO' (k := 9)) q_93) (M.rm (by decide) (by decide) (Nat.le_of_ble_eq_true rfl) (Nat.le_of_ble_eq_true rfl)) rfl rfl (Nat.le_of_ble_eq_true rfl) dX11_init_68 (fun r_319 S_320 hp_321 => ?_)
  obtain ⟨rfl, hf_322, e_199, q_174, q_175, q_176, q_177, q_178, q_179, q_180, q_181, q_182, q_183, q_184, q_185, q_186, q_187, q_188, q_189, q_190, q_191, q_192, q_193, q_194, q_195, q_196, q_197, q_198, e_200, e_201, e_202, e_203, e_204, e_205, e_206, e_207, e_208, e_209, e_210, e_211, e_212, e_213, e_214, e_215, e_216, e_217, e_218, e_219, e_220, e_221, e_222, e_223, e_224, e_225, e_226, e_227, e_228, e_229, e_230, e_231, e_232, e_233, e_234, e_235, e_236, e_237, e_238, e_239, e_240, e_241, e_242, e_243, e_244, e_245, e_246, e_247, e_248, e_249, e_250, e_251, e_252, e_253, e_254, e_255, e_256, e_257, e_258, e_259, e_260, e_261, e_262, e_263, e_264, e_265, e_266, e_267, e_268, e_269, e_270, e_271, e_272, e_273, e_274, e_275, e_276, e_277, e_278, e_279, e_280, e_281, e_282, e_283, e_284, e_285, e_286, e_287, e_288, e_289, e_290, e_291, e_292, e_293, e_294, e_295, e_296, e_297, e_298, e_299, e_300, e_301, e_302, e_303, e_304, e_305, e_306, e_307, e_308, e_309, e_310, e_311, e_312, e_313, e_314, e_315, e_316, e_317, hNl_318⟩ := hp_321
  refine J.eq (st' := [.ref q_169, .ref h]) rfl rfl rfl ?_
  have hz_323 : ∀ j, aI S_320 q_1 j = 0 := fun j9 => (hf_322.ai (mem_old hm_138) (fun h9 => h9) j9).trans (hz_132 j9)
  have hz_324 : ∀ j, aI S_320 q_16 j = 0 := fun j9 => (hf_322.ai (mem_old hm_141) (fun h9 => h9) j9).trans (hz_133 j9)
  have hz_325 : ∀ j, aI S_320 q_36 j = 0 := fun j9 => (hf_322.ai (mem_old hm_144) (fun h9 => h9) j9).trans (hz_134 j9)
  have hz_326 : ∀ j, aI S_320 q_61 j = 0 := fun j9 => (hf_322.ai (mem_old hm_147) (fun h9 => h9) j9).trans (hz_135 j9)
  have hm_327 : h ∈ hL S_320 := hf_322.mem (mem_old hm_136)
  have hk_328 : Kd S_320 h 11 := hf_322.kd (mem_old hm_136) (kd_nO (k := 9) hq_170 hm_136 hk_137)
  have hm_329 : q_1 ∈ hL S_320 := hf_322.mem (mem_old hm_138)
  have hk_330 : Kd S_320 q_1 13 := hf_322.kd (mem_old hm_138) (kd_nO (k := 9) hq_170 hm_138 hk_139)
  have hn_331 : Ln S_320 q_1 8000 := hf_322.ln (mem_old hm_138) hn_140
  have hm_332 : q_100 ∈ hL S_320 := hf_322.mem (mem_old e_118)
  have hk_333 : Kd S_320 q_100 21 := hf_322.kd (mem_old e_118) (kd_nO (k := 9) hq_170 e_118 e_119)
  have hn_334 : Ln S_320 q_100 13 := hf_322.ln (mem_old e_118) e_120
  have hm_335 : q_101 ∈ hL S_320 := hf_322.mem (mem_old e_123)
  have hk_336 : Kd S_320 q_101 14 := hf_322.kd (mem_old e_123) (kd_nO (k := 9) hq_170 e_123 e_124)
  have hn_337 : Ln S_320 q_101 16000 := hf_322.ln (mem_old e_123) e_125
  have hm_338 : q_16 ∈ hL S_320 := hf_322.mem (mem_old hm_141)
  have hk_339 : Kd S_320 q_16 13 := hf_322.kd (mem_old hm_141) (kd_nO (k := 9) hq_170 hm_141 hk_142)
  have hn_340 : Ln S_320 q_16 12000 := hf_322.ln (mem_old hm_141) hn_143
  have hm_341 : q_169 ∈ hL S_320 := hf_322.mem mem_new
  have hk_342 : Kd S_320 q_169 9 := hf_322.kd mem_new (kd_nO' (k := 9))
  have hm_343 : q_36 ∈ hL S_320 := hf_322.mem (mem_old hm_144)
  have hk_344 : Kd S_320 q_36 14 := hf_322.kd (mem_old hm_144) (kd_nO (k := 9) hq_170 hm_144 hk_145)
  have hn_345 : Ln S_320 q_36 6 := hf_322.ln (mem_old hm_144) hn_146
  have hm_346 : q_61 ∈ hL S_320 := hf_322.mem (mem_old hm_147)
  have hk_347 : Kd S_320 q_61 14 := hf_322.kd (mem_old hm_147) (kd_nO (k := 9) hq_170 hm_147 hk_148)
  have hn_348 : Ln S_320 q_61 7 := hf_322.ln (mem_old hm_147) hn_149
  have hm_349 : q_93 ∈ hL S_320 := hf_322.mem (mem_old hm_150)
  have hk_350 : Kd S_320 q_93 6 := hf_322.kd (mem_old hm_150) (kd_nO (k := 9) hq_170 hm_150 hk_151)
  have hm_351 : q_97 ∈ hL S_320 := hf_322.mem (mem_old e_103)
  have hk_352 : Kd S_320 q_97 13 := hf_322.kd (mem_old e_103) (kd_nO (k := 9) hq_170 e_103 e_104)
  have hn_353 : Ln S_320 q_97 60000 := hf_322.ln (mem_old e_103) e_105
  have hm_354 : q_98 ∈ hL S_320 := hf_322.mem (mem_old e_108)
  have hk_355 : Kd S_320 q_98 14 := hf_322.kd (mem_old e_108) (kd_nO (k := 9) hq_170 e_108 e_109)
  have hn_356 : Ln S_320 q_98 12 := hf_322.ln (mem_old e_108) e_110
  have hm_357 : q_99 ∈ hL S_320 := hf_322.mem (mem_old e_113)
  have hk_358 : Kd S_320 q_99 14 := hf_322.kd (mem_old e_113) (kd_nO (k := 9) hq_170 e_113 e_114)
  have hn_359 : Ln S_320 q_99 12 := hf_322.ln (mem_old e_113) e_115
  have hv_360 : hI S_320 1110 h = (-1) := hf_322.fi (mem_old hm_136) (fun h9 => h9) (rd_nOI (k := 9) hq_170 hm_136 hv_152)
  have hv_361 : hI S_320 1111 h = (-1) := hf_322.fi (mem_old hm_136) (fun h9 => h9) (rd_nOI (k := 9) hq_170 hm_136 hv_153)
  have hv_362 : hI S_320 601 q_93 = 0 := hf_322.fi (mem_old hm_150) (fun h9 => h9) (rd_nOI (k := 9) hq_170 hm_150 hv_154)
  have hv_363 : hI S_320 602 q_93 = 0 := hf_322.fi (mem_old hm_150) (fun h9 => h9) (rd_nOI (k := 9) hq_170 hm_150 hv_155)
  have hv_364 : hI S_320 603 q_93 = 0 := hf_322.fi (mem_old hm_150) (fun h9 => h9) (rd_nOI (k := 9) hq_170 hm_150 hv_156)
  have hv_365 : hI S_320 914 q_169 = 0 := hf_322.fi mem_new (fun h9 => h9) (rd_nOI' (k := 9))
  have hv_366 : hI S_320 916 q_169 = 0 := hf_322.fi mem_new (fun h9 => h9) (rd_nOI' (k := 9))
  have hv_367 : hI S_320 918 q_169 = 0 := hf_322.fi mem_new (fun h9 => h9) (rd_nOI' (k := 9))
  have hv_368 : hR S_320 1100 h = (some q_1) := hf_322.fr (mem_old hm_136) (fun q9 => (fun e9 => absurd (((kd_nO (k := 9) hq_170 hm_136 hk_137)).symm.trans ((congrArg (hK _) e9).trans (kd_nO' (k := 9)))) (by decide)) q9) (rd_nOR (k := 9) hq_170 hm_136 (rd_sRf (S := S_129) (g := 1106) (a := h) (v := (some q_93)) (by decide) hv_157))
  have hv_369 : hR S_320 1102 h = (some q_16) := hf_322.fr (mem_old hm_136) (fun q9 => (fun e9 => absurd (((kd_nO (k := 9) hq_170 hm_136 hk_137)).symm.trans ((congrArg (hK _) e9).trans (kd_nO' (k := 9)))) (by decide)) q9) (rd_nOR (k := 9) hq_170 hm_136 (rd_sRf (S := S_129) (g := 1106) (a := h) (v := (some q_93)) (by decide) hv_158))
  have hv_370 : hR S_320 1103 h = (some q_36) := hf_322.fr (mem_old hm_136) (fun q9 => (fun e9 => absurd (((kd_nO (k := 9) hq_170 hm_136 hk_137)).symm.trans ((congrArg (hK _) e9).trans (kd_nO' (k := 9)))) (by decide)) q9) (rd_nOR (k := 9) hq_170 hm_136 (rd_sRf (S := S_129) (g := 1106) (a := h) (v := (some q_93)) (by decide) hv_159))
  have hv_371 : hR S_320 1104 h = (some q_61) := hf_322.fr (mem_old hm_136) (fun q9 => (fun e9 => absurd (((kd_nO (k := 9) hq_170 hm_136 hk_137)).symm.trans ((congrArg (hK _) e9).trans (kd_nO' (k := 9)))) (by decide)) q9) (rd_nOR (k := 9) hq_170 hm_136 (rd_sRf (S := S_129) (g := 1106) (a := h) (v := (some q_93)) (by decide) hv_160))
  have hv_372 : hR S_320 1106 h = (some q_93) := hf_322.fr (mem_old hm_136) (fun q9 => (fun e9 => absurd (((kd_nO (k := 9) hq_170 hm_136 hk_137)).symm.trans ((congrArg (hK _) e9).trans (kd_nO' (k := 9)))) (by decide)) q9) (rd_nOR (k := 9) hq_170 hm_136 (rd_sR (S := S_129) (g := 1106) (a := h) (v := (some q_93))))
  have hv_373 : hR S_320 600 q_93 = (some q_97) := hf_322.fr (mem_old hm_150) (fun q9 => (fun e9 => absurd (((kd_nO (k := 9) hq_170 hm_150 hk_151)).symm.trans ((congrArg (hK _) e9).trans (kd_nO' (k := 9)))) (by decide)) q9) (rd_nOR (k := 9) hq_170 hm_150 (rd_sRf (S := S_129) (g := 1106) (a := h) (v := (some q_93)) (by decide) e_106))
  have hv_374 : hR S_320 604 q_93 = (some q_98) := hf_322.fr (mem_old hm_150) (fun q9 => (fun e9 => absurd (((kd_nO (k := 9) hq_170 hm_150 hk_151)).symm.trans ((congrArg (hK _) e9).trans (kd_nO' (k := 9)))) (by decide)) q9) (rd_nOR (k := 9) hq_170 hm_150 (rd_sRf (S := S_129) (g := 1106) (a := h) (v := (some q_93)) (by decide) e_111))
  have hv_375 : hR S_320 605 q_93 = (some q_99) := hf_322.fr (mem_old hm_150) (fun q9 => (fun e9 => absurd (((kd_nO (k := 9) hq_170 hm_150 hk_151)).symm.trans ((congrArg (hK _) e9).trans (kd_nO' (k := 9)))) (by decide)) q9) (rd_nOR (k := 9) hq_170 hm_150 (rd_sRf (S := S_129) (g := 1106) (a := h) (v := (some q_93)) (by decide) e_116))
  have hv_376 : hR S_320 606 q_93 = (some q_100) := hf_322.fr (mem_old hm_150) (fun q9 => (fun e9 => absurd (((kd_nO (k := 9) hq_170 hm_150 hk_151)).symm.trans ((congrArg (hK _) e9).trans (kd_nO' (k := 9)))) (by decide)) q9) (rd_nOR (k := 9) hq_170 hm_150 (rd_sRf (S := S_129) (g := 1106) (a := h) (v := (some q_93)) (by decide) e_121))
  have hf_377 : Fm (fun f9 b9 => (f9 = 1110 ∧ b9 = h) ∨ (f9 = 1111 ∧ b9 = h)) (fun f9 b9 => b9 = h) (fun _ => False) S S_320 := hf_173.then hf_322 (fun a9 ha9 => ⟨(fun f9 h9 => h9.elim), (fun f9 h9 => (fun h8 => absurd (h8 ▸ ha9) hz_172) h9), (fun h9 => h9.elim)⟩)
  have hN_378 : NL S [q_1, q_16, q_36, q_61, q_93, q_97, q_98, q_99, q_100, q_101, q_169] S_320 := NL.mono (show NL S [q_1, q_16, q_36, q_61, q_93, q_97, q_98, q_99, q_100, q_101, q_169] (nO (sR S_129 1106 h (some q_93)) q_169 9) from NL.nO (NL.sR (S := S_129) hN_168) hq_170 hz_172) (fun a9 h9 => hf_322.mem h9)
  have hE_379 : aR S_320 q_100 0 = some q_101 := (hf_322.ar (mem_old e_118) (fun h9 => h9) 0).trans (rxA_nO (S := (sR S_129 1106 h (some q_93))) (rxA_sR (S := S_129) e_126))
  have hz_380 : q_174 ∉ hL S := fun h9 => e_200 (hf_173.mem h9)
  have hz_381 : q_175 ∉ hL S := fun h9 => e_204 (hf_173.mem h9)
  have hz_382 : q_176 ∉ hL S := fun h9 => e_209 (hf_173.mem h9)
  have hz_383 : q_177 ∉ hL S := fun h9 => e_214 (hf_173.mem h9)
  have hz_384 : q_178 ∉ hL S := fun h9 => e_218 (hf_173.mem h9)
  have hz_385 : q_179 ∉ hL S := fun h9 => e_222 (hf_173.mem h9)
  have hz_386 : q_180 ∉ hL S := fun h9 => e_228 (hf_173.mem h9)
  have hz_387 : q_181 ∉ hL S := fun h9 => e_233 (hf_173.mem h9)
  have hz_388 : q_182 ∉ hL S := fun h9 => e_238 (hf_173.mem h9)
  have hz_389 : q_183 ∉ hL S := fun h9 => e_242 (hf_173.mem h9)
  have hz_390 : q_184 ∉ hL S := fun h9 => e_248 (hf_173.mem h9)
  have hz_391 : q_185 ∉ hL S := fun h9 => e_252 (hf_173.mem h9)
  have hz_392 : q_186 ∉ hL S := fun h9 => e_257 (hf_173.mem h9)
  have hz_393 : q_187 ∉ hL S := fun h9 => e_261 (hf_173.mem h9)
  have hz_394 : q_188 ∉ hL S := fun h9 => e_267 (hf_173.mem h9)
  have hz_395 : q_189 ∉ hL S := fun h9 => e_271 (hf_173.mem h9)
  have hz_396 : q_190 ∉ hL S := fun h9 => e_275 (hf_173.mem h9)
  have hz_397 : q_191 ∉ hL S := fun h9 => e_279 (hf_173.mem h9)
  have hz_398 : q_192 ∉ hL S := fun h9 => e_284 (hf_173.mem h9)
  have hz_399 : q_193 ∉ hL S := fun h9 => e_288 (hf_173.mem h9)
  have hz_400 : q_194 ∉ hL S := fun h9 => e_293 (hf_173.mem h9)
  have hz_401 : q_195 ∉ hL S := fun h9 => e_298 (hf_173.mem h9)
  have hz_402 : q_196 ∉ hL S := fun h9 => e_303 (hf_173.mem h9)
  have hz_403 : q_197 ∉ hL S := fun h9 => e_308 (hf_173.mem h9)
  have hz_404 : q_198 ∉ hL S := fun h9 => e_313 (hf_173.mem h9)
  have hN_405 : NL S [q_1, q_16, q_36, q_61, q_93, q_97, q_98, q_99, q_100, q_101, q_169, q_174, q_175, q_176, q_177, q_178, q_179, q_180, q_181, q_182, q_183, q_184, q_185, q_186, q_187, q_188, q_189, q_190, q_191, q_192, q_193, q_194, q_195, q_196, q_197, q_198] S_320 := NL.app (show NL S [q_1, q_16, q_36, q_61, q_93, q_97, q_98, q_99, q_100, q_101, q_169] (nO (sR S_129 1106 h (some q_93)) q_169 9) from NL.nO (NL.sR (S := S_129) hN_168) hq_170 hz_172) hNl_318 (fun a9 h9 => hf_322.mem h9) (fun a9 h9 => hf_173.mem h9)
  refine j_putrF (f := 1107) C hm9 flX11_42o (by decide) rfl rfl dX11_init_71 hm_327 hk_328 rfl ?_
  refine j_aload_n C dX11_init_74 rfl 0 rfl ?_
  have hf_408 : Fm (fun f9 b9 => (f9 = 1110 ∧ b9 = h) ∨ (f9 = 1111 ∧ b9 = h)) (fun f9 b9 => b9 = h) (fun _ => False) S (sR S_320 1107 h (some q_169)) := (hf_377.sR _ (fun _ => rfl))
  refine j_new (N := 21) C (ci := 3) rfl rfl klX11_46 knX3 kiX3 (M.cells (by decide)) (M.slots (by decide)) dX11_init_75 (fun q_406 hq_407 => ?_)
  have hz_409 : q_406 ∉ hL S := fun h9 => hq_407 (hf_408.mem h9)
  refine j_dup C dX11_init_78 rfl ?_
  refine j_aload_n C dX11_init_79 rfl 0 rfl ?_
  show J _ _ _ _ _ 80 _
  refine j_getr (f := 1106) (v := q_93) C flX11_33 dX11_init_80 (mem_old hm_327) (kd_nO (k := 3) hq_407 hm_327 hk_328) (by decide) rfl (rd_nOR (k := 3) hq_407 hm_327 (rd_sRf (S := S_320) (g := 1107) (a := h) (v := (some q_169)) (by decide) hv_372)) ?_
  have hf_410 : Fm (fun f9 b9 => (f9 = 1110 ∧ b9 = h) ∨ (f9 = 1111 ∧ b9 = h)) (fun f9 b9 => b9 = h) (fun _ => False) S (nO (sR S_320 1107 h (some q_169)) q_406 3) := (hf_408.nO _ hq_407)
  refine j_callI C [.ref q_93] [.ref q_406, .ref h] mlX11_48 mcX3_init (c_X3_init (nO (sR S_320 1107 h (some q_169)) q_406 3) q_406 mem_new (kd_nO' (k := 3)) q_93) (M.rm (by decide) (by decide) (Nat.le_of_ble_eq_true rfl) (Nat.le_of_ble_eq_true rfl)) rfl rfl (Nat.le_of_ble_eq_true rfl) dX11_init_83 (fun r_411 S_412 hp_413 => ?_)
  obtain ⟨rfl, hf_414⟩ := hp_413
  refine J.eq (st' := [.ref q_406, .ref h]) rfl rfl rfl ?_
  have hz_415 : ∀ j, aI S_412 q_1 j = 0 := fun j9 => (hf_414.ai (mem_old hm_329) (fun h9 => h9) j9).trans (hz_323 j9)
  have hz_416 : ∀ j, aI S_412 q_16 j = 0 := fun j9 => (hf_414.ai (mem_old hm_338) (fun h9 => h9) j9).trans (hz_324 j9)
  have hz_417 : ∀ j, aI S_412 q_179 j = 0 := fun j9 => (hf_414.ai (mem_old e_223) (fun h9 => h9) j9).trans (e_227 j9)
  have hz_418 : ∀ j, aI S_412 q_183 j = 0 := fun j9 => (hf_414.ai (mem_old e_243) (fun h9 => h9) j9).trans (e_247 j9)
  have hz_419 : ∀ j, aI S_412 q_187 j = 0 := fun j9 => (hf_414.ai (mem_old e_262) (fun h9 => h9) j9).trans (e_266 j9)
  have hz_420 : ∀ j, aI S_412 q_36 j = 0 := fun j9 => (hf_414.ai (mem_old hm_343) (fun h9 => h9) j9).trans (hz_325 j9)
  have hz_421 : ∀ j, aI S_412 q_61 j = 0 := fun j9 => (hf_414.ai (mem_old hm_346) (fun h9 => h9) j9).trans (hz_326 j9)
  have hm_422 : h ∈ hL S_412 := hf_414.mem (mem_old hm_327)
  have hk_423 : Kd S_412 h 11 := hf_414.kd (mem_old hm_327) (kd_nO (k := 3) hq_407 hm_327 hk_328)
  have hm_424 : q_1 ∈ hL S_412 := hf_414.mem (mem_old hm_329)
  have hk_425 : Kd S_412 q_1 13 := hf_414.kd (mem_old hm_329) (kd_nO (k := 3) hq_407 hm_329 hk_330)
  have hn_426 : Ln S_412 q_1 8000 := hf_414.ln (mem_old hm_329) hn_331
  have hm_427 : q_100 ∈ hL S_412 := hf_414.mem (mem_old hm_332)
  have hk_428 : Kd S_412 q_100 21 := hf_414.kd (mem_old hm_332) (kd_nO (k := 3) hq_407 hm_332 hk_333)
  have hn_429 : Ln S_412 q_100 13 := hf_414.ln (mem_old hm_332) hn_334
  have hm_430 : q_101 ∈ hL S_412 := hf_414.mem (mem_old hm_335)
  have hk_431 : Kd S_412 q_101 14 := hf_414.kd (mem_old hm_335) (kd_nO (k := 3) hq_407 hm_335 hk_336)
  have hn_432 : Ln S_412 q_101 16000 := hf_414.ln (mem_old hm_335) hn_337
  have hm_433 : q_16 ∈ hL S_412 := hf_414.mem (mem_old hm_338)
  have hk_434 : Kd S_412 q_16 13 := hf_414.kd (mem_old hm_338) (kd_nO (k := 3) hq_407 hm_338 hk_339)
  have hn_435 : Ln S_412 q_16 12000 := hf_414.ln (mem_old hm_338) hn_340
  have hm_436 : q_169 ∈ hL S_412 := hf_414.mem (mem_old hm_341)
  have hk_437 : Kd S_412 q_169 9 := hf_414.kd (mem_old hm_341) (kd_nO (k := 3) hq_407 hm_341 hk_342)
  have hm_438 : q_174 ∈ hL S_412 := hf_414.mem (mem_old e_201)
  have hk_439 : Kd S_412 q_174 0 := hf_414.kd (mem_old e_201) (kd_nO (k := 3) hq_407 e_201 e_202)
  have hm_440 : q_175 ∈ hL S_412 := hf_414.mem (mem_old e_205)
  have hk_441 : Kd S_412 q_175 14 := hf_414.kd (mem_old e_205) (kd_nO (k := 3) hq_407 e_205 e_206)
  have hn_442 : Ln S_412 q_175 20000 := hf_414.ln (mem_old e_205) e_207
  have hm_443 : q_176 ∈ hL S_412 := hf_414.mem (mem_old e_210)
  have hk_444 : Kd S_412 q_176 14 := hf_414.kd (mem_old e_210) (kd_nO (k := 3) hq_407 e_210 e_211)
  have hn_445 : Ln S_412 q_176 25 := hf_414.ln (mem_old e_210) e_212
  have hm_446 : q_177 ∈ hL S_412 := hf_414.mem (mem_old e_215)
  have hk_447 : Kd S_412 q_177 2 := hf_414.kd (mem_old e_215) (kd_nO (k := 3) hq_407 e_215 e_216)
  have hm_448 : q_178 ∈ hL S_412 := hf_414.mem (mem_old e_219)
  have hk_449 : Kd S_412 q_178 8 := hf_414.kd (mem_old e_219) (kd_nO (k := 3) hq_407 e_219 e_220)
  have hm_450 : q_179 ∈ hL S_412 := hf_414.mem (mem_old e_223)
  have hk_451 : Kd S_412 q_179 14 := hf_414.kd (mem_old e_223) (kd_nO (k := 3) hq_407 e_223 e_224)
  have hn_452 : Ln S_412 q_179 16 := hf_414.ln (mem_old e_223) e_225
  have hm_453 : q_180 ∈ hL S_412 := hf_414.mem (mem_old e_229)
  have hk_454 : Kd S_412 q_180 14 := hf_414.kd (mem_old e_229) (kd_nO (k := 3) hq_407 e_229 e_230)
  have hn_455 : Ln S_412 q_180 119 := hf_414.ln (mem_old e_229) e_231
  have hm_456 : q_181 ∈ hL S_412 := hf_414.mem (mem_old e_234)
  have hk_457 : Kd S_412 q_181 14 := hf_414.kd (mem_old e_234) (kd_nO (k := 3) hq_407 e_234 e_235)
  have hn_458 : Ln S_412 q_181 8 := hf_414.ln (mem_old e_234) e_236
  have hm_459 : q_182 ∈ hL S_412 := hf_414.mem (mem_old e_239)
  have hk_460 : Kd S_412 q_182 8 := hf_414.kd (mem_old e_239) (kd_nO (k := 3) hq_407 e_239 e_240)
  have hm_461 : q_183 ∈ hL S_412 := hf_414.mem (mem_old e_243)
  have hk_462 : Kd S_412 q_183 14 := hf_414.kd (mem_old e_243) (kd_nO (k := 3) hq_407 e_243 e_244)
  have hn_463 : Ln S_412 q_183 16 := hf_414.ln (mem_old e_243) e_245
  have hm_464 : q_184 ∈ hL S_412 := hf_414.mem (mem_old e_249)
  have hk_465 : Kd S_412 q_184 10 := hf_414.kd (mem_old e_249) (kd_nO (k := 3) hq_407 e_249 e_250)
  have hm_466 : q_185 ∈ hL S_412 := hf_414.mem (mem_old e_253)
  have hk_467 : Kd S_412 q_185 15 := hf_414.kd (mem_old e_253) (kd_nO (k := 3) hq_407 e_253 e_254)
  have hn_468 : Ln S_412 q_185 16 := hf_414.ln (mem_old e_253) e_255
  have hm_469 : q_186 ∈ hL S_412 := hf_414.mem (mem_old e_258)
  have hk_470 : Kd S_412 q_186 8 := hf_414.kd (mem_old e_258) (kd_nO (k := 3) hq_407 e_258 e_259)
  have hm_471 : q_187 ∈ hL S_412 := hf_414.mem (mem_old e_262)
  have hk_472 : Kd S_412 q_187 14 := hf_414.kd (mem_old e_262) (kd_nO (k := 3) hq_407 e_262 e_263)
  have hn_473 : Ln S_412 q_187 16 := hf_414.ln (mem_old e_262) e_264
  have hm_474 : q_188 ∈ hL S_412 := hf_414.mem (mem_old e_268)
  have hk_475 : Kd S_412 q_188 1 := hf_414.kd (mem_old e_268) (kd_nO (k := 3) hq_407 e_268 e_269)
  have hm_476 : q_189 ∈ hL S_412 := hf_414.mem (mem_old e_272)
  have hk_477 : Kd S_412 q_189 7 := hf_414.kd (mem_old e_272) (kd_nO (k := 3) hq_407 e_272 e_273)
  have hm_478 : q_190 ∈ hL S_412 := hf_414.mem (mem_old e_276)
  have hk_479 : Kd S_412 q_190 4 := hf_414.kd (mem_old e_276) (kd_nO (k := 3) hq_407 e_276 e_277)
  have hm_480 : q_191 ∈ hL S_412 := hf_414.mem (mem_old e_280)
  have hk_481 : Kd S_412 q_191 14 := hf_414.kd (mem_old e_280) (kd_nO (k := 3) hq_407 e_280 e_281)
  have hn_482 : Ln S_412 q_191 20 := hf_414.ln (mem_old e_280) e_282
  have hm_483 : q_192 ∈ hL S_412 := hf_414.mem (mem_old e_285)
  have hk_484 : Kd S_412 q_192 10 := hf_414.kd (mem_old e_285) (kd_nO (k := 3) hq_407 e_285 e_286)
  have hm_485 : q_193 ∈ hL S_412 := hf_414.mem (mem_old e_289)
  have hk_486 : Kd S_412 q_193 15 := hf_414.kd (mem_old e_289) (kd_nO (k := 3) hq_407 e_289 e_290)
  have hn_487 : Ln S_412 q_193 16 := hf_414.ln (mem_old e_289) e_291
  have hm_488 : q_194 ∈ hL S_412 := hf_414.mem (mem_old e_294)
  have hk_489 : Kd S_412 q_194 14 := hf_414.kd (mem_old e_294) (kd_nO (k := 3) hq_407 e_294 e_295)
  have hn_490 : Ln S_412 q_194 8 := hf_414.ln (mem_old e_294) e_296
  have hm_491 : q_195 ∈ hL S_412 := hf_414.mem (mem_old e_299)
  have hk_492 : Kd S_412 q_195 14 := hf_414.kd (mem_old e_299) (kd_nO (k := 3) hq_407 e_299 e_300)
  have hn_493 : Ln S_412 q_195 8 := hf_414.ln (mem_old e_299) e_301
  have hm_494 : q_196 ∈ hL S_412 := hf_414.mem (mem_old e_304)
  have hk_495 : Kd S_412 q_196 19 := hf_414.kd (mem_old e_304) (kd_nO (k := 3) hq_407 e_304 e_305)
  have hn_496 : Ln S_412 q_196 4 := hf_414.ln (mem_old e_304) e_306
  have hm_497 : q_197 ∈ hL S_412 := hf_414.mem (mem_old e_309)
  have hk_498 : Kd S_412 q_197 14 := hf_414.kd (mem_old e_309) (kd_nO (k := 3) hq_407 e_309 e_310)
  have hn_499 : Ln S_412 q_197 12 := hf_414.ln (mem_old e_309) e_311
  have hm_500 : q_198 ∈ hL S_412 := hf_414.mem (mem_old e_314)
  have hk_501 : Kd S_412 q_198 5 := hf_414.kd (mem_old e_314) (kd_nO (k := 3) hq_407 e_314 e_315)
  have hm_502 : q_36 ∈ hL S_412 := hf_414.mem (mem_old hm_343)
  have hk_503 : Kd S_412 q_36 14 := hf_414.kd (mem_old hm_343) (kd_nO (k := 3) hq_407 hm_343 hk_344)
  have hn_504 : Ln S_412 q_36 6 := hf_414.ln (mem_old hm_343) hn_345
  have hm_505 : q_406 ∈ hL S_412 := hf_414.mem mem_new
  have hk_506 : Kd S_412 q_406 3 := hf_414.kd mem_new (kd_nO' (k := 3))
  have hm_507 : q_61 ∈ hL S_412 := hf_414.mem (mem_old hm_346)
  have hk_508 : Kd S_412 q_61 14 := hf_414.kd (mem_old hm_346) (kd_nO (k := 3) hq_407 hm_346 hk_347)
  have hn_509 : Ln S_412 q_61 7 := hf_414.ln (mem_old hm_346) hn_348
  have hm_510 : q_93 ∈ hL S_412 := hf_414.mem (mem_old hm_349)
  have hk_511 : Kd S_412 q_93 6 := hf_414.kd (mem_old hm_349) (kd_nO (k := 3) hq_407 hm_349 hk_350)
  have hm_512 : q_97 ∈ hL S_412 := hf_414.mem (mem_old hm_351)
  have hk_513 : Kd S_412 q_97 13 := hf_414.kd (mem_old hm_351) (kd_nO (k := 3) hq_407 hm_351 hk_352)
  have hn_514 : Ln S_412 q_97 60000 := hf_414.ln (mem_old hm_351) hn_353
  have hm_515 : q_98 ∈ hL S_412 := hf_414.mem (mem_old hm_354)
  have hk_516 : Kd S_412 q_98 14 := hf_414.kd (mem_old hm_354) (kd_nO (k := 3) hq_407 hm_354 hk_355)
  have hn_517 : Ln S_412 q_98 12 := hf_414.ln (mem_old hm_354) hn_356
  have hm_518 : q_99 ∈ hL S_412 := hf_414.mem (mem_old hm_357)
  have hk_519 : Kd S_412 q_99 14 := hf_414.kd (mem_old hm_357) (kd_nO (k := 3) hq_407 hm_357 hk_358)
  have hn_520 : Ln S_412 q_99 12 := hf_414.ln (mem_old hm_357) hn_359
  have hv_521 : hI S_412 1110 h = (-1) := hf_414.fi (mem_old hm_327) (fun h9 => h9) (rd_nOI (k := 3) hq_407 hm_327 hv_360)
  have hv_522 : hI S_412 1111 h = (-1) := hf_414.fi (mem_old hm_327) (fun h9 => h9) (rd_nOI (k := 3) hq_407 hm_327 hv_361)
  have hv_523 : hI S_412 209 q_177 = 0 := hf_414.fi (mem_old e_215) (fun h9 => h9) (rd_nOI (k := 3) hq_407 e_215 e_317)
  have hv_524 : hI S_412 601 q_93 = 0 := hf_414.fi (mem_old hm_349) (fun h9 => h9) (rd_nOI (k := 3) hq_407 hm_349 hv_362)
  have hv_525 : hI S_412 602 q_93 = 0 := hf_414.fi (mem_old hm_349) (fun h9 => h9) (rd_nOI (k := 3) hq_407 hm_349 hv_363)
  have hv_526 : hI S_412 603 q_93 = 0 := hf_414.fi (mem_old hm_349) (fun h9 => h9) (rd_nOI (k := 3) hq_407 hm_349 hv_364)
  have hv_527 : hI S_412 914 q_169 = 0 := hf_414.fi (mem_old hm_341) (fun h9 => h9) (rd_nOI (k := 3) hq_407 hm_341 hv_365)
  have hv_528 : hI S_412 916 q_169 = 0 := hf_414.fi (mem_old hm_341) (fun h9 => h9) (rd_nOI (k := 3) hq_407 hm_341 hv_366)
  have hv_529 : hI S_412 918 q_169 = 0 := hf_414.fi (mem_old hm_341) (fun h9 => h9) (rd_nOI (k := 3) hq_407 hm_341 hv_367)
  have hv_530 : hR S_412 0 q_174 = (some q_175) := hf_414.fr (mem_old e_201) (fun q9 => (fun e9 => absurd (((kd_nO (k := 3) hq_407 e_201 e_202)).symm.trans ((congrArg (hK _) e9).trans (kd_nO' (k := 3)))) (by decide)) q9) (rd_nOR (k := 3) hq_407 e_201 (rd_sRf (S := S_320) (g := 1107) (a := h) (v := (some q_169)) (by decide) e_208))
  have hv_531 : hR S_412 1 q_174 = (some q_176) := hf_414.fr (mem_old e_201) (fun q9 => (fun e9 => absurd (((kd_nO (k := 3) hq_407 e_201 e_202)).symm.trans ((congrArg (hK _) e9).trans (kd_nO' (k := 3)))) (by decide)) q9) (rd_nOR (k := 3) hq_407 e_201 (rd_sRf (S := S_320) (g := 1107) (a := h) (v := (some q_169)) (by decide) e_213))
  have hv_532 : hR S_412 100 q_188 = (some q_189) := hf_414.fr (mem_old e_268) (fun q9 => (fun e9 => absurd (((kd_nO (k := 3) hq_407 e_268 e_269)).symm.trans ((congrArg (hK _) e9).trans (kd_nO' (k := 3)))) (by decide)) q9) (rd_nOR (k := 3) hq_407 e_268 (rd_sRf (S := S_320) (g := 1107) (a := h) (v := (some q_169)) (by decide) e_274))
  have hv_533 : hR S_412 1003 q_184 = (some q_185) := hf_414.fr (mem_old e_249) (fun q9 => (fun e9 => absurd (((kd_nO (k := 3) hq_407 e_249 e_250)).symm.trans ((congrArg (hK _) e9).trans (kd_nO' (k := 3)))) (by decide)) q9) (rd_nOR (k := 3) hq_407 e_249 (rd_sRf (S := S_320) (g := 1107) (a := h) (v := (some q_169)) (by decide) e_256))
  have hv_534 : hR S_412 1003 q_192 = (some q_193) := hf_414.fr (mem_old e_285) (fun q9 => (fun e9 => absurd (((kd_nO (k := 3) hq_407 e_285 e_286)).symm.trans ((congrArg (hK _) e9).trans (kd_nO' (k := 3)))) (by decide)) q9) (rd_nOR (k := 3) hq_407 e_285 (rd_sRf (S := S_320) (g := 1107) (a := h) (v := (some q_169)) (by decide) e_292))
  have hv_535 : hR S_412 101 q_188 = (some q_190) := hf_414.fr (mem_old e_268) (fun q9 => (fun e9 => absurd (((kd_nO (k := 3) hq_407 e_268 e_269)).symm.trans ((congrArg (hK _) e9).trans (kd_nO' (k := 3)))) (by decide)) q9) (rd_nOR (k := 3) hq_407 e_268 (rd_sRf (S := S_320) (g := 1107) (a := h) (v := (some q_169)) (by decide) e_278))
  have hv_536 : hR S_412 102 q_188 = (some q_192) := hf_414.fr (mem_old e_268) (fun q9 => (fun e9 => absurd (((kd_nO (k := 3) hq_407 e_268 e_269)).symm.trans ((congrArg (hK _) e9).trans (kd_nO' (k := 3)))) (by decide)) q9) (rd_nOR (k := 3) hq_407 e_268 (rd_sRf (S := S_320) (g := 1107) (a := h) (v := (some q_169)) (by decide) e_287))
  have hv_537 : hR S_412 103 q_188 = (some q_194) := hf_414.fr (mem_old e_268) (fun q9 => (fun e9 => absurd (((kd_nO (k := 3) hq_407 e_268 e_269)).symm.trans ((congrArg (hK _) e9).trans (kd_nO' (k := 3)))) (by decide)) q9) (rd_nOR (k := 3) hq_407 e_268 (rd_sRf (S := S_320) (g := 1107) (a := h) (v := (some q_169)) (by decide) e_297))
  have hv_538 : hR S_412 104 q_188 = (some q_195) := hf_414.fr (mem_old e_268) (fun q9 => (fun e9 => absurd (((kd_nO (k := 3) hq_407 e_268 e_269)).symm.trans ((congrArg (hK _) e9).trans (kd_nO' (k := 3)))) (by decide)) q9) (rd_nOR (k := 3) hq_407 e_268 (rd_sRf (S := S_320) (g := 1107) (a := h) (v := (some q_169)) (by decide) e_302))
  have hv_539 : hR S_412 1100 h = (some q_1) := hf_414.fr (mem_old hm_327) (fun q9 => (fun e9 => absurd (((kd_nO (k := 3) hq_407 hm_327 hk_328)).symm.trans ((congrArg (hK _) e9).trans (kd_nO' (k := 3)))) (by decide)) q9) (rd_nOR (k := 3) hq_407 hm_327 (rd_sRf (S := S_320) (g := 1107) (a := h) (v := (some q_169)) (by decide) hv_368))
  have hv_540 : hR S_412 1102 h = (some q_16) := hf_414.fr (mem_old hm_327) (fun q9 => (fun e9 => absurd (((kd_nO (k := 3) hq_407 hm_327 hk_328)).symm.trans ((congrArg (hK _) e9).trans (kd_nO' (k := 3)))) (by decide)) q9) (rd_nOR (k := 3) hq_407 hm_327 (rd_sRf (S := S_320) (g := 1107) (a := h) (v := (some q_169)) (by decide) hv_369))
  have hv_541 : hR S_412 1103 h = (some q_36) := hf_414.fr (mem_old hm_327) (fun q9 => (fun e9 => absurd (((kd_nO (k := 3) hq_407 hm_327 hk_328)).symm.trans ((congrArg (hK _) e9).trans (kd_nO' (k := 3)))) (by decide)) q9) (rd_nOR (k := 3) hq_407 hm_327 (rd_sRf (S := S_320) (g := 1107) (a := h) (v := (some q_169)) (by decide) hv_370))
  have hv_542 : hR S_412 1104 h = (some q_61) := hf_414.fr (mem_old hm_327) (fun q9 => (fun e9 => absurd (((kd_nO (k := 3) hq_407 hm_327 hk_328)).symm.trans ((congrArg (hK _) e9).trans (kd_nO' (k := 3)))) (by decide)) q9) (rd_nOR (k := 3) hq_407 hm_327 (rd_sRf (S := S_320) (g := 1107) (a := h) (v := (some q_169)) (by decide) hv_371))
  have hv_543 : hR S_412 1106 h = (some q_93) := hf_414.fr (mem_old hm_327) (fun q9 => (fun e9 => absurd (((kd_nO (k := 3) hq_407 hm_327 hk_328)).symm.trans ((congrArg (hK _) e9).trans (kd_nO' (k := 3)))) (by decide)) q9) (rd_nOR (k := 3) hq_407 hm_327 (rd_sRf (S := S_320) (g := 1107) (a := h) (v := (some q_169)) (by decide) hv_372))
  have hv_544 : hR S_412 1107 h = (some q_169) := hf_414.fr (mem_old hm_327) (fun q9 => (fun e9 => absurd (((kd_nO (k := 3) hq_407 hm_327 hk_328)).symm.trans ((congrArg (hK _) e9).trans (kd_nO' (k := 3)))) (by decide)) q9) (rd_nOR (k := 3) hq_407 hm_327 (rd_sR (S := S_320) (g := 1107) (a := h) (v := (some q_169))))
  have hv_545 : hR S_412 200 q_177 = (some q_178) := hf_414.fr (mem_old e_215) (fun q9 => (fun e9 => absurd (((kd_nO (k := 3) hq_407 e_215 e_216)).symm.trans ((congrArg (hK _) e9).trans (kd_nO' (k := 3)))) (by decide)) q9) (rd_nOR (k := 3) hq_407 e_215 (rd_sRf (S := S_320) (g := 1107) (a := h) (v := (some q_169)) (by decide) e_221))
  have hv_546 : hR S_412 201 q_177 = (some q_180) := hf_414.fr (mem_old e_215) (fun q9 => (fun e9 => absurd (((kd_nO (k := 3) hq_407 e_215 e_216)).symm.trans ((congrArg (hK _) e9).trans (kd_nO' (k := 3)))) (by decide)) q9) (rd_nOR (k := 3) hq_407 e_215 (rd_sRf (S := S_320) (g := 1107) (a := h) (v := (some q_169)) (by decide) e_232))
  have hv_547 : hR S_412 207 q_177 = (some q_181) := hf_414.fr (mem_old e_215) (fun q9 => (fun e9 => absurd (((kd_nO (k := 3) hq_407 e_215 e_216)).symm.trans ((congrArg (hK _) e9).trans (kd_nO' (k := 3)))) (by decide)) q9) (rd_nOR (k := 3) hq_407 e_215 (rd_sRf (S := S_320) (g := 1107) (a := h) (v := (some q_169)) (by decide) e_237))
  have hv_548 : hR S_412 407 q_190 = (some q_191) := hf_414.fr (mem_old e_276) (fun q9 => (fun e9 => absurd (((kd_nO (k := 3) hq_407 e_276 e_277)).symm.trans ((congrArg (hK _) e9).trans (kd_nO' (k := 3)))) (by decide)) q9) (rd_nOR (k := 3) hq_407 e_276 (rd_sRf (S := S_320) (g := 1107) (a := h) (v := (some q_169)) (by decide) e_283))
  have hv_549 : hR S_412 600 q_93 = (some q_97) := hf_414.fr (mem_old hm_349) (fun q9 => (fun e9 => absurd (((kd_nO (k := 3) hq_407 hm_349 hk_350)).symm.trans ((congrArg (hK _) e9).trans (kd_nO' (k := 3)))) (by decide)) q9) (rd_nOR (k := 3) hq_407 hm_349 (rd_sRf (S := S_320) (g := 1107) (a := h) (v := (some q_169)) (by decide) hv_373))
  have hv_550 : hR S_412 604 q_93 = (some q_98) := hf_414.fr (mem_old hm_349) (fun q9 => (fun e9 => absurd (((kd_nO (k := 3) hq_407 hm_349 hk_350)).symm.trans ((congrArg (hK _) e9).trans (kd_nO' (k := 3)))) (by decide)) q9) (rd_nOR (k := 3) hq_407 hm_349 (rd_sRf (S := S_320) (g := 1107) (a := h) (v := (some q_169)) (by decide) hv_374))
  have hv_551 : hR S_412 605 q_93 = (some q_99) := hf_414.fr (mem_old hm_349) (fun q9 => (fun e9 => absurd (((kd_nO (k := 3) hq_407 hm_349 hk_350)).symm.trans ((congrArg (hK _) e9).trans (kd_nO' (k := 3)))) (by decide)) q9) (rd_nOR (k := 3) hq_407 hm_349 (rd_sRf (S := S_320) (g := 1107) (a := h) (v := (some q_169)) (by decide) hv_375))
  have hv_552 : hR S_412 606 q_93 = (some q_100) := hf_414.fr (mem_old hm_349) (fun q9 => (fun e9 => absurd (((kd_nO (k := 3) hq_407 hm_349 hk_350)).symm.trans ((congrArg (hK _) e9).trans (kd_nO' (k := 3)))) (by decide)) q9) (rd_nOR (k := 3) hq_407 hm_349 (rd_sRf (S := S_320) (g := 1107) (a := h) (v := (some q_169)) (by decide) hv_376))
  have hv_553 : hR S_412 800 q_178 = (some q_179) := hf_414.fr (mem_old e_219) (fun q9 => (fun e9 => absurd (((kd_nO (k := 3) hq_407 e_219 e_220)).symm.trans ((congrArg (hK _) e9).trans (kd_nO' (k := 3)))) (by decide)) q9) (rd_nOR (k := 3) hq_407 e_219 (rd_sRf (S := S_320) (g := 1107) (a := h) (v := (some q_169)) (by decide) e_226))
  have hv_554 : hR S_412 800 q_182 = (some q_183) := hf_414.fr (mem_old e_239) (fun q9 => (fun e9 => absurd (((kd_nO (k := 3) hq_407 e_239 e_240)).symm.trans ((congrArg (hK _) e9).trans (kd_nO' (k := 3)))) (by decide)) q9) (rd_nOR (k := 3) hq_407 e_239 (rd_sRf (S := S_320) (g := 1107) (a := h) (v := (some q_169)) (by decide) e_246))
  have hv_555 : hR S_412 800 q_186 = (some q_187) := hf_414.fr (mem_old e_258) (fun q9 => (fun e9 => absurd (((kd_nO (k := 3) hq_407 e_258 e_259)).symm.trans ((congrArg (hK _) e9).trans (kd_nO' (k := 3)))) (by decide)) q9) (rd_nOR (k := 3) hq_407 e_258 (rd_sRf (S := S_320) (g := 1107) (a := h) (v := (some q_169)) (by decide) e_265))
  have hv_556 : hR S_412 900 q_169 = (some q_93) := hf_414.fr (mem_old hm_341) (fun q9 => (fun e9 => absurd (((kd_nO (k := 3) hq_407 hm_341 hk_342)).symm.trans ((congrArg (hK _) e9).trans (kd_nO' (k := 3)))) (by decide)) q9) (rd_nOR (k := 3) hq_407 hm_341 (rd_sRf (S := S_320) (g := 1107) (a := h) (v := (some q_169)) (by decide) e_199))
  have hv_557 : hR S_412 901 q_169 = (some q_174) := hf_414.fr (mem_old hm_341) (fun q9 => (fun e9 => absurd (((kd_nO (k := 3) hq_407 hm_341 hk_342)).symm.trans ((congrArg (hK _) e9).trans (kd_nO' (k := 3)))) (by decide)) q9) (rd_nOR (k := 3) hq_407 hm_341 (rd_sRf (S := S_320) (g := 1107) (a := h) (v := (some q_169)) (by decide) e_203))
  have hv_558 : hR S_412 902 q_169 = (some q_177) := hf_414.fr (mem_old hm_341) (fun q9 => (fun e9 => absurd (((kd_nO (k := 3) hq_407 hm_341 hk_342)).symm.trans ((congrArg (hK _) e9).trans (kd_nO' (k := 3)))) (by decide)) q9) (rd_nOR (k := 3) hq_407 hm_341 (rd_sRf (S := S_320) (g := 1107) (a := h) (v := (some q_169)) (by decide) e_217))
  have hv_559 : hR S_412 903 q_169 = (some q_182) := hf_414.fr (mem_old hm_341) (fun q9 => (fun e9 => absurd (((kd_nO (k := 3) hq_407 hm_341 hk_342)).symm.trans ((congrArg (hK _) e9).trans (kd_nO' (k := 3)))) (by decide)) q9) (rd_nOR (k := 3) hq_407 hm_341 (rd_sRf (S := S_320) (g := 1107) (a := h) (v := (some q_169)) (by decide) e_241))
  have hv_560 : hR S_412 905 q_169 = (some q_184) := hf_414.fr (mem_old hm_341) (fun q9 => (fun e9 => absurd (((kd_nO (k := 3) hq_407 hm_341 hk_342)).symm.trans ((congrArg (hK _) e9).trans (kd_nO' (k := 3)))) (by decide)) q9) (rd_nOR (k := 3) hq_407 hm_341 (rd_sRf (S := S_320) (g := 1107) (a := h) (v := (some q_169)) (by decide) e_251))
  have hv_561 : hR S_412 906 q_169 = (some q_186) := hf_414.fr (mem_old hm_341) (fun q9 => (fun e9 => absurd (((kd_nO (k := 3) hq_407 hm_341 hk_342)).symm.trans ((congrArg (hK _) e9).trans (kd_nO' (k := 3)))) (by decide)) q9) (rd_nOR (k := 3) hq_407 hm_341 (rd_sRf (S := S_320) (g := 1107) (a := h) (v := (some q_169)) (by decide) e_260))
  have hv_562 : hR S_412 909 q_169 = (some q_188) := hf_414.fr (mem_old hm_341) (fun q9 => (fun e9 => absurd (((kd_nO (k := 3) hq_407 hm_341 hk_342)).symm.trans ((congrArg (hK _) e9).trans (kd_nO' (k := 3)))) (by decide)) q9) (rd_nOR (k := 3) hq_407 hm_341 (rd_sRf (S := S_320) (g := 1107) (a := h) (v := (some q_169)) (by decide) e_270))
  have hv_563 : hR S_412 912 q_169 = (some q_196) := hf_414.fr (mem_old hm_341) (fun q9 => (fun e9 => absurd (((kd_nO (k := 3) hq_407 hm_341 hk_342)).symm.trans ((congrArg (hK _) e9).trans (kd_nO' (k := 3)))) (by decide)) q9) (rd_nOR (k := 3) hq_407 hm_341 (rd_sRf (S := S_320) (g := 1107) (a := h) (v := (some q_169)) (by decide) e_307))
  have hv_564 : hR S_412 917 q_169 = (some q_197) := hf_414.fr (mem_old hm_341) (fun q9 => (fun e9 => absurd (((kd_nO (k := 3) hq_407 hm_341 hk_342)).symm.trans ((congrArg (hK _) e9).trans (kd_nO' (k := 3)))) (by decide)) q9) (rd_nOR (k := 3) hq_407 hm_341 (rd_sRf (S := S_320) (g := 1107) (a := h) (v := (some q_169)) (by decide) e_312))
  have hf_565 : Fm (fun f9 b9 => (f9 = 1110 ∧ b9 = h) ∨ (f9 = 1111 ∧ b9 = h)) (fun f9 b9 => b9 = h) (fun _ => False) S S_412 := hf_410.then hf_414 (fun a9 ha9 => ⟨(fun f9 h9 => h9.elim), (fun f9 h9 => (fun h8 => absurd (h8 ▸ ha9) hz_409) h9), (fun h9 => h9.elim)⟩)
  have hN_566 : NL S [q_1, q_16, q_36, q_61, q_93, q_97, q_98, q_99, q_100, q_101, q_169, q_174, q_175, q_176, q_177, q_178, q_179, q_180, q_181, q_182, q_183, q_184, q_185, q_186, q_187, q_188, q_189, q_190, q_191, q_192, q_193, q_194, q_195, q_196, q_197, q_198] S_412 := NL.mono (show NL S [q_1, q_16, q_36, q_61, q_93, q_97, q_98, q_99, q_100, q_101, q_169, q_174, q_175, q_176, q_177, q_178, q_179, q_180, q_181, q_182, q_183, q_184, q_185, q_186, q_187, q_188, q_189, q_190, q_191, q_192, q_193, q_194, q_195, q_196, q_197, q_198] (nO (sR S_320 1107 h (some q_169)) q_406 3) from NL.oldO (NL.sR (S := S_320) hN_405)) (fun a9 h9 => hf_414.mem h9)
  have hE_567 : aR S_412 q_100 0 = some q_101 := (hf_414.ar (mem_old hm_332) (fun h9 => h9) 0).trans (rxA_nO (S := (sR S_320 1107 h (some q_169))) (rxA_sR (S := S_320) hE_379))
  have hE_568 : aR S_412 q_196 0 = some q_198 := (hf_414.ar (mem_old e_304) (fun h9 => h9) 0).trans (rxA_nO (S := (sR S_320 1107 h (some q_169))) (rxA_sR (S := S_320) e_316))
  refine j_putrF (f := 1108) C hm9 flX11_49o (by decide) rfl rfl dX11_init_86 hm_422 hk_423 rfl ?_
  exact j_vret C M dX11_init_89 (Nat.le_of_ble_eq_true rfl) (Nat.le_of_ble_eq_true rfl) ⟨rfl, (hf_565.sR _ (fun _ => rfl)), hv_521, hv_522, q_1, q_16, q_36, q_61, q_93, q_97, q_98, q_99, q_100, q_101, q_169, q_174, q_175, q_176, q_177, q_178, q_179, q_180, q_181, q_182, q_183, q_184, q_185, q_186, q_187, q_188, q_189, q_190, q_191, q_192, q_193, q_194, q_195, q_196, q_197, q_198, hz_3, hm_424, hk_425, hn_426, (rd_sRf (S := S_412) (g := 1108) (a := h) (v := (some q_406)) (by decide) hv_539), hz_18, hm_433, hk_434, hn_435, (rd_sRf (S := S_412) (g := 1108) (a := h) (v := (some q_406)) (by decide) hv_540), hz_38, hm_502, hk_503, hn_504, (rd_sRf (S := S_412) (g := 1108) (a := h) (v := (some q_406)) (by decide) hv_541), hz_63, hm_507, hk_508, hn_509, (rd_sRf (S := S_412) (g := 1108) (a := h) (v := (some q_406)) (by decide) hv_542), hz_421, hz_95, hm_510, hk_511, (rd_sRf (S := S_412) (g := 1108) (a := h) (v := (some q_406)) (by decide) hv_543), hz_163, hm_512, hk_513, hn_514, (rd_sRf (S := S_412) (g := 1108) (a := h) (v := (some q_406)) (by decide) hv_549), hz_164, hm_515, hk_516, hn_517, (rd_sRf (S := S_412) (g := 1108) (a := h) (v := (some q_406)) (by decide) hv_550), hz_165, hm_518, hk_519, hn_520, (rd_sRf (S := S_412) (g := 1108) (a := h) (v := (some q_406)) (by decide) hv_551), hz_166, hm_427, hk_428, hn_429, (rd_sRf (S := S_412) (g := 1108) (a := h) (v := (some q_406)) (by decide) hv_552), hz_167, hm_430, hk_431, hn_432, (rxA_sR (S := S_412) hE_567), hz_172, hm_436, hk_437, (rd_sRf (S := S_412) (g := 1108) (a := h) (v := (some q_406)) (by decide) hv_544), hz_380, hm_438, hk_439, (rd_sRf (S := S_412) (g := 1108) (a := h) (v := (some q_406)) (by decide) hv_557), hz_381, hm_440, hk_441, hn_442, (rd_sRf (S := S_412) (g := 1108) (a := h) (v := (some q_406)) (by decide) hv_530), hz_382, hm_443, hk_444, hn_445, (rd_sRf (S := S_412) (g := 1108) (a := h) (v := (some q_406)) (by decide) hv_531), hz_383, hm_446, hk_447, (rd_sRf (S := S_412) (g := 1108) (a := h) (v := (some q_406)) (by decide) hv_558), hz_384, hm_448, hk_449, (rd_sRf (S := S_412) (g := 1108) (a := h) (v := (some q_406)) (by decide) hv_545), hz_385, hm_450, hk_451, hn_452, (rd_sRf (S := S_412) (g := 1108) (a := h) (v := (some q_406)) (by decide) hv_553), hz_417, hz_386, hm_453, hk_454, hn_455, (rd_sRf (S := S_412) (g := 1108) (a := h) (v := (some q_406)) (by decide) hv_546), hz_387, hm_456, hk_457, hn_458, (rd_sRf (S := S_412) (g := 1108) (a := h) (v := (some q_406)) (by decide) hv_547), hz_388, hm_459, hk_460, (rd_sRf (S := S_412) (g := 1108) (a := h) (v := (some q_406)) (by decide) hv_559), hz_389, hm_461, hk_462, hn_463, (rd_sRf (S := S_412) (g := 1108) (a := h) (v := (some q_406)) (by decide) hv_554), hz_418, hz_390, hm_464, hk_465, (rd_sRf (S := S_412) (g := 1108) (a := h) (v := (some q_406)) (by decide) hv_560), hz_391, hm_466, hk_467, hn_468, (rd_sRf (S := S_412) (g := 1108) (a := h) (v := (some q_406)) (by decide) hv_533), hz_392, hm_469, hk_470, (rd_sRf (S := S_412) (g := 1108) (a := h) (v := (some q_406)) (by decide) hv_561), hz_393, hm_471, hk_472, hn_473, (rd_sRf (S := S_412) (g := 1108) (a := h) (v := (some q_406)) (by decide) hv_555), hz_419, hz_394, hm_474, hk_475, (rd_sRf (S := S_412) (g := 1108) (a := h) (v := (some q_406)) (by decide) hv_562), hz_395, hm_476, hk_477, (rd_sRf (S := S_412) (g := 1108) (a := h) (v := (some q_406)) (by decide) hv_532), hz_396, hm_478, hk_479, (rd_sRf (S := S_412) (g := 1108) (a := h) (v := (some q_406)) (by decide) hv_535), hz_397, hm_480, hk_481, hn_482, (rd_sRf (S := S_412) (g := 1108) (a := h) (v := (some q_406)) (by decide) hv_548), hz_398, hm_483, hk_484, (rd_sRf (S := S_412) (g := 1108) (a := h) (v := (some q_406)) (by decide) hv_536), hz_399, hm_485, hk_486, hn_487, (rd_sRf (S := S_412) (g := 1108) (a := h) (v := (some q_406)) (by decide) hv_534), hz_400, hm_488, hk_489, hn_490, (rd_sRf (S := S_412) (g := 1108) (a := h) (v := (some q_406)) (by decide) hv_537), hz_401, hm_491, hk_492, hn_493, (rd_sRf (S := S_412) (g := 1108) (a := h) (v := (some q_406)) (by decide) hv_538), hz_402, hm_494, hk_495, hn_496, (rd_sRf (S := S_412) (g := 1108) (a := h) (v := (some q_406)) (by decide) hv_563), hz_403, hm_497, hk_498, hn_499, (rd_sRf (S := S_412) (g := 1108) (a := h) (v := (some q_406)) (by decide) hv_564), hz_404, hm_500, hk_501, (rxA_sR (S := S_412) hE_568), hv_523, (rd_sRf (S := S_412) (g := 1108) (a := h) (v := (some q_406)) (by decide) hv_556), (NL.sR (S := S_412) hN_566)⟩
