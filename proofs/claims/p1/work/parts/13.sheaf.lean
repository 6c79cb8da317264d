theorem dX6_init_0 : decode cX6_init 0 = .ok (.aload_n 0, 1) := by decide +kernel
theorem dX6_init_1 : decode cX6_init 1 = .ok (.invokespecial 3, 3) := by decide +kernel
theorem dX6_init_4 : decode cX6_init 4 = .ok (.aload_n 0, 1) := by decide +kernel
theorem dX6_init_5 : decode cX6_init 5 = .ok (.ldc 11, 2) := by decide +kernel
theorem dX6_init_7 : decode cX6_init 7 = .ok (.newarray .byte, 2) := by decide +kernel
theorem dX6_init_9 : decode cX6_init 9 = .ok (.putfield 12, 3) := by decide +kernel
theorem dX6_init_12 : decode cX6_init 12 = .ok (.aload_n 0, 1) := by decide +kernel
theorem dX6_init_13 : decode cX6_init 13 = .ok (.bipush 12, 2) := by decide +kernel
theorem dX6_init_15 : decode cX6_init 15 = .ok (.newarray .int, 2) := by decide +kernel
theorem dX6_init_17 : decode cX6_init 17 = .ok (.putfield 16, 3) := by decide +kernel
theorem dX6_init_20 : decode cX6_init 20 = .ok (.aload_n 0, 1) := by decide +kernel
theorem dX6_init_21 : decode cX6_init 21 = .ok (.bipush 12, 2) := by decide +kernel
theorem dX6_init_23 : decode cX6_init 23 = .ok (.newarray .int, 2) := by decide +kernel
theorem dX6_init_25 : decode cX6_init 25 = .ok (.putfield 20, 3) := by decide +kernel
theorem dX6_init_28 : decode cX6_init 28 = .ok (.aload_n 0, 1) := by decide +kernel
theorem dX6_init_29 : decode cX6_init 29 = .ok (.bipush 13, 2) := by decide +kernel
theorem dX6_init_31 : decode cX6_init 31 = .ok (.sipush 16000, 3) := by decide +kernel
theorem dX6_init_34 : decode cX6_init 34 = .ok (.multianewarray 23 2, 4) := by decide +kernel
theorem dX6_init_38 : decode cX6_init 38 = .ok (.putfield 25, 3) := by decide +kernel
theorem dX6_init_41 : decode cX6_init 41 = .ok (.return_, 1) := by decide +kernel
set_option maxRecDepth 100000 in
set_option maxHeartbeats 4000000 in
theorem c_X6_init (S : Hp) (h : Nat) (hm : h ∈ hL S) (hk : hK S h = 6) : Ct 1 yX6_init cX6_init 1 none 17 268037 [.ref h] S (fun r S' => r = none ∧ Fm (fun _ _ => False) (fun f9 b9 => b9 = h) (fun _ => False) S S' ∧ ∃ q0 : Nat, q0 ∉ hL S ∧ q0 ∈ hL S' ∧ Kd S' q0 13 ∧ Ln S' q0 60000 ∧ hR S' 600 h = some q0 ∧ (∀ j, aI S' q0 j = 0)) := by
  refine ct_of (by decide) (Nat.le_of_ble_eq_true rfl) fun x hn9 C M hm9 => ?_
  have C : CB x RX6 cX6_init := C
  refine J.eq (lv' := [(0, .ref h)]) rfl rfl rfl ?_
  refine j_aload_n C dX6_init_0 rfl 0 rfl ?_
  refine j_objInit C mlX6_3 nst_oi (M.fl (by decide)) dX6_init_1 ?_
  refine j_aload_n C dX6_init_4 rfl 0 rfl ?_
  refine j_ldc (v := 60000) C dX6_init_5 kcX6_11 ?_
  refine j_newB (N := 60000) C ka_byte (by decide) (by decide) (Nat.le_of_ble_eq_true rfl) (M.cells (by decide)) (M.slots (Nat.le_of_ble_eq_true rfl)) dX6_init_7 (fun q_1 hq_2 => ?_)
  have hz_3 : q_1 ∉ hL S := hq_2
  refine j_putrF (f := 600) C hm9 flX6_12o (by decide) rfl rfl dX6_init_9 (mem_old hm) (kd_nA (k := 13) (n := 60000) hq_2 hm hk) rfl ?_
  refine j_aload_n C dX6_init_12 rfl 0 rfl ?_
  refine j_bipush (v := 12) C dX6_init_13 (by decide) ?_
  show J _ _ _ _ _ 15 _
  have hf_6 : Fm (fun _ _ => False) (fun f9 b9 => b9 = h) (fun _ => False) S (sR (nA S q_1 13 60000) 600 h (some q_1)) := (((Fm.refl (WI := (fun _ _ => False)) (WR := (fun f9 b9 => b9 = h)) (WA := (fun _ => False))).nA _ _ hq_2).sR _ (fun _ => rfl))
  obtain ⟨S_4, eS_5⟩ : ∃ S9 : Hp, S9 = (sR (nA S q_1 13 60000) 600 h (some q_1)) := ⟨_, rfl⟩
  refine J.eq (S' := S_4) eS_5.symm rfl rfl ?_
  have hm_7 : h ∈ hL S_4 := by rw [eS_5]; exact (mem_old hm)
  have hk_8 : Kd S_4 h 6 := by rw [eS_5]; exact (kd_nA (k := 13) (n := 60000) hq_2 hm hk)
  have hm_9 : q_1 ∈ hL S_4 := by rw [eS_5]; exact mem_new
  have hk_10 : Kd S_4 q_1 13 := by rw [eS_5]; exact (kd_nA' (k := 13) (n := 60000))
  have hn_11 : Ln S_4 q_1 60000 := by rw [eS_5]; exact (ln_nA' (k := 13))
  have hz_12 : ∀ j, aI S_4 q_1 j = 0 := by rw [eS_5]; exact (fun j9 => rd_nAI' (k := 13) (n := 60000))
  have hv_13 : hR S_4 600 h = (some q_1) := by rw [eS_5]; exact (rd_sR (S := (nA S q_1 13 60000)) (g := 600) (a := h) (v := (some q_1)))
  have hf_14 : Fm (fun _ _ => False) (fun f9 b9 => b9 = h) (fun _ => False) S S_4 := by rw [eS_5]; exact hf_6
  refine j_newI (N := 12) C ka_int (by decide) (by decide) (Nat.le_of_ble_eq_true rfl) (M.cells (by decide)) (M.slots (Nat.le_of_ble_eq_true rfl)) dX6_init_15 (fun q_15 hq_16 => ?_)
  have hz_17 : q_15 ∉ hL S := fun h9 => hq_16 (hf_14.mem h9)
  refine j_putrF (f := 604) C hm9 flX6_16o (by decide) rfl rfl dX6_init_17 (mem_old hm_7) (kd_nA (k := 14) (n := 12) hq_16 hm_7 hk_8) rfl ?_
  refine j_aload_n C dX6_init_20 rfl 0 rfl ?_
  refine j_bipush (v := 12) C dX6_init_21 (by decide) ?_
  have hf_20 : Fm (fun _ _ => False) (fun f9 b9 => b9 = h) (fun _ => False) S (sR (nA S_4 q_15 14 12) 604 h (some q_15)) := ((hf_14.nA _ _ hq_16).sR _ (fun _ => rfl))
  obtain ⟨S_18, eS_19⟩ : ∃ S9 : Hp, S9 = (sR (nA S_4 q_15 14 12) 604 h (some q_15)) := ⟨_, rfl⟩
  refine J.eq (S' := S_18) eS_19.symm rfl rfl ?_
  have hm_21 : h ∈ hL S_18 := by rw [eS_19]; exact (mem_old hm_7)
  have hk_22 : Kd S_18 h 6 := by rw [eS_19]; exact (kd_nA (k := 14) (n := 12) hq_16 hm_7 hk_8)
  have hm_23 : q_1 ∈ hL S_18 := by rw [eS_19]; exact (mem_old hm_9)
  have hk_24 : Kd S_18 q_1 13 := by rw [eS_19]; exact (kd_nA (k := 14) (n := 12) hq_16 hm_9 hk_10)
  have hn_25 : Ln S_18 q_1 60000 := by rw [eS_19]; exact (ln_nA (k := 14) hq_16 hm_9 hn_11)
  have hz_26 : ∀ j, aI S_18 q_1 j = 0 := by rw [eS_19]; exact (fun j9 => rd_nAI (k := 14) (n := 12) hq_16 hm_9 (hz_12 j9))
  have hm_27 : q_15 ∈ hL S_18 := by rw [eS_19]; exact mem_new
  have hk_28 : Kd S_18 q_15 14 := by rw [eS_19]; exact (kd_nA' (k := 14) (n := 12))
  have hn_29 : Ln S_18 q_15 12 := by rw [eS_19]; exact (ln_nA' (k := 14))
  have hz_30 : ∀ j, aI S_18 q_15 j = 0 := by rw [eS_19]; exact (fun j9 => rd_nAI' (k := 14) (n := 12))
  have hv_31 : hR S_18 600 h = (some q_1) := by rw [eS_19]; exact (rd_sRf (S := (nA S_4 q_15 14 12)) (g := 604) (a := h) (v := (some q_15)) (by decide) hv_13)
  have hv_32 : hR S_18 604 h = (some q_15) := by rw [eS_19]; exact (rd_sR (S := (nA S_4 q_15 14 12)) (g := 604) (a := h) (v := (some q_15)))
  have hf_33 : Fm (fun _ _ => False) (fun f9 b9 => b9 = h) (fun _ => False) S S_18 := by rw [eS_19]; exact hf_20
  refine j_newI (N := 12) C ka_int (by decide) (by decide) (Nat.le_of_ble_eq_true rfl) (M.cells (by decide)) (M.slots (Nat.le_of_ble_eq_true rfl)) dX6_init_23 (fun q_34 hq_35 => ?_)
  have hz_36 : q_34 ∉ hL S := fun h9 => hq_35 (hf_33.mem h9)
  refine j_putrF (f := 605) C hm9 flX6_20o (by decide) rfl rfl dX6_init_25 (mem_old hm_21) (kd_nA (k := 14) (n := 12) hq_35 hm_21 hk_22) rfl ?_
  refine j_aload_n C dX6_init_28 rfl 0 rfl ?_
  refine j_bipush (v := 13) C dX6_init_29 (by decide) ?_
  show J _ _ _ _ _ 31 _
  refine j_sipush (v := 16000) C dX6_init_31 (by decide) ?_
  have hf_39 : Fm (fun _ _ => False) (fun f9 b9 => b9 = h) (fun _ => False) S (sR (nA S_18 q_34 14 12) 605 h (some q_34)) := ((hf_33.nA _ _ hq_35).sR _ (fun _ => rfl))
  obtain ⟨S_37, eS_38⟩ : ∃ S9 : Hp, S9 = (sR (nA S_18 q_34 14 12) 605 h (some q_34)) := ⟨_, rfl⟩
  refine J.eq (S' := S_37) eS_38.symm rfl rfl ?_
  have hm_40 : h ∈ hL S_37 := by rw [eS_38]; exact (mem_old hm_21)
  have hk_41 : Kd S_37 h 6 := by rw [eS_38]; exact (kd_nA (k := 14) (n := 12) hq_35 hm_21 hk_22)
  have hm_42 : q_1 ∈ hL S_37 := by rw [eS_38]; exact (mem_old hm_23)
  have hk_43 : Kd S_37 q_1 13 := by rw [eS_38]; exact (kd_nA (k := 14) (n := 12) hq_35 hm_23 hk_24)
  have hn_44 : Ln S_37 q_1 60000 := by rw [eS_38]; exact (ln_nA (k := 14) hq_35 hm_23 hn_25)
  have hz_45 : ∀ j, aI S_37 q_1 j = 0 := by rw [eS_38]; exact (fun j9 => rd_nAI (k := 14) (n := 12) hq_35 hm_23 (hz_26 j9))
  have hm_46 : q_15 ∈ hL S_37 := by rw [eS_38]; exact (mem_old hm_27)
  have hk_47 : Kd S_37 q_15 14 := by rw [eS_38]; exact (kd_nA (k := 14) (n := 12) hq_35 hm_27 hk_28)
  have hn_48 : Ln S_37 q_15 12 := by rw [eS_38]; exact (ln_nA (k := 14) hq_35 hm_27 hn_29)
  have hz_49 : ∀ j, aI S_37 q_15 j = 0 := by rw [eS_38]; exact (fun j9 => rd_nAI (k := 14) (n := 12) hq_35 hm_27 (hz_30 j9))
  have hm_50 : q_34 ∈ hL S_37 := by rw [eS_38]; exact mem_new
  have hk_51 : Kd S_37 q_34 14 := by rw [eS_38]; exact (kd_nA' (k := 14) (n := 12))
  have hn_52 : Ln S_37 q_34 12 := by rw [eS_38]; exact (ln_nA' (k := 14))
  have hz_53 : ∀ j, aI S_37 q_34 j = 0 := by rw [eS_38]; exact (fun j9 => rd_nAI' (k := 14) (n := 12))
  have hv_54 : hR S_37 600 h = (some q_1) := by rw [eS_38]; exact (rd_sRf (S := (nA S_18 q_34 14 12)) (g := 605) (a := h) (v := (some q_34)) (by decide) hv_31)
  have hv_55 : hR S_37 604 h = (some q_15) := by rw [eS_38]; exact (rd_sRf (S := (nA S_18 q_34 14 12)) (g := 605) (a := h) (v := (some q_34)) (by decide) hv_32)
  have hv_56 : hR S_37 605 h = (some q_34) := by rw [eS_38]; exact (rd_sR (S := (nA S_18 q_34 14 12)) (g := 605) (a := h) (v := (some q_34)))
  have hf_57 : Fm (fun _ _ => False) (fun f9 b9 => b9 = h) (fun _ => False) S S_37 := by rw [eS_38]; exact hf_39
  refine j_mna (N := 13) (K := 16000) C klX6_23 (by decide) (by decide) (by decide) (by decide) (by decide) (by decide) (M.cells (by decide)) (M.slots (Nat.le_of_ble_eq_true rfl)) dX6_init_34 ka_int (fun q_58 S_59 e_60 hf_61 e_62 e_63 e_64 e_65 => ?_)
  have hz_66 : ∀ j, aI S_59 q_1 j = 0 := fun j9 => (hf_61.ai hm_42 (fun h9 => h9) j9).trans (hz_45 j9)
  have hz_67 : ∀ j, aI S_59 q_15 j = 0 := fun j9 => (hf_61.ai hm_46 (fun h9 => h9) j9).trans (hz_49 j9)
  have hz_68 : ∀ j, aI S_59 q_34 j = 0 := fun j9 => (hf_61.ai hm_50 (fun h9 => h9) j9).trans (hz_53 j9)
  have hm_69 : h ∈ hL S_59 := hf_61.mem hm_40
  have hk_70 : Kd S_59 h 6 := hf_61.kd hm_40 hk_41
  have hm_71 : q_1 ∈ hL S_59 := hf_61.mem hm_42
  have hk_72 : Kd S_59 q_1 13 := hf_61.kd hm_42 hk_43
  have hn_73 : Ln S_59 q_1 60000 := hf_61.ln hm_42 hn_44
  have hm_74 : q_15 ∈ hL S_59 := hf_61.mem hm_46
  have hk_75 : Kd S_59 q_15 14 := hf_61.kd hm_46 hk_47
  have hn_76 : Ln S_59 q_15 12 := hf_61.ln hm_46 hn_48
  have hm_77 : q_34 ∈ hL S_59 := hf_61.mem hm_50
  have hk_78 : Kd S_59 q_34 14 := hf_61.kd hm_50 hk_51
  have hn_79 : Ln S_59 q_34 12 := hf_61.ln hm_50 hn_52
  have hv_80 : hR S_59 600 h = (some q_1) := hf_61.fr hm_40 (fun h9 => h9) hv_54
  have hv_81 : hR S_59 604 h = (some q_15) := hf_61.fr hm_40 (fun h9 => h9) hv_55
  have hv_82 : hR S_59 605 h = (some q_34) := hf_61.fr hm_40 (fun h9 => h9) hv_56
  have hf_83 : Fm (fun _ _ => False) (fun f9 b9 => b9 = h) (fun _ => False) S S_59 := hf_57.then hf_61 (fun a9 ha9 => ⟨(fun f9 h9 => h9.elim), (fun f9 h9 => h9.elim), (fun h9 => h9.elim)⟩)
  have hz_84 : q_58 ∉ hL S := fun h9 => e_60 (hf_57.mem h9)
  refine j_putrF (f := 606) C hm9 flX6_25o (by decide) rfl rfl dX6_init_38 hm_69 hk_70 rfl ?_
  exact j_vret C M dX6_init_41 (Nat.le_of_ble_eq_true rfl) (Nat.le_of_ble_eq_true rfl) ⟨rfl, (hf_83.sR _ (fun _ => rfl)), q_1, hz_3, hm_71, hk_72, hn_73, (rd_sRf (S := S_59) (g := 606) (a := h) (v := (some q_58)) (by decide) hv_80), hz_66⟩
