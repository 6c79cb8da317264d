theorem dX8_init_0 : decode cX8_init 0 = .ok (.aload_n 0, 1) := by decide +kernel
theorem dX8_init_1 : decode cX8_init 1 = .ok (.invokespecial 1, 3) := by decide +kernel
theorem dX8_init_4 : decode cX8_init 4 = .ok (.aload_n 0, 1) := by decide +kernel
theorem dX8_init_5 : decode cX8_init 5 = .ok (.bipush 16, 2) := by decide +kernel
theorem dX8_init_7 : decode cX8_init 7 = .ok (.newarray .int, 2) := by decide +kernel
theorem dX8_init_9 : decode cX8_init 9 = .ok (.putfield 9, 3) := by decide +kernel
theorem dX8_init_12 : decode cX8_init 12 = .ok (.return_, 1) := by decide +kernel
set_option maxRecDepth 100000 in
set_option maxHeartbeats 4000000 in
theorem c_X8_init (S : Hp) (h : Nat) (hm : h ∈ hL S) (hk : hK S h = 8) : Ct 1 yX8_init cX8_init 1 none 1 16 [.ref h] S (fun r S' => r = none ∧ Fm (fun _ _ => False) (fun f9 b9 => b9 = h) (fun _ => False) S S' ∧ ∃ q0 : Nat, q0 ∉ hL S ∧ q0 ∈ hL S' ∧ Kd S' q0 14 ∧ Ln S' q0 16 ∧ hR S' 800 h = some q0 ∧ (∀ j, aI S' q0 j = 0)) := by
  refine ct_of (by decide) (Nat.le_of_ble_eq_true rfl) fun x hn9 C M hm9 => ?_
  have C : CB x RX8 cX8_init := C
  refine J.eq (lv' := [(0, .ref h)]) rfl rfl rfl ?_
  refine j_aload_n C dX8_init_0 rfl 0 rfl ?_
  refine j_objInit C mlX8_1 nst_oi (M.fl (by decide)) dX8_init_1 ?_
  refine j_aload_n C dX8_init_4 rfl 0 rfl ?_
  refine j_bipush (v := 16) C dX8_init_5 (by decide) ?_
  refine j_newI (N := 16) C ka_int (by decide) (by decide) (Nat.le_of_ble_eq_true rfl) (M.cells (by decide)) (M.slots (Nat.le_of_ble_eq_true rfl)) dX8_init_7 (fun q_1 hq_2 => ?_)
  have hz_3 : q_1 ∉ hL S := hq_2
  refine j_putrF (f := 800) C hm9 flX8_9o (by decide) rfl rfl dX8_init_9 (mem_old hm) (kd_nA (k := 14) (n := 16) hq_2 hm hk) rfl ?_
  exact j_vret C M dX8_init_12 (Nat.le_of_ble_eq_true rfl) (Nat.le_of_ble_eq_true rfl) ⟨rfl, (((Fm.refl (WI := (fun _ _ => False)) (WR := (fun f9 b9 => b9 = h)) (WA := (fun _ => False))).nA _ _ hq_2).sR _ (fun _ => rfl)), q_1, hz_3, mem_new, (kd_nA' (k := 14) (n := 16)), (ln_nA' (k := 14)), (rd_sR (S := (nA S q_1 14 16)) (g := 800) (a := h) (v := (some q_1))), (fun j9 => rd_nAI' (k := 14) (n := 16))⟩

theorem dX7_init_0 : decode cX7_init 0 = .ok (.aload_n 0, 1) := by decide +kernel
theorem dX7_init_1 : decode cX7_init 1 = .ok (.invokespecial 3, 3) := by decide +kernel
theorem dX7_init_4 : decode cX7_init 4 = .ok (.aload_n 0, 1) := by decide +kernel
theorem dX7_init_5 : decode cX7_init 5 = .ok (.bipush 40, 2) := by decide +kernel
theorem dX7_init_7 : decode cX7_init 7 = .ok (.newarray .int, 2) := by decide +kernel
theorem dX7_init_9 : decode cX7_init 9 = .ok (.putfield 11, 3) := by decide +kernel
theorem dX7_init_12 : decode cX7_init 12 = .ok (.return_, 1) := by decide +kernel
set_option maxRecDepth 100000 in
set_option maxHeartbeats 4000000 in
theorem c_X7_init (S : Hp) (h : Nat) (hm : h ∈ hL S) (hk : hK S h = 7) : Ct 1 yX7_init cX7_init 1 none 1 40 [.ref h] S (fun r S' => r = none ∧ Fm (fun _ _ => False) (fun f9 b9 => b9 = h) (fun _ => False) S S' ∧ ∃ q0 : Nat, q0 ∉ hL S ∧ q0 ∈ hL S' ∧ Kd S' q0 14 ∧ Ln S' q0 40 ∧ hR S' 712 h = some q0 ∧ (∀ j, aI S' q0 j = 0)) := by
  refine ct_of (by decide) (Nat.le_of_ble_eq_true rfl) fun x hn9 C M hm9 => ?_
  have C : CB x RX7 cX7_init := C
  refine J.eq (lv' := [(0, .ref h)]) rfl rfl rfl ?_
  refine j_aload_n C dX7_init_0 rfl 0 rfl ?_
  refine j_objInit C mlX7_3 nst_oi (M.fl (by decide)) dX7_init_1 ?_
  refine j_aload_n C dX7_init_4 rfl 0 rfl ?_
  refine j_bipush (v := 40) C dX7_init_5 (by decide) ?_
  refine j_newI (N := 40) C ka_int (by decide) (by decide) (Nat.le_of_ble_eq_true rfl) (M.cells (by decide)) (M.slots (Nat.le_of_ble_eq_true rfl)) dX7_init_7 (fun q_1 hq_2 => ?_)
  have hz_3 : q_1 ∉ hL S := hq_2
  refine j_putrF (f := 712) C hm9 flX7_11o (by decide) rfl rfl dX7_init_9 (mem_old hm) (kd_nA (k := 14) (n := 40) hq_2 hm hk) rfl ?_
  exact j_vret C M dX7_init_12 (Nat.le_of_ble_eq_true rfl) (Nat.le_of_ble_eq_true rfl) ⟨rfl, (((Fm.refl (WI := (fun _ _ => False)) (WR := (fun f9 b9 => b9 = h)) (WA := (fun _ => False))).nA _ _ hq_2).sR _ (fun _ => rfl)), q_1, hz_3, mem_new, (kd_nA' (k := 14) (n := 40)), (ln_nA' (k := 14)), (rd_sR (S := (nA S q_1 14 40)) (g := 712) (a := h) (v := (some q_1))), (fun j9 => rd_nAI' (k := 14) (n := 40))⟩

theorem dX4_init_0 : decode cX4_init 0 = .ok (.aload_n 0, 1) := by decide +kernel
theorem dX4_init_1 : decode cX4_init 1 = .ok (.invokespecial 1, 3) := by decide +kernel
theorem dX4_init_4 : decode cX4_init 4 = .ok (.aload_n 0, 1) := by decide +kernel
theorem dX4_init_5 : decode cX4_init 5 = .ok (.bipush 20, 2) := by decide +kernel
theorem dX4_init_7 : decode cX4_init 7 = .ok (.newarray .int, 2) := by decide +kernel
theorem dX4_init_9 : decode cX4_init 9 = .ok (.putfield 9, 3) := by decide +kernel
theorem dX4_init_12 : decode cX4_init 12 = .ok (.return_, 1) := by decide +kernel
set_option maxRecDepth 100000 in
set_option maxHeartbeats 4000000 in
theorem c_X4_init (S : Hp) (h : Nat) (hm : h ∈ hL S) (hk : hK S h = 4) : Ct 1 yX4_init cX4_init 1 none 1 20 [.ref h] S (fun r S' => r = none ∧ Fm (fun _ _ => False) (fun f9 b9 => b9 = h) (fun _ => False) S S' ∧ ∃ q0 : Nat, q0 ∉ hL S ∧ q0 ∈ hL S' ∧ Kd S' q0 14 ∧ Ln S' q0 20 ∧ hR S' 407 h = some q0 ∧ (∀ j, aI S' q0 j = 0)) := by
  refine ct_of (by decide) (Nat.le_of_ble_eq_true rfl) fun x hn9 C M hm9 => ?_
  have C : CB x RX4 cX4_init := C
  refine J.eq (lv' := [(0, .ref h)]) rfl rfl rfl ?_
  refine j_aload_n C dX4_init_0 rfl 0 rfl ?_
  refine j_objInit C mlX4_1 nst_oi (M.fl (by decide)) dX4_init_1 ?_
  refine j_aload_n C dX4_init_4 rfl 0 rfl ?_
  refine j_bipush (v := 20) C dX4_init_5 (by decide) ?_
  refine j_newI (N := 20) C ka_int (by decide) (by decide) (Nat.le_of_ble_eq_true rfl) (M.cells (by decide)) (M.slots (Nat.le_of_ble_eq_true rfl)) dX4_init_7 (fun q_1 hq_2 => ?_)
  have hz_3 : q_1 ∉ hL S := hq_2
  refine j_putrF (f := 407) C hm9 flX4_9o (by decide) rfl rfl dX4_init_9 (mem_old hm) (kd_nA (k := 14) (n := 20) hq_2 hm hk) rfl ?_
  exact j_vret C M dX4_init_12 (Nat.le_of_ble_eq_true rfl) (Nat.le_of_ble_eq_true rfl) ⟨rfl, (((Fm.refl (WI := (fun _ _ => False)) (WR := (fun f9 b9 => b9 = h)) (WA := (fun _ => False))).nA _ _ hq_2).sR _ (fun _ => rfl)), q_1, hz_3, mem_new, (kd_nA' (k := 14) (n := 20)), (ln_nA' (k := 14)), (rd_sR (S := (nA S q_1 14 20)) (g := 407) (a := h) (v := (some q_1))), (fun j9 => rd_nAI' (k := 14) (n := 20))⟩

theorem dX5_init_0 : decode cX5_init 0 = .ok (.aload_n 0, 1) := by decide +kernel
theorem dX5_init_1 : decode cX5_init 1 = .ok (.invokespecial 3, 3) := by decide +kernel
theorem dX5_init_4 : decode cX5_init 4 = .ok (.aload_n 0, 1) := by decide +kernel
theorem dX5_init_5 : decode cX5_init 5 = .ok (.iconst 0, 1) := by decide +kernel
theorem dX5_init_6 : decode cX5_init 6 = .ok (.newarray .byte, 2) := by decide +kernel
theorem dX5_init_8 : decode cX5_init 8 = .ok (.putfield 9, 3) := by decide +kernel
theorem dX5_init_11 : decode cX5_init 11 = .ok (.return_, 1) := by decide +kernel
set_option maxRecDepth 100000 in
set_option maxHeartbeats 4000000 in
theorem c_X5_init (S : Hp) (h : Nat) (hm : h ∈ hL S) (hk : hK S h = 5) : Ct 1 yX5_init cX5_init 1 none 1 0 [.ref h] S (fun r S' => r = none ∧ Fm (fun _ _ => False) (fun f9 b9 => b9 = h) (fun _ => False) S S' ∧ ∃ q0 : Nat, q0 ∉ hL S ∧ q0 ∈ hL S' ∧ Kd S' q0 13 ∧ Ln S' q0 0 ∧ hR S' 500 h = some q0 ∧ (∀ j, aI S' q0 j = 0)) := by
  refine ct_of (by decide) (Nat.le_of_ble_eq_true rfl) fun x hn9 C M hm9 => ?_
  have C : CB x RX5 cX5_init := C
  refine J.eq (lv' := [(0, .ref h)]) rfl rfl rfl ?_
  refine j_aload_n C dX5_init_0 rfl 0 rfl ?_
  refine j_objInit C mlX5_3 nst_oi (M.fl (by decide)) dX5_init_1 ?_
  refine j_aload_n C dX5_init_4 rfl 0 rfl ?_
  refine j_iconst (v := 0) C dX5_init_5 (by decide) ?_
  refine j_newB (N := 0) C ka_byte (by decide) (by decide) (Nat.le_of_ble_eq_true rfl) (M.cells (by decide)) (M.slots (Nat.le_of_ble_eq_true rfl)) dX5_init_6 (fun q_1 hq_2 => ?_)
  have hz_3 : q_1 ∉ hL S := hq_2
  refine j_putr (f := 500) C flX5_9 (by decide) rfl rfl dX5_init_8 (mem_old hm) (kd_nA (k := 13) (n := 0) hq_2 hm hk) rfl ?_
  exact j_vret C M dX5_init_11 (Nat.le_of_ble_eq_true rfl) (Nat.le_of_ble_eq_true rfl) ⟨rfl, (((Fm.refl (WI := (fun _ _ => False)) (WR := (fun f9 b9 => b9 = h)) (WA := (fun _ => False))).nA _ _ hq_2).sR _ (fun _ => rfl)), q_1, hz_3, mem_new, (kd_nA' (k := 13) (n := 0)), (ln_nA' (k := 13)), (rd_sR (S := (nA S q_1 13 0)) (g := 500) (a := h) (v := (some q_1))), (fun j9 => rd_nAI' (k := 13) (n := 0))⟩

theorem dX10_init_0 : decode cX10_init 0 = .ok (.aload_n 0, 1) := by decide +kernel
theorem dX10_init_1 : decode cX10_init 1 = .ok (.invokespecial 1, 3) := by decide +kernel
theorem dX10_init_4 : decode cX10_init 4 = .ok (.aload_n 0, 1) := by decide +kernel
theorem dX10_init_5 : decode cX10_init 5 = .ok (.iconst 1, 1) := by decide +kernel
theorem dX10_init_6 : decode cX10_init 6 = .ok (.putfield 7, 3) := by decide +kernel
theorem dX10_init_9 : decode cX10_init 9 = .ok (.aload_n 0, 1) := by decide +kernel
theorem dX10_init_10 : decode cX10_init 10 = .ok (.iconst 1, 1) := by decide +kernel
theorem dX10_init_11 : decode cX10_init 11 = .ok (.putfield 13, 3) := by decide +kernel
theorem dX10_init_14 : decode cX10_init 14 = .ok (.aload_n 0, 1) := by decide +kernel
theorem dX10_init_15 : decode cX10_init 15 = .ok (.bipush 16, 2) := by decide +kernel
theorem dX10_init_17 : decode cX10_init 17 = .ok (.newarray .long, 2) := by decide +kernel
theorem dX10_init_19 : decode cX10_init 19 = .ok (.putfield 16, 3) := by decide +kernel
theorem dX10_init_22 : decode cX10_init 22 = .ok (.return_, 1) := by decide +kernel
set_option maxRecDepth 100000 in
set_option maxHeartbeats 4000000 in
theorem c_X10_init (S : Hp) (h : Nat) (hm : h ∈ hL S) (hk : hK S h = 10) : Ct 1 yX10_init cX10_init 1 none 1 16 [.ref h] S (fun r S' => r = none ∧ Fm (fun f9 b9 => (f9 = 1000 ∧ b9 = h) ∨ (f9 = 1001 ∧ b9 = h)) (fun f9 b9 => b9 = h) (fun _ => False) S S' ∧ hI S' 1000 h = 1 ∧ hI S' 1001 h = 1 ∧ ∃ q0 : Nat, q0 ∉ hL S ∧ q0 ∈ hL S' ∧ Kd S' q0 15 ∧ Ln S' q0 16 ∧ hR S' 1003 h = some q0) := by
  refine ct_of (by decide) (Nat.le_of_ble_eq_true rfl) fun x hn9 C M hm9 => ?_
  have C : CB x RX10 cX10_init := C
  refine J.eq (lv' := [(0, .ref h)]) rfl rfl rfl ?_
  refine j_aload_n C dX10_init_0 rfl 0 rfl ?_
  refine j_objInit C mlX10_1 nst_oi (M.fl (by decide)) dX10_init_1 ?_
  refine j_aload_n C dX10_init_4 rfl 0 rfl ?_
  refine j_iconst (v := 1) C dX10_init_5 (by decide) ?_
  refine j_puti (f := 1000) C flX10_7 (by decide) rfl rfl dX10_init_6 hm hk rfl ?_
  refine j_aload_n C dX10_init_9 rfl 0 rfl ?_
  refine j_iconst (v := 1) C dX10_init_10 (by decide) ?_
  refine j_puti (f := 1001) C flX10_13 (by decide) rfl rfl dX10_init_11 hm hk rfl ?_
  show J _ _ _ _ _ 14 _
  refine j_aload_n C dX10_init_14 rfl 0 rfl ?_
  refine j_bipush (v := 16) C dX10_init_15 (by decide) ?_
  have hf_3 : Fm (fun f9 b9 => (f9 = 1000 ∧ b9 = h) ∨ (f9 = 1001 ∧ b9 = h)) (fun f9 b9 => b9 = h) (fun _ => False) S (sI (sI S 1000 h 1) 1001 h 1) := (((Fm.refl (WI := (fun f9 b9 => (f9 = 1000 ∧ b9 = h) ∨ (f9 = 1001 ∧ b9 = h))) (WR := (fun f9 b9 => b9 = h)) (WA := (fun _ => False))).sI _ (fun _ => (Or.inl ⟨rfl, rfl⟩))).sI _ (fun _ => (Or.inr ⟨rfl, rfl⟩)))
  refine j_newJ (N := 16) C ka_long (by decide) (by decide) (Nat.le_of_ble_eq_true rfl) (M.cells (by decide)) (M.slots (Nat.le_of_ble_eq_true rfl)) dX10_init_17 (fun q_1 hq_2 => ?_)
  have hz_4 : q_1 ∉ hL S := fun h9 => hq_2 (hf_3.mem h9)
  refine j_putrF (f := 1003) C hm9 flX10_16o (by decide) rfl rfl dX10_init_19 (mem_old hm) (kd_nA (k := 15) (n := 16) hq_2 hm hk) rfl ?_
  exact j_vret C M dX10_init_22 (Nat.le_of_ble_eq_true rfl) (Nat.le_of_ble_eq_true rfl) ⟨rfl, ((hf_3.nA _ _ hq_2).sR _ (fun _ => rfl)), (rd_sIf (S := (sI S 1000 h 1)) (g := 1001) (a := h) (v := 1) (by decide) (rd_sI (S := S) (g := 1000) (a := h) (v := 1))), (rd_sI (S := (sI S 1000 h 1)) (g := 1001) (a := h) (v := 1)), q_1, hz_4, mem_new, (kd_nA' (k := 15) (n := 16)), (ln_nA' (k := 15)), (rd_sR (S := (nA (sI (sI S 1000 h 1) 1001 h 1) q_1 15 16)) (g := 1003) (a := h) (v := (some q_1)))⟩

theorem dX1_init_0 : decode cX1_init 0 = .ok (.aload_n 0, 1) := by decide +kernel
theorem dX1_init_1 : decode cX1_init 1 = .ok (.invokespecial 3, 3) := by decide +kernel
theorem dX1_init_4 : decode cX1_init 4 = .ok (.aload_n 0, 1) := by decide +kernel
theorem dX1_init_5 : decode cX1_init 5 = .ok (.new 9, 3) := by decide +kernel
theorem dX1_init_8 : decode cX1_init 8 = .ok (.dup, 1) := by decide +kernel
theorem dX1_init_9 : decode cX1_init 9 = .ok (.invokespecial 11, 3) := by decide +kernel
theorem dX1_init_12 : decode cX1_init 12 = .ok (.putfield 12, 3) := by decide +kernel
theorem dX1_init_15 : decode cX1_init 15 = .ok (.aload_n 0, 1) := by decide +kernel
theorem dX1_init_16 : decode cX1_init 16 = .ok (.new 18, 3) := by decide +kernel
theorem dX1_init_19 : decode cX1_init 19 = .ok (.dup, 1) := by decide +kernel
theorem dX1_init_20 : decode cX1_init 20 = .ok (.invokespecial 20, 3) := by decide +kernel
theorem dX1_init_23 : decode cX1_init 23 = .ok (.putfield 21, 3) := by decide +kernel
theorem dX1_init_26 : decode cX1_init 26 = .ok (.aload_n 0, 1) := by decide +kernel
theorem dX1_init_27 : decode cX1_init 27 = .ok (.new 25, 3) := by decide +kernel
theorem dX1_init_30 : decode cX1_init 30 = .ok (.dup, 1) := by decide +kernel
theorem dX1_init_31 : decode cX1_init 31 = .ok (.invokespecial 27, 3) := by decide +kernel
theorem dX1_init_34 : decode cX1_init 34 = .ok (.putfield 28, 3) := by decide +kernel
theorem dX1_init_37 : decode cX1_init 37 = .ok (.aload_n 0, 1) := by decide +kernel
theorem dX1_init_38 : decode cX1_init 38 = .ok (.bipush 8, 2) := by decide +kernel
theorem dX1_init_40 : decode cX1_init 40 = .ok (.newarray .int, 2) := by decide +kernel
theorem dX1_init_42 : decode cX1_init 42 = .ok (.putfield 34, 3) := by decide +kernel
theorem dX1_init_45 : decode cX1_init 45 = .ok (.aload_n 0, 1) := by decide +kernel
theorem dX1_init_46 : decode cX1_init 46 = .ok (.bipush 8, 2) := by decide +kernel
theorem dX1_init_48 : decode cX1_init 48 = .ok (.newarray .int, 2) := by decide +kernel
theorem dX1_init_50 : decode cX1_init 50 = .ok (.putfield 38, 3) := by decide +kernel
theorem dX1_init_53 : decode cX1_init 53 = .ok (.return_, 1) := by decide +kernel
set_option maxRecDepth 100000 in
set_option maxHeartbeats 4000000 in
theorem c_X1_init (S : Hp) (h : Nat) (hm : h ∈ hL S) (hk : hK S h = 1) : Ct 2 yX1_init cX1_init 1 none 8 117 [.ref h] S (fun r S' => r = none ∧ Fm (fun _ _ => False) (fun f9 b9 => b9 = h) (fun _ => False) S S') := by
  refine ct_of (by decide) (Nat.le_of_ble_eq_true rfl) fun x hn9 C M hm9 => ?_
  have C : CB x RX1 cX1_init := C
  refine J.eq (lv' := [(0, .ref h)]) rfl rfl rfl ?_
  refine j_aload_n C dX1_init_0 rfl 0 rfl ?_
  refine j_objInit C mlX1_3 nst_oi (M.fl (by decide)) dX1_init_1 ?_
  refine j_aload_n C dX1_init_4 rfl 0 rfl ?_
  refine j_new (N := 13) C (ci := 7) rfl rfl klX1_9 knX7 kiX7 (M.cells (by decide)) (M.slots (by decide)) dX1_init_5 (fun q_1 hq_2 => ?_)
  have hz_3 : q_1 ∉ hL S := hq_2
  refine j_dup C dX1_init_8 rfl ?_
  have hf_4 : Fm (fun _ _ => False) (fun f9 b9 => b9 = h) (fun _ => False) S (nO S q_1 7) := ((Fm.refl (WI := (fun _ _ => False)) (WR := (fun f9 b9 => b9 = h)) (WA := (fun _ => False))).nO _ hq_2)
  refine j_callI C [] [.ref q_1, .ref h] mlX1_11 mcX7_init (c_X7_init (nO S q_1 7) q_1 mem_new (kd_nO' (k := 7))) (M.rm (by decide) (by decide) (Nat.le_of_ble_eq_true rfl) (Nat.le_of_ble_eq_true rfl)) rfl rfl (Nat.le_of_ble_eq_true rfl) dX1_init_9 (fun r_12 S_13 hp_14 => ?_)
  obtain ⟨rfl, hf_15, q_5, e_6, e_7, e_8, e_9, e_10, e_11⟩ := hp_14
  refine J.eq (st' := [.ref q_1, .ref h]) rfl rfl rfl ?_
  have hm_16 : h ∈ hL S_13 := hf_15.mem (mem_old hm)
  have hk_17 : Kd S_13 h 1 := hf_15.kd (mem_old hm) (kd_nO (k := 7) hq_2 hm hk)
  have hm_18 : q_1 ∈ hL S_13 := hf_15.mem mem_new
  have hk_19 : Kd S_13 q_1 7 := hf_15.kd mem_new (kd_nO' (k := 7))
  have hf_20 : Fm (fun _ _ => False) (fun f9 b9 => b9 = h) (fun _ => False) S S_13 := hf_4.then hf_15 (fun a9 ha9 => ⟨(fun f9 h9 => h9.elim), (fun f9 h9 => (fun h8 => absurd (h8 ▸ ha9) hz_3) h9), (fun h9 => h9.elim)⟩)
  have hz_21 : q_5 ∉ hL S := fun h9 => e_6 (hf_4.mem h9)
  refine j_putrF (f := 100) C hm9 flX1_12o (by decide) rfl rfl dX1_init_12 hm_16 hk_17 rfl ?_
  refine j_aload_n C dX1_init_15 rfl 0 rfl ?_
  show J _ _ _ _ _ 16 _
  have hf_24 : Fm (fun _ _ => False) (fun f9 b9 => b9 = h) (fun _ => False) S (sR S_13 100 h (some q_1)) := (hf_20.sR _ (fun _ => rfl))
  refine j_new (N := 8) C (ci := 4) rfl rfl klX1_18 knX4 kiX4 (M.cells (by decide)) (M.slots (by decide)) dX1_init_16 (fun q_22 hq_23 => ?_)
  have hz_25 : q_22 ∉ hL S := fun h9 => hq_23 (hf_24.mem h9)
  refine j_dup C dX1_init_19 rfl ?_
  have hf_26 : Fm (fun _ _ => False) (fun f9 b9 => b9 = h) (fun _ => False) S (nO (sR S_13 100 h (some q_1)) q_22 4) := (hf_24.nO _ hq_23)
  refine j_callI C [] [.ref q_22, .ref h] mlX1_20 mcX4_init (c_X4_init (nO (sR S_13 100 h (some q_1)) q_22 4) q_22 mem_new (kd_nO' (k := 4))) (M.rm (by decide) (by decide) (Nat.le_of_ble_eq_true rfl) (Nat.le_of_ble_eq_true rfl)) rfl rfl (Nat.le_of_ble_eq_true rfl) dX1_init_20 (fun r_34 S_35 hp_36 => ?_)
  obtain ⟨rfl, hf_37, q_27, e_28, e_29, e_30, e_31, e_32, e_33⟩ := hp_36
  refine J.eq (st' := [.ref q_22, .ref h]) rfl rfl rfl ?_
  have hz_38 : ∀ j, aI S_35 q_5 j = 0 := fun j9 => (hf_37.ai (mem_old e_7) (fun h9 => h9) j9).trans (e_11 j9)
  have hm_39 : h ∈ hL S_35 := hf_37.mem (mem_old hm_16)
  have hk_40 : Kd S_35 h 1 := hf_37.kd (mem_old hm_16) (kd_nO (k := 4) hq_23 hm_16 hk_17)
  have hm_41 : q_1 ∈ hL S_35 := hf_37.mem (mem_old hm_18)
  have hk_42 : Kd S_35 q_1 7 := hf_37.kd (mem_old hm_18) (kd_nO (k := 4) hq_23 hm_18 hk_19)
  have hm_43 : q_22 ∈ hL S_35 := hf_37.mem mem_new
  have hk_44 : Kd S_35 q_22 4 := hf_37.kd mem_new (kd_nO' (k := 4))
  have hm_45 : q_5 ∈ hL S_35 := hf_37.mem (mem_old e_7)
  have hk_46 : Kd S_35 q_5 14 := hf_37.kd (mem_old e_7) (kd_nO (k := 4) hq_23 e_7 e_8)
  have hn_47 : Ln S_35 q_5 40 := hf_37.ln (mem_old e_7) e_9
  have hv_48 : hR S_35 100 h = (some q_1) := hf_37.fr (mem_old hm_16) (fun q9 => (fun e9 => absurd (((kd_nO (k := 4) hq_23 hm_16 hk_17)).symm.trans ((congrArg (hK _) e9).trans (kd_nO' (k := 4)))) (by decide)) q9) (rd_nOR (k := 4) hq_23 hm_16 (rd_sR (S := S_13) (g := 100) (a := h) (v := (some q_1))))
  have hv_49 : hR S_35 712 q_1 = (some q_5) := hf_37.fr (mem_old hm_18) (fun q9 => (fun e9 => absurd (((kd_nO (k := 4) hq_23 hm_18 hk_19)).symm.trans ((congrArg (hK _) e9).trans (kd_nO' (k := 4)))) (by decide)) q9) (rd_nOR (k := 4) hq_23 hm_18 (rd_sRf (S := S_13) (g := 100) (a := h) (v := (some q_1)) (by decide) e_10))
  have hf_50 : Fm (fun _ _ => False) (fun f9 b9 => b9 = h) (fun _ => False) S S_35 := hf_26.then hf_37 (fun a9 ha9 => ⟨(fun f9 h9 => h9.elim), (fun f9 h9 => (fun h8 => absurd (h8 ▸ ha9) hz_25) h9), (fun h9 => h9.elim)⟩)
  have hz_51 : q_27 ∉ hL S := fun h9 => e_28 (hf_26.mem h9)
  refine j_putrF (f := 101) C hm9 flX1_21o (by decide) rfl rfl dX1_init_23 hm_39 hk_40 rfl ?_
  refine j_aload_n C dX1_init_26 rfl 0 rfl ?_
  have hf_54 : Fm (fun _ _ => False) (fun f9 b9 => b9 = h) (fun _ => False) S (sR S_35 101 h (some q_22)) := (hf_50.sR _ (fun _ => rfl))
  refine j_new (N := 4) C (ci := 10) rfl rfl klX1_25 knX10 kiX10 (M.cells (by decide)) (M.slots (by decide)) dX1_init_27 (fun q_52 hq_53 => ?_)
  have hz_55 : q_52 ∉ hL S := fun h9 => hq_53 (hf_54.mem h9)
  refine j_dup C dX1_init_30 rfl ?_
  have hf_56 : Fm (fun _ _ => False) (fun f9 b9 => b9 = h) (fun _ => False) S (nO (sR S_35 101 h (some q_22)) q_52 10) := (hf_54.nO _ hq_53)
  refine j_callI C [] [.ref q_52, .ref h] mlX1_27 mcX10_init (c_X10_init (nO (sR S_35 101 h (some q_22)) q_52 10) q_52 mem_new (kd_nO' (k := 10))) (M.rm (by decide) (by decide) (Nat.le_of_ble_eq_true rfl) (Nat.le_of_ble_eq_true rfl)) rfl rfl (Nat.le_of_ble_eq_true rfl) dX1_init_31 (fun r_65 S_66 hp_67 => ?_)
  obtain ⟨rfl, hf_68, e_58, e_59, q_57, e_60, e_61, e_62, e_63, e_64⟩ := hp_67
  refine J.eq (st' := [.ref q_52, .ref h]) rfl rfl rfl ?_
  have hz_69 : ∀ j, aI S_66 q_27 j = 0 := fun j9 => (hf_68.ai (mem_old e_29) (fun h9 => h9) j9).trans (e_33 j9)
  have hz_70 : ∀ j, aI S_66 q_5 j = 0 := fun j9 => (hf_68.ai (mem_old hm_45) (fun h9 => h9) j9).trans (hz_38 j9)
  have hm_71 : h ∈ hL S_66 := hf_68.mem (mem_old hm_39)
  have hk_72 : Kd S_66 h 1 := hf_68.kd (mem_old hm_39) (kd_nO (k := 10) hq_53 hm_39 hk_40)
  have hm_73 : q_1 ∈ hL S_66 := hf_68.mem (mem_old hm_41)
  have hk_74 : Kd S_66 q_1 7 := hf_68.kd (mem_old hm_41) (kd_nO (k := 10) hq_53 hm_41 hk_42)
  have hm_75 : q_22 ∈ hL S_66 := hf_68.mem (mem_old hm_43)
  have hk_76 : Kd S_66 q_22 4 := hf_68.kd (mem_old hm_43) (kd_nO (k := 10) hq_53 hm_43 hk_44)
  have hm_77 : q_27 ∈ hL S_66 := hf_68.mem (mem_old e_29)
  have hk_78 : Kd S_66 q_27 14 := hf_68.kd (mem_old e_29) (kd_nO (k := 10) hq_53 e_29 e_30)
  have hn_79 : Ln S_66 q_27 20 := hf_68.ln (mem_old e_29) e_31
  have hm_80 : q_5 ∈ hL S_66 := hf_68.mem (mem_old hm_45)
  have hk_81 : Kd S_66 q_5 14 := hf_68.kd (mem_old hm_45) (kd_nO (k := 10) hq_53 hm_45 hk_46)
  have hn_82 : Ln S_66 q_5 40 := hf_68.ln (mem_old hm_45) hn_47
  have hm_83 : q_52 ∈ hL S_66 := hf_68.mem mem_new
  have hk_84 : Kd S_66 q_52 10 := hf_68.kd mem_new (kd_nO' (k := 10))
  have hv_85 : hR S_66 100 h = (some q_1) := hf_68.fr (mem_old hm_39) (fun q9 => (fun e9 => absurd (((kd_nO (k := 10) hq_53 hm_39 hk_40)).symm.trans ((congrArg (hK _) e9).trans (kd_nO' (k := 10)))) (by decide)) q9) (rd_nOR (k := 10) hq_53 hm_39 (rd_sRf (S := S_35) (g := 101) (a := h) (v := (some q_22)) (by decide) hv_48))
  have hv_86 : hR S_66 101 h = (some q_22) := hf_68.fr (mem_old hm_39) (fun q9 => (fun e9 => absurd (((kd_nO (k := 10) hq_53 hm_39 hk_40)).symm.trans ((congrArg (hK _) e9).trans (kd_nO' (k := 10)))) (by decide)) q9) (rd_nOR (k := 10) hq_53 hm_39 (rd_sR (S := S_35) (g := 101) (a := h) (v := (some q_22))))
  have hv_87 : hR S_66 407 q_22 = (some q_27) := hf_68.fr (mem_old hm_43) (fun q9 => (fun e9 => absurd (((kd_nO (k := 10) hq_53 hm_43 hk_44)).symm.trans ((congrArg (hK _) e9).trans (kd_nO' (k := 10)))) (by decide)) q9) (rd_nOR (k := 10) hq_53 hm_43 (rd_sRf (S := S_35) (g := 101) (a := h) (v := (some q_22)) (by decide) e_32))
  have hv_88 : hR S_66 712 q_1 = (some q_5) := hf_68.fr (mem_old hm_41) (fun q9 => (fun e9 => absurd (((kd_nO (k := 10) hq_53 hm_41 hk_42)).symm.trans ((congrArg (hK _) e9).trans (kd_nO' (k := 10)))) (by decide)) q9) (rd_nOR (k := 10) hq_53 hm_41 (rd_sRf (S := S_35) (g := 101) (a := h) (v := (some q_22)) (by decide) hv_49))
  have hf_89 : Fm (fun _ _ => False) (fun f9 b9 => b9 = h) (fun _ => False) S S_66 := hf_56.then hf_68 (fun a9 ha9 => ⟨(fun f9 h9 => (fun h9 => h9.elim (fun h8 => absurd (h8.2 ▸ ha9) hz_55) (fun h8 => absurd (h8.2 ▸ ha9) hz_55)) h9), (fun f9 h9 => (fun h8 => absurd (h8 ▸ ha9) hz_55) h9), (fun h9 => h9.elim)⟩)
  have hz_90 : q_57 ∉ hL S := fun h9 => e_60 (hf_56.mem h9)
  show J _ _ _ _ _ 34 _
  refine j_putrF (f := 102) C hm9 flX1_28o (by decide) rfl rfl dX1_init_34 hm_71 hk_72 rfl ?_
  refine j_aload_n C dX1_init_37 rfl 0 rfl ?_
  refine j_bipush (v := 8) C dX1_init_38 (by decide) ?_
  have hf_93 : Fm (fun _ _ => False) (fun f9 b9 => b9 = h) (fun _ => False) S (sR S_66 102 h (some q_52)) := (hf_89.sR _ (fun _ => rfl))
  refine j_newI (N := 8) C ka_int (by decide) (by decide) (Nat.le_of_ble_eq_true rfl) (M.cells (by decide)) (M.slots (Nat.le_of_ble_eq_true rfl)) dX1_init_40 (fun q_91 hq_92 => ?_)
  have hz_94 : q_91 ∉ hL S := fun h9 => hq_92 (hf_93.mem h9)
  refine j_putrF (f := 103) C hm9 flX1_34o (by decide) rfl rfl dX1_init_42 (mem_old hm_71) (kd_nA (k := 14) (n := 8) hq_92 hm_71 hk_72) rfl ?_
  refine j_aload_n C dX1_init_45 rfl 0 rfl ?_
  refine j_bipush (v := 8) C dX1_init_46 (by decide) ?_
  have hf_97 : Fm (fun _ _ => False) (fun f9 b9 => b9 = h) (fun _ => False) S (sR (nA (sR S_66 102 h (some q_52)) q_91 14 8) 103 h (some q_91)) := ((hf_93.nA _ _ hq_92).sR _ (fun _ => rfl))
  obtain ⟨S_95, eS_96⟩ : ∃ S9 : Hp, S9 = (sR (nA (sR S_66 102 h (some q_52)) q_91 14 8) 103 h (some q_91)) := ⟨_, rfl⟩
  refine J.eq (S' := S_95) eS_96.symm rfl rfl ?_
  have hm_98 : h ∈ hL S_95 := by rw [eS_96]; exact (mem_old hm_71)
  have hk_99 : Kd S_95 h 1 := by rw [eS_96]; exact (kd_nA (k := 14) (n := 8) hq_92 hm_71 hk_72)
  have hm_100 : q_1 ∈ hL S_95 := by rw [eS_96]; exact (mem_old hm_73)
  have hk_101 : Kd S_95 q_1 7 := by rw [eS_96]; exact (kd_nA (k := 14) (n := 8) hq_92 hm_73 hk_74)
  have hm_102 : q_22 ∈ hL S_95 := by rw [eS_96]; exact (mem_old hm_75)
  have hk_103 : Kd S_95 q_22 4 := by rw [eS_96]; exact (kd_nA (k := 14) (n := 8) hq_92 hm_75 hk_76)
  have hm_104 : q_27 ∈ hL S_95 := by rw [eS_96]; exact (mem_old hm_77)
  have hk_105 : Kd S_95 q_27 14 := by rw [eS_96]; exact (kd_nA (k := 14) (n := 8) hq_92 hm_77 hk_78)
  have hn_106 : Ln S_95 q_27 20 := by rw [eS_96]; exact (ln_nA (k := 14) hq_92 hm_77 hn_79)
  have hz_107 : ∀ j, aI S_95 q_27 j = 0 := by rw [eS_96]; exact (fun j9 => rd_nAI (k := 14) (n := 8) hq_92 hm_77 (hz_69 j9))
  have hm_108 : q_5 ∈ hL S_95 := by rw [eS_96]; exact (mem_old hm_80)
  have hk_109 : Kd S_95 q_5 14 := by rw [eS_96]; exact (kd_nA (k := 14) (n := 8) hq_92 hm_80 hk_81)
  have hn_110 : Ln S_95 q_5 40 := by rw [eS_96]; exact (ln_nA (k := 14) hq_92 hm_80 hn_82)
  have hz_111 : ∀ j, aI S_95 q_5 j = 0 := by rw [eS_96]; exact (fun j9 => rd_nAI (k := 14) (n := 8) hq_92 hm_80 (hz_70 j9))
  have hm_112 : q_52 ∈ hL S_95 := by rw [eS_96]; exact (mem_old hm_83)
  have hk_113 : Kd S_95 q_52 10 := by rw [eS_96]; exact (kd_nA (k := 14) (n := 8) hq_92 hm_83 hk_84)
  have hm_114 : q_57 ∈ hL S_95 := by rw [eS_96]; exact (mem_old e_61)
  have hk_115 : Kd S_95 q_57 15 := by rw [eS_96]; exact (kd_nA (k := 14) (n := 8) hq_92 e_61 e_62)
  have hn_116 : Ln S_95 q_57 16 := by rw [eS_96]; exact (ln_nA (k := 14) hq_92 e_61 e_63)
  have hm_117 : q_91 ∈ hL S_95 := by rw [eS_96]; exact mem_new
  have hk_118 : Kd S_95 q_91 14 := by rw [eS_96]; exact (kd_nA' (k := 14) (n := 8))
  have hn_119 : Ln S_95 q_91 8 := by rw [eS_96]; exact (ln_nA' (k := 14))
  have hz_120 : ∀ j, aI S_95 q_91 j = 0 := by rw [eS_96]; exact (fun j9 => rd_nAI' (k := 14) (n := 8))
  have hv_121 : hI S_95 1000 q_52 = 1 := by rw [eS_96]; exact e_58
  have hv_122 : hI S_95 1001 q_52 = 1 := by rw [eS_96]; exact e_59
  have hv_123 : hR S_95 100 h = (some q_1) := by rw [eS_96]; exact (rd_sRf (S := (nA (sR S_66 102 h (some q_52)) q_91 14 8)) (g := 103) (a := h) (v := (some q_91)) (by decide) (rd_sRf (S := S_66) (g := 102) (a := h) (v := (some q_52)) (by decide) hv_85))
  have hv_124 : hR S_95 1003 q_52 = (some q_57) := by rw [eS_96]; exact (rd_sRf (S := (nA (sR S_66 102 h (some q_52)) q_91 14 8)) (g := 103) (a := h) (v := (some q_91)) (by decide) (rd_sRf (S := S_66) (g := 102) (a := h) (v := (some q_52)) (by decide) e_64))
  have hv_125 : hR S_95 101 h = (some q_22) := by rw [eS_96]; exact (rd_sRf (S := (nA (sR S_66 102 h (some q_52)) q_91 14 8)) (g := 103) (a := h) (v := (some q_91)) (by decide) (rd_sRf (S := S_66) (g := 102) (a := h) (v := (some q_52)) (by decide) hv_86))
  have hv_126 : hR S_95 102 h = (some q_52) := by rw [eS_96]; exact (rd_sRf (S := (nA (sR S_66 102 h (some q_52)) q_91 14 8)) (g := 103) (a := h) (v := (some q_91)) (by decide) (rd_sR (S := S_66) (g := 102) (a := h) (v := (some q_52))))
  have hv_127 : hR S_95 103 h = (some q_91) := by rw [eS_96]; exact (rd_sR (S := (nA (sR S_66 102 h (some q_52)) q_91 14 8)) (g := 103) (a := h) (v := (some q_91)))
  have hv_128 : hR S_95 407 q_22 = (some q_27) := by rw [eS_96]; exact (rd_sRf (S := (nA (sR S_66 102 h (some q_52)) q_91 14 8)) (g := 103) (a := h) (v := (some q_91)) (by decide) (rd_sRf (S := S_66) (g := 102) (a := h) (v := (some q_52)) (by decide) hv_87))
  have hv_129 : hR S_95 712 q_1 = (some q_5) := by rw [eS_96]; exact (rd_sRf (S := (nA (sR S_66 102 h (some q_52)) q_91 14 8)) (g := 103) (a := h) (v := (some q_91)) (by decide) (rd_sRf (S := S_66) (g := 102) (a := h) (v := (some q_52)) (by decide) hv_88))
  have hf_130 : Fm (fun _ _ => False) (fun f9 b9 => b9 = h) (fun _ => False) S S_95 := by rw [eS_96]; exact hf_97
  refine j_newI (N := 8) C ka_int (by decide) (by decide) (Nat.le_of_ble_eq_true rfl) (M.cells (by decide)) (M.slots (Nat.le_of_ble_eq_true rfl)) dX1_init_48 (fun q_131 hq_132 => ?_)
  have hz_133 : q_131 ∉ hL S := fun h9 => hq_132 (hf_130.mem h9)
  show J _ _ _ _ _ 50 _
  refine j_putrF (f := 104) C hm9 flX1_38o (by decide) rfl rfl dX1_init_50 (mem_old hm_98) (kd_nA (k := 14) (n := 8) hq_132 hm_98 hk_99) rfl ?_
  exact j_vret C M dX1_init_53 (Nat.le_of_ble_eq_true rfl) (Nat.le_of_ble_eq_true rfl) ⟨rfl, ((hf_130.nA _ _ hq_132).sR _ (fun _ => rfl))⟩

theorem dX0_init_0 : decode cX0_init 0 = .ok (.aload_n 0, 1) := by decide +kernel
theorem dX0_init_1 : decode cX0_init 1 = .ok (.invokespecial 3, 3) := by decide +kernel
theorem dX0_init_4 : decode cX0_init 4 = .ok (.aload_n 0, 1) := by decide +kernel
theorem dX0_init_5 : decode cX0_init 5 = .ok (.sipush 20000, 3) := by decide +kernel
theorem dX0_init_8 : decode cX0_init 8 = .ok (.newarray .int, 2) := by decide +kernel
theorem dX0_init_10 : decode cX0_init 10 = .ok (.putfield 11, 3) := by decide +kernel
theorem dX0_init_13 : decode cX0_init 13 = .ok (.aload_n 0, 1) := by decide +kernel
theorem dX0_init_14 : decode cX0_init 14 = .ok (.bipush 25, 2) := by decide +kernel
theorem dX0_init_16 : decode cX0_init 16 = .ok (.newarray .int, 2) := by decide +kernel
theorem dX0_init_18 : decode cX0_init 18 = .ok (.putfield 15, 3) := by decide +kernel
theorem dX0_init_21 : decode cX0_init 21 = .ok (.aload_n 0, 1) := by decide +kernel
theorem dX0_init_22 : decode cX0_init 22 = .ok (.new 18, 3) := by decide +kernel
theorem dX0_init_25 : decode cX0_init 25 = .ok (.dup, 1) := by decide +kernel
theorem dX0_init_26 : decode cX0_init 26 = .ok (.invokespecial 20, 3) := by decide +kernel
theorem dX0_init_29 : decode cX0_init 29 = .ok (.putfield 21, 3) := by decide +kernel
theorem dX0_init_32 : decode cX0_init 32 = .ok (.return_, 1) := by decide +kernel
set_option maxRecDepth 100000 in
set_option maxHeartbeats 4000000 in
theorem c_X0_init (S : Hp) (h : Nat) (hm : h ∈ hL S) (hk : hK S h = 0) : Ct 2 yX0_init cX0_init 1 none 4 20045 [.ref h] S (fun r S' => r = none ∧ Fm (fun _ _ => False) (fun f9 b9 => b9 = h) (fun _ => False) S S' ∧ ∃ q0 : Nat, q0 ∉ hL S ∧ q0 ∈ hL S' ∧ Kd S' q0 14 ∧ Ln S' q0 20000 ∧ hR S' 0 h = some q0 ∧ (∀ j, aI S' q0 j = 0)) := by
  refine ct_of (by decide) (Nat.le_of_ble_eq_true rfl) fun x hn9 C M hm9 => ?_
  have C : CB x RX0 cX0_init := C
  refine J.eq (lv' := [(0, .ref h)]) rfl rfl rfl ?_
  refine j_aload_n C dX0_init_0 rfl 0 rfl ?_
  refine j_objInit C mlX0_3 nst_oi (M.fl (by decide)) dX0_init_1 ?_
  refine j_aload_n C dX0_init_4 rfl 0 rfl ?_
  refine j_sipush (v := 20000) C dX0_init_5 (by decide) ?_
  refine j_newI (N := 20000) C ka_int (by decide) (by decide) (Nat.le_of_ble_eq_true rfl) (M.cells (by decide)) (M.slots (Nat.le_of_ble_eq_true rfl)) dX0_init_8 (fun q_1 hq_2 => ?_)
  have hz_3 : q_1 ∉ hL S := hq_2
  refine j_putrF (f := 0) C hm9 flX0_11o (by decide) rfl rfl dX0_init_10 (mem_old hm) (kd_nA (k := 14) (n := 20000) hq_2 hm hk) rfl ?_
  refine j_aload_n C dX0_init_13 rfl 0 rfl ?_
  refine j_bipush (v := 25) C dX0_init_14 (by decide) ?_
  show J _ _ _ _ _ 16 _
  have hf_6 : Fm (fun _ _ => False) (fun f9 b9 => b9 = h) (fun _ => False) S (sR (nA S q_1 14 20000) 0 h (some q_1)) := (((Fm.refl (WI := (fun _ _ => False)) (WR := (fun f9 b9 => b9 = h)) (WA := (fun _ => False))).nA _ _ hq_2).sR _ (fun _ => rfl))
  obtain ⟨S_4, eS_5⟩ : ∃ S9 : Hp, S9 = (sR (nA S q_1 14 20000) 0 h (some q_1)) := ⟨_, rfl⟩
  refine J.eq (S' := S_4) eS_5.symm rfl rfl ?_
  have hm_7 : h ∈ hL S_4 := by rw [eS_5]; exact (mem_old hm)
  have hk_8 : Kd S_4 h 0 := by rw [eS_5]; exact (kd_nA (k := 14) (n := 20000) hq_2 hm hk)
  have hm_9 : q_1 ∈ hL S_4 := by rw [eS_5]; exact mem_new
  have hk_10 : Kd S_4 q_1 14 := by rw [eS_5]; exact (kd_nA' (k := 14) (n := 20000))
  have hn_11 : Ln S_4 q_1 20000 := by rw [eS_5]; exact (ln_nA' (k := 14))
  have hz_12 : ∀ j, aI S_4 q_1 j = 0 := by rw [eS_5]; exact (fun j9 => rd_nAI' (k := 14) (n := 20000))
  have hv_13 : hR S_4 0 h = (some q_1) := by rw [eS_5]; exact (rd_sR (S := (nA S q_1 14 20000)) (g := 0) (a := h) (v := (some q_1)))
  have hf_14 : Fm (fun _ _ => False) (fun f9 b9 => b9 = h) (fun _ => False) S S_4 := by rw [eS_5]; exact hf_6
  refine j_newI (N := 25) C ka_int (by decide) (by decide) (Nat.le_of_ble_eq_true rfl) (M.cells (by decide)) (M.slots (Nat.le_of_ble_eq_true rfl)) dX0_init_16 (fun q_15 hq_16 => ?_)
  have hz_17 : q_15 ∉ hL S := fun h9 => hq_16 (hf_14.mem h9)
  refine j_putrF (f := 1) C hm9 flX0_15o (by decide) rfl rfl dX0_init_18 (mem_old hm_7) (kd_nA (k := 14) (n := 25) hq_16 hm_7 hk_8) rfl ?_
  refine j_aload_n C dX0_init_21 rfl 0 rfl ?_
  have hf_20 : Fm (fun _ _ => False) (fun f9 b9 => b9 = h) (fun _ => False) S (sR (nA S_4 q_15 14 25) 1 h (some q_15)) := ((hf_14.nA _ _ hq_16).sR _ (fun _ => rfl))
  obtain ⟨S_18, eS_19⟩ : ∃ S9 : Hp, S9 = (sR (nA S_4 q_15 14 25) 1 h (some q_15)) := ⟨_, rfl⟩
  refine J.eq (S' := S_18) eS_19.symm rfl rfl ?_
  have hm_21 : h ∈ hL S_18 := by rw [eS_19]; exact (mem_old hm_7)
  have hk_22 : Kd S_18 h 0 := by rw [eS_19]; exact (kd_nA (k := 14) (n := 25) hq_16 hm_7 hk_8)
  have hm_23 : q_1 ∈ hL S_18 := by rw [eS_19]; exact (mem_old hm_9)
  have hk_24 : Kd S_18 q_1 14 := by rw [eS_19]; exact (kd_nA (k := 14) (n := 25) hq_16 hm_9 hk_10)
  have hn_25 : Ln S_18 q_1 20000 := by rw [eS_19]; exact (ln_nA (k := 14) hq_16 hm_9 hn_11)
  have hz_26 : ∀ j, aI S_18 q_1 j = 0 := by rw [eS_19]; exact (fun j9 => rd_nAI (k := 14) (n := 25) hq_16 hm_9 (hz_12 j9))
  have hm_27 : q_15 ∈ hL S_18 := by rw [eS_19]; exact mem_new
  have hk_28 : Kd S_18 q_15 14 := by rw [eS_19]; exact (kd_nA' (k := 14) (n := 25))
  have hn_29 : Ln S_18 q_15 25 := by rw [eS_19]; exact (ln_nA' (k := 14))
  have hz_30 : ∀ j, aI S_18 q_15 j = 0 := by rw [eS_19]; exact (fun j9 => rd_nAI' (k := 14) (n := 25))
  have hv_31 : hR S_18 0 h = (some q_1) := by rw [eS_19]; exact (rd_sRf (S := (nA S_4 q_15 14 25)) (g := 1) (a := h) (v := (some q_15)) (by decide) hv_13)
  have hv_32 : hR S_18 1 h = (some q_15) := by rw [eS_19]; exact (rd_sR (S := (nA S_4 q_15 14 25)) (g := 1) (a := h) (v := (some q_15)))
  have hf_33 : Fm (fun _ _ => False) (fun f9 b9 => b9 = h) (fun _ => False) S S_18 := by rw [eS_19]; exact hf_20
  refine j_new (N := 4) C (ci := 10) rfl rfl klX0_18 knX10 kiX10 (M.cells (by decide)) (M.slots (by decide)) dX0_init_22 (fun q_34 hq_35 => ?_)
  have hz_36 : q_34 ∉ hL S := fun h9 => hq_35 (hf_33.mem h9)
  refine j_dup C dX0_init_25 rfl ?_
  have hf_37 : Fm (fun _ _ => False) (fun f9 b9 => b9 = h) (fun _ => False) S (nO S_18 q_34 10) := (hf_33.nO _ hq_35)
  refine j_callI C [] [.ref q_34, .ref h] mlX0_20 mcX10_init (c_X10_init (nO S_18 q_34 10) q_34 mem_new (kd_nO' (k := 10))) (M.rm (by decide) (by decide) (Nat.le_of_ble_eq_true rfl) (Nat.le_of_ble_eq_true rfl)) rfl rfl (Nat.le_of_ble_eq_true rfl) dX0_init_26 (fun r_46 S_47 hp_48 => ?_)
  obtain ⟨rfl, hf_49, e_39, e_40, q_38, e_41, e_42, e_43, e_44, e_45⟩ := hp_48
  refine J.eq (st' := [.ref q_34, .ref h]) rfl rfl rfl ?_
  have hz_50 : ∀ j, aI S_47 q_1 j = 0 := fun j9 => (hf_49.ai (mem_old hm_23) (fun h9 => h9) j9).trans (hz_26 j9)
  have hz_51 : ∀ j, aI S_47 q_15 j = 0 := fun j9 => (hf_49.ai (mem_old hm_27) (fun h9 => h9) j9).trans (hz_30 j9)
  have hm_52 : h ∈ hL S_47 := hf_49.mem (mem_old hm_21)
  have hk_53 : Kd S_47 h 0 := hf_49.kd (mem_old hm_21) (kd_nO (k := 10) hq_35 hm_21 hk_22)
  have hm_54 : q_1 ∈ hL S_47 := hf_49.mem (mem_old hm_23)
  have hk_55 : Kd S_47 q_1 14 := hf_49.kd (mem_old hm_23) (kd_nO (k := 10) hq_35 hm_23 hk_24)
  have hn_56 : Ln S_47 q_1 20000 := hf_49.ln (mem_old hm_23) hn_25
  have hm_57 : q_15 ∈ hL S_47 := hf_49.mem (mem_old hm_27)
  have hk_58 : Kd S_47 q_15 14 := hf_49.kd (mem_old hm_27) (kd_nO (k := 10) hq_35 hm_27 hk_28)
  have hn_59 : Ln S_47 q_15 25 := hf_49.ln (mem_old hm_27) hn_29
  have hm_60 : q_34 ∈ hL S_47 := hf_49.mem mem_new
  have hk_61 : Kd S_47 q_34 10 := hf_49.kd mem_new (kd_nO' (k := 10))
  have hv_62 : hR S_47 0 h = (some q_1) := hf_49.fr (mem_old hm_21) (fun q9 => (fun e9 => absurd (((kd_nO (k := 10) hq_35 hm_21 hk_22)).symm.trans ((congrArg (hK _) e9).trans (kd_nO' (k := 10)))) (by decide)) q9) (rd_nOR (k := 10) hq_35 hm_21 hv_31)
  have hv_63 : hR S_47 1 h = (some q_15) := hf_49.fr (mem_old hm_21) (fun q9 => (fun e9 => absurd (((kd_nO (k := 10) hq_35 hm_21 hk_22)).symm.trans ((congrArg (hK _) e9).trans (kd_nO' (k := 10)))) (by decide)) q9) (rd_nOR (k := 10) hq_35 hm_21 hv_32)
  have hf_64 : Fm (fun _ _ => False) (fun f9 b9 => b9 = h) (fun _ => False) S S_47 := hf_37.then hf_49 (fun a9 ha9 => ⟨(fun f9 h9 => (fun h9 => h9.elim (fun h8 => absurd (h8.2 ▸ ha9) hz_36) (fun h8 => absurd (h8.2 ▸ ha9) hz_36)) h9), (fun f9 h9 => (fun h8 => absurd (h8 ▸ ha9) hz_36) h9), (fun h9 => h9.elim)⟩)
  have hz_65 : q_38 ∉ hL S := fun h9 => e_41 (hf_37.mem h9)
  refine j_putr (f := 10) C flX0_21 (by decide) rfl rfl dX0_init_29 hm_52 hk_53 rfl ?_
  exact j_vret C M dX0_init_32 (Nat.le_of_ble_eq_true rfl) (Nat.le_of_ble_eq_true rfl) ⟨rfl, (hf_64.sR _ (fun _ => rfl)), q_1, hz_3, hm_54, hk_55, hn_56, (rd_sRf (S := S_47) (g := 10) (a := h) (v := (some q_34)) (by decide) hv_62), hz_50⟩
