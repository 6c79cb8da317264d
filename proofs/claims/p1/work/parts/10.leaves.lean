theorem dX8_init_0 : decode cX8_init 0 = .ok (.aload_n 0, 1) := by decide +kernel
theorem dX8_init_1 : decode cX8_init 1 = .ok (.invokespecial 1, 3) := by decide +kernel
theorem dX8_init_4 : decode cX8_init 4 = .ok (.aload_n 0, 1) := by decide +kernel
theorem dX8_init_5 : decode cX8_init 5 = .ok (.bipush 16, 2) := by decide +kernel
theorem dX8_init_7 : decode cX8_init 7 = .ok (.newarray .int, 2) := by decide +kernel
theorem dX8_init_9 : decode cX8_init 9 = .ok (.putfield 9, 3) := by decide +kernel
theorem dX8_init_12 : decode cX8_init 12 = .ok (.return_, 1) := by decide +kernel
set_option maxRecDepth 100000 in
set_option maxHeartbeats 4000000 in
theorem c_X8_init (S : Hp) (h : Nat) (hm : h ∈ hL S) (hk : hK S h = 8) : Ct 1 yX8_init cX8_init 1 none 1 16 [.ref h] S (fun r S' => r = none ∧ Fm (fun _ _ => False) (fun f a => a = h) (fun _ => False) S S' ∧ ∃ q0 : Nat, q0 ∉ hL S ∧ q0 ∈ hL S' ∧ hK S' q0 = 14 ∧ hN S' q0 = 16 ∧ hR S' 800 h = some q0 ∧ (∀ j, aI S' q0 j = 0)) := by
  refine ct_of (by decide) (Nat.le_of_ble_eq_true rfl) fun x hn9 C M hm9 => ?_
  have C : CB x RX8 cX8_init := C
  refine J.eq (lv' := [(0, .ref h)]) rfl rfl rfl ?_
  refine j_aload_n C dX8_init_0 rfl 0 rfl ?_
  refine j_objInit C mlX8_1 nst_oi (M.fl (by decide)) dX8_init_1 ?_
  refine j_aload_n C dX8_init_4 rfl 0 rfl ?_
  refine j_bipush (v := 16) C dX8_init_5 (by decide) ?_
  refine j_newI (N := 16) C ka_int (by decide) (by decide) (Nat.le_of_ble_eq_true rfl) (M.cells (by decide)) (M.slots (Nat.le_of_ble_eq_true rfl)) dX8_init_7 (fun q_1 hq_2 => ?_)
  have hz_3 : q_1 ∉ hL S := hq_2
  refine j_putrF (f := 800) C hm9 flX8_9o (by decide) rfl rfl dX8_init_9 (mem_old hm) (kd_nA (k := 14) (n := 16) hq_2 hm hk) rfl ?_
  exact j_vret C M dX8_init_12 (Nat.le_of_ble_eq_true rfl) (Nat.le_of_ble_eq_true rfl) ⟨rfl, ((Fm.refl.nA _ _ hq_2).sR _ (fun _ => rfl)), q_1, hz_3, mem_new, (kd_nA' (k := 14) (n := 16)), (ln_nA' (k := 14)), (rd_sR (S := (nA S q_1 14 16)) (g := 800) (a := h) (v := (some q_1))), (fun j9 => rd_nAI' (k := 14) (n := 16))⟩

theorem dX7_init_0 : decode cX7_init 0 = .ok (.aload_n 0, 1) := by decide +kernel
theorem dX7_init_1 : decode cX7_init 1 = .ok (.invokespecial 3, 3) := by decide +kernel
theorem dX7_init_4 : decode cX7_init 4 = .ok (.aload_n 0, 1) := by decide +kernel
theorem dX7_init_5 : decode cX7_init 5 = .ok (.bipush 40, 2) := by decide +kernel
theorem dX7_init_7 : decode cX7_init 7 = .ok (.newarray .int, 2) := by decide +kernel
theorem dX7_init_9 : decode cX7_init 9 = .ok (.putfield 11, 3) := by decide +kernel
theorem dX7_init_12 : decode cX7_init 12 = .ok (.return_, 1) := by decide +kernel
set_option maxRecDepth 100000 in
set_option maxHeartbeats 4000000 in
theorem c_X7_init (S : Hp) (h : Nat) (hm : h ∈ hL S) (hk : hK S h = 7) : Ct 1 yX7_init cX7_init 1 none 1 40 [.ref h] S (fun r S' => r = none ∧ Fm (fun _ _ => False) (fun f a => a = h) (fun _ => False) S S' ∧ ∃ q0 : Nat, q0 ∉ hL S ∧ q0 ∈ hL S' ∧ hK S' q0 = 14 ∧ hN S' q0 = 40 ∧ hR S' 712 h = some q0 ∧ (∀ j, aI S' q0 j = 0)) := by
  refine ct_of (by decide) (Nat.le_of_ble_eq_true rfl) fun x hn9 C M hm9 => ?_
  have C : CB x RX7 cX7_init := C
  refine J.eq (lv' := [(0, .ref h)]) rfl rfl rfl ?_
  refine j_aload_n C dX7_init_0 rfl 0 rfl ?_
  refine j_objInit C mlX7_3 nst_oi (M.fl (by decide)) dX7_init_1 ?_
  refine j_aload_n C dX7_init_4 rfl 0 rfl ?_
  refine j_bipush (v := 40) C dX7_init_5 (by decide) ?_
  refine j_newI (N := 40) C ka_int (by decide) (by decide) (Nat.le_of_ble_eq_true rfl) (M.cells (by decide)) (M.slots (Nat.le_of_ble_eq_true rfl)) dX7_init_7 (fun q_1 hq_2 => ?_)
  have hz_3 : q_1 ∉ hL S := hq_2
  refine j_putrF (f := 712) C hm9 flX7_11o (by decide) rfl rfl dX7_init_9 (mem_old hm) (kd_nA (k := 14) (n := 40) hq_2 hm hk) rfl ?_
  exact j_vret C M dX7_init_12 (Nat.le_of_ble_eq_true rfl) (Nat.le_of_ble_eq_true rfl) ⟨rfl, ((Fm.refl.nA _ _ hq_2).sR _ (fun _ => rfl)), q_1, hz_3, mem_new, (kd_nA' (k := 14) (n := 40)), (ln_nA' (k := 14)), (rd_sR (S := (nA S q_1 14 40)) (g := 712) (a := h) (v := (some q_1))), (fun j9 => rd_nAI' (k := 14) (n := 40))⟩

theorem dX4_init_0 : decode cX4_init 0 = .ok (.aload_n 0, 1) := by decide +kernel
theorem dX4_init_1 : decode cX4_init 1 = .ok (.invokespecial 1, 3) := by decide +kernel
theorem dX4_init_4 : decode cX4_init 4 = .ok (.aload_n 0, 1) := by decide +kernel
theorem dX4_init_5 : decode cX4_init 5 = .ok (.bipush 20, 2) := by decide +kernel
theorem dX4_init_7 : decode cX4_init 7 = .ok (.newarray .int, 2) := by decide +kernel
theorem dX4_init_9 : decode cX4_init 9 = .ok (.putfield 9, 3) := by decide +kernel
theorem dX4_init_12 : decode cX4_init 12 = .ok (.return_, 1) := by decide +kernel
set_option maxRecDepth 100000 in
set_option maxHeartbeats 4000000 in
theorem c_X4_init (S : Hp) (h : Nat) (hm : h ∈ hL S) (hk : hK S h = 4) : Ct 1 yX4_init cX4_init 1 none 1 20 [.ref h] S (fun r S' => r = none ∧ Fm (fun _ _ => False) (fun f a => a = h) (fun _ => False) S S' ∧ ∃ q0 : Nat, q0 ∉ hL S ∧ q0 ∈ hL S' ∧ hK S' q0 = 14 ∧ hN S' q0 = 20 ∧ hR S' 407 h = some q0 ∧ (∀ j, aI S' q0 j = 0)) := by
  refine ct_of (by decide) (Nat.le_of_ble_eq_true rfl) fun x hn9 C M hm9 => ?_
  have C : CB x RX4 cX4_init := C
  refine J.eq (lv' := [(0, .ref h)]) rfl rfl rfl ?_
  refine j_aload_n C dX4_init_0 rfl 0 rfl ?_
  refine j_objInit C mlX4_1 nst_oi (M.fl (by decide)) dX4_init_1 ?_
  refine j_aload_n C dX4_init_4 rfl 0 rfl ?_
  refine j_bipush (v := 20) C dX4_init_5 (by decide) ?_
  refine j_newI (N := 20) C ka_int (by decide) (by decide) (Nat.le_of_ble_eq_true rfl) (M.cells (by decide)) (M.slots (Nat.le_of_ble_eq_true rfl)) dX4_init_7 (fun q_1 hq_2 => ?_)
  have hz_3 : q_1 ∉ hL S := hq_2
  refine j_putrF (f := 407) C hm9 flX4_9o (by decide) rfl rfl dX4_init_9 (mem_old hm) (kd_nA (k := 14) (n := 20) hq_2 hm hk) rfl ?_
  exact j_vret C M dX4_init_12 (Nat.le_of_ble_eq_true rfl) (Nat.le_of_ble_eq_true rfl) ⟨rfl, ((Fm.refl.nA _ _ hq_2).sR _ (fun _ => rfl)), q_1, hz_3, mem_new, (kd_nA' (k := 14) (n := 20)), (ln_nA' (k := 14)), (rd_sR (S := (nA S q_1 14 20)) (g := 407) (a := h) (v := (some q_1))), (fun j9 => rd_nAI' (k := 14) (n := 20))⟩

theorem dX5_init_0 : decode cX5_init 0 = .ok (.aload_n 0, 1) := by decide +kernel
theorem dX5_init_1 : decode cX5_init 1 = .ok (.invokespecial 3, 3) := by decide +kernel
theorem dX5_init_4 : decode cX5_init 4 = .ok (.aload_n 0, 1) := by decide +kernel
theorem dX5_init_5 : decode cX5_init 5 = .ok (.iconst 0, 1) := by decide +kernel
theorem dX5_init_6 : decode cX5_init 6 = .ok (.newarray .byte, 2) := by decide +kernel
theorem dX5_init_8 : decode cX5_init 8 = .ok (.putfield 9, 3) := by decide +kernel
theorem dX5_init_11 : decode cX5_init 11 = .ok (.return_, 1) := by decide +kernel
set_option maxRecDepth 100000 in
set_option maxHeartbeats 4000000 in
theorem c_X5_init (S : Hp) (h : Nat) (hm : h ∈ hL S) (hk : hK S h = 5) : Ct 1 yX5_init cX5_init 1 none 1 0 [.ref h] S (fun r S' => r = none ∧ Fm (fun _ _ => False) (fun f a => a = h) (fun _ => False) S S' ∧ ∃ q0 : Nat, q0 ∉ hL S ∧ q0 ∈ hL S' ∧ hK S' q0 = 13 ∧ hN S' q0 = 0 ∧ hR S' 500 h = some q0 ∧ (∀ j, aI S' q0 j = 0)) := by
  refine ct_of (by decide) (Nat.le_of_ble_eq_true rfl) fun x hn9 C M hm9 => ?_
  have C : CB x RX5 cX5_init := C
  refine J.eq (lv' := [(0, .ref h)]) rfl rfl rfl ?_
  refine j_aload_n C dX5_init_0 rfl 0 rfl ?_
  refine j_objInit C mlX5_3 nst_oi (M.fl (by decide)) dX5_init_1 ?_
  refine j_aload_n C dX5_init_4 rfl 0 rfl ?_
  refine j_iconst (v := 0) C dX5_init_5 (by decide) ?_
  refine j_newB (N := 0) C ka_byte (by decide) (by decide) (Nat.le_of_ble_eq_true rfl) (M.cells (by decide)) (M.slots (Nat.le_of_ble_eq_true rfl)) dX5_init_6 (fun q_1 hq_2 => ?_)
  have hz_3 : q_1 ∉ hL S := hq_2
  refine j_putr (f := 500) C flX5_9 (by decide) rfl rfl dX5_init_8 (mem_old hm) (kd_nA (k := 13) (n := 0) hq_2 hm hk) rfl ?_
  exact j_vret C M dX5_init_11 (Nat.le_of_ble_eq_true rfl) (Nat.le_of_ble_eq_true rfl) ⟨rfl, ((Fm.refl.nA _ _ hq_2).sR _ (fun _ => rfl)), q_1, hz_3, mem_new, (kd_nA' (k := 13) (n := 0)), (ln_nA' (k := 13)), (rd_sR (S := (nA S q_1 13 0)) (g := 500) (a := h) (v := (some q_1))), (fun j9 => rd_nAI' (k := 13) (n := 0))⟩

theorem dX10_init_0 : decode cX10_init 0 = .ok (.aload_n 0, 1) := by decide +kernel
theorem dX10_init_1 : decode cX10_init 1 = .ok (.invokespecial 1, 3) := by decide +kernel
theorem dX10_init_4 : decode cX10_init 4 = .ok (.aload_n 0, 1) := by decide +kernel
theorem dX10_init_5 : decode cX10_init 5 = .ok (.iconst 1, 1) := by decide +kernel
theorem dX10_init_6 : decode cX10_init 6 = .ok (.putfield 7, 3) := by decide +kernel
theorem dX10_init_9 : decode cX10_init 9 = .ok (.aload_n 0, 1) := by decide +kernel
theorem dX10_init_10 : decode cX10_init 10 = .ok (.iconst 1, 1) := by decide +kernel
theorem dX10_init_11 : decode cX10_init 11 = .ok (.putfield 13, 3) := by decide +kernel
theorem dX10_init_14 : decode cX10_init 14 = .ok (.aload_n 0, 1) := by decide +kernel
theorem dX10_init_15 : decode cX10_init 15 = .ok (.bipush 16, 2) := by decide +kernel
theorem dX10_init_17 : decode cX10_init 17 = .ok (.newarray .long, 2) := by decide +kernel
theorem dX10_init_19 : decode cX10_init 19 = .ok (.putfield 16, 3) := by decide +kernel
theorem dX10_init_22 : decode cX10_init 22 = .ok (.return_, 1) := by decide +kernel
set_option maxRecDepth 100000 in
set_option maxHeartbeats 4000000 in
theorem c_X10_init (S : Hp) (h : Nat) (hm : h ∈ hL S) (hk : hK S h = 10) : Ct 1 yX10_init cX10_init 1 none 1 16 [.ref h] S (fun r S' => r = none ∧ Fm (fun f a => (f = 1000 ∧ a = h) ∨ (f = 1001 ∧ a = h)) (fun f a => a = h) (fun _ => False) S S' ∧ hI S' 1000 h = 1 ∧ hI S' 1001 h = 1 ∧ ∃ q0 : Nat, q0 ∉ hL S ∧ q0 ∈ hL S' ∧ hK S' q0 = 15 ∧ hN S' q0 = 16 ∧ hR S' 1003 h = some q0) := by
  refine ct_of (by decide) (Nat.le_of_ble_eq_true rfl) fun x hn9 C M hm9 => ?_
  have C : CB x RX10 cX10_init := C
  refine J.eq (lv' := [(0, .ref h)]) rfl rfl rfl ?_
  refine j_aload_n C dX10_init_0 rfl 0 rfl ?_
  refine j_objInit C mlX10_1 nst_oi (M.fl (by decide)) dX10_init_1 ?_
  refine j_aload_n C dX10_init_4 rfl 0 rfl ?_
  refine j_iconst (v := 1) C dX10_init_5 (by decide) ?_
  refine j_puti (f := 1000) C flX10_7 (by decide) rfl rfl dX10_init_6 hm hk rfl ?_
  refine j_aload_n C dX10_init_9 rfl 0 rfl ?_
  refine j_iconst (v := 1) C dX10_init_10 (by decide) ?_
  refine j_puti (f := 1001) C flX10_13 (by decide) rfl rfl dX10_init_11 hm hk rfl ?_
  refine j_aload_n C dX10_init_14 rfl 0 rfl ?_
  refine j_bipush (v := 16) C dX10_init_15 (by decide) ?_
  have hf_3 : Fm (fun f a => (f = 1000 ∧ a = h) ∨ (f = 1001 ∧ a = h)) (fun f a => a = h) (fun _ => False) S (sI (sI S 1000 h 1) 1001 h 1) := ((Fm.refl.sI _ (fun _ => (Or.inl ⟨rfl, rfl⟩))).sI _ (fun _ => (Or.inr ⟨rfl, rfl⟩)))
  refine j_newJ (N := 16) C ka_long (by decide) (by decide) (Nat.le_of_ble_eq_true rfl) (M.cells (by decide)) (M.slots (Nat.le_of_ble_eq_true rfl)) dX10_init_17 (fun q_1 hq_2 => ?_)
  have hz_4 : q_1 ∉ hL S := fun h9 => hq_2 (hf_3.mem h9)
  refine j_putrF (f := 1003) C hm9 flX10_16o (by decide) rfl rfl dX10_init_19 (mem_old hm) (kd_nA (k := 15) (n := 16) hq_2 hm hk) rfl ?_
  exact j_vret C M dX10_init_22 (Nat.le_of_ble_eq_true rfl) (Nat.le_of_ble_eq_true rfl) ⟨rfl, ((hf_3.nA _ _ hq_2).sR _ (fun _ => rfl)), (rd_sIf (S := (sI S 1000 h 1)) (g := 1001) (a := h) (v := 1) (by decide) (rd_sI (S := S) (g := 1000) (a := h) (v := 1))), (rd_sI (S := (sI S 1000 h 1)) (g := 1001) (a := h) (v := 1)), q_1, hz_4, mem_new, (kd_nA' (k := 15) (n := 16)), (ln_nA' (k := 15)), (rd_sR (S := (nA (sI (sI S 1000 h 1) 1001 h 1) q_1 15 16)) (g := 1003) (a := h) (v := (some q_1)))⟩
