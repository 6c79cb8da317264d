theorem dX11_drop_0 : decode cX11_drop 0 = .ok (.aload_n 0, 1) := by decide +kernel
theorem dX11_drop_1 : decode cX11_drop 1 = .ok (.getfield 60, 3) := by decide +kernel
theorem dX11_drop_4 : decode cX11_drop 4 = .ok (.istore_n 1, 1) := by decide +kernel
theorem dX11_drop_5 : decode cX11_drop 5 = .ok (.aload_n 0, 1) := by decide +kernel
theorem dX11_drop_6 : decode cX11_drop 6 = .ok (.iconst 0, 1) := by decide +kernel
theorem dX11_drop_7 : decode cX11_drop 7 = .ok (.putfield 60, 3) := by decide +kernel
theorem dX11_drop_10 : decode cX11_drop 10 = .ok (.iload_n 1, 1) := by decide +kernel
theorem dX11_drop_11 : decode cX11_drop 11 = .ok (.ireturn, 1) := by decide +kernel

set_option maxRecDepth 100000 in
set_option maxHeartbeats 4000000 in
theorem c_X11_drop (S : Hp) (ad : Nat → Nat) (hW : Wd ad S) (v0 : Int32) (hI_1105_ad0 : hI S 1105 (ad 0) = v0) : Ct 1 yX11_drop cX11_drop 2 (some .int) 0 0 [.ref (ad 0)] S (fun r S' => r = some (.int v0) ∧ S' = (sI S 1105 (ad 0) 0)) := by
  refine ct_of (by decide) (Nat.le_of_ble_eq_true rfl) fun x hn9 C M hm9 => ?_
  have C : CB x RX11 cX11_drop := C
  refine J.eq (lv' := [(0, .ref (ad 0))]) rfl rfl rfl ?_
  refine j_aload_n C dX11_drop_0 rfl 0 rfl ?_
  refine j_geti (f := 1105) (v := v0) C flX11_60 dX11_drop_1 (wm_0 (S := S) hW) (wk_0 (S := S) hW) (by decide) (by decide) rfl hI_1105_ad0 ?_
  refine j_istore_n (lv' := [(1, .int v0), (0, .ref (ad 0))]) C dX11_drop_4 rfl (by rw [hn9]; decide) rfl ?_
  refine j_aload_n C dX11_drop_5 rfl 1 rfl ?_
  refine j_iconst (v := 0) C dX11_drop_6 (by decide) ?_
  refine j_puti (f := 1105) C flX11_60 (by decide) rfl rfl dX11_drop_7 (wm_0 (S := S) hW) (wk_0 (S := S) hW) rfl ?_
  refine j_iload_n C dX11_drop_10 rfl 0 rfl ?_
  exact j_iret C M dX11_drop_11 (by decide) (by decide) ⟨rfl, rfl⟩

theorem dX12_drop_0 : decode cX12_drop 0 = .ok (.aload_n 0, 1) := by decide +kernel
theorem dX12_drop_1 : decode cX12_drop 1 = .ok (.getfield 153, 3) := by decide +kernel
theorem dX12_drop_4 : decode cX12_drop 4 = .ok (.istore_n 1, 1) := by decide +kernel
theorem dX12_drop_5 : decode cX12_drop 5 = .ok (.aload_n 0, 1) := by decide +kernel
theorem dX12_drop_6 : decode cX12_drop 6 = .ok (.iconst 0, 1) := by decide +kernel
theorem dX12_drop_7 : decode cX12_drop 7 = .ok (.putfield 153, 3) := by decide +kernel
theorem dX12_drop_10 : decode cX12_drop 10 = .ok (.iload_n 1, 1) := by decide +kernel
theorem dX12_drop_11 : decode cX12_drop 11 = .ok (.ireturn, 1) := by decide +kernel

set_option maxRecDepth 100000 in
set_option maxHeartbeats 4000000 in
theorem c_X12_drop (S : Hp) (ad : Nat → Nat) (hW : Wd ad S) (v0 : Int32) (hI_1222_ad133 : hI S 1222 (ad 133) = v0) : Ct 1 yX12_drop cX12_drop 2 (some .int) 0 0 [.ref (ad 133)] S (fun r S' => r = some (.int v0) ∧ S' = (sI S 1222 (ad 133) 0)) := by
  refine ct_of (by decide) (Nat.le_of_ble_eq_true rfl) fun x hn9 C M hm9 => ?_
  have C : CB x RX12 cX12_drop := C
  refine J.eq (lv' := [(0, .ref (ad 133))]) rfl rfl rfl ?_
  refine j_aload_n C dX12_drop_0 rfl 0 rfl ?_
  refine j_geti (f := 1222) (v := v0) C flX12_153 dX12_drop_1 (wm_133 (S := S) hW) (wk_133 (S := S) hW) (by decide) (by decide) rfl hI_1222_ad133 ?_
  refine j_istore_n (lv' := [(1, .int v0), (0, .ref (ad 133))]) C dX12_drop_4 rfl (by rw [hn9]; decide) rfl ?_
  refine j_aload_n C dX12_drop_5 rfl 1 rfl ?_
  refine j_iconst (v := 0) C dX12_drop_6 (by decide) ?_
  refine j_puti (f := 1222) C flX12_153 (by decide) rfl rfl dX12_drop_7 (wm_133 (S := S) hW) (wk_133 (S := S) hW) rfl ?_
  refine j_iload_n C dX12_drop_10 rfl 0 rfl ?_
  exact j_iret C M dX12_drop_11 (by decide) (by decide) ⟨rfl, rfl⟩

theorem dX11_cut_0 : decode cX11_cut 0 = .ok (.iload_n 1, 1) := by decide +kernel
theorem dX11_cut_1 : decode cX11_cut 1 = .ok (.ifCond .lt 11, 3) := by decide +kernel
theorem dX11_cut_4 : decode cX11_cut 4 = .ok (.iload_n 1, 1) := by decide +kernel
theorem dX11_cut_5 : decode cX11_cut 5 = .ok (.aload_n 0, 1) := by decide +kernel
theorem dX11_cut_6 : decode cX11_cut 6 = .ok (.getfield 53, 3) := by decide +kernel
theorem dX11_cut_9 : decode cX11_cut 9 = .ok (.if_icmp .le 5, 3) := by decide +kernel
theorem dX11_cut_12 : decode cX11_cut 12 = .ok (.iconst (-1), 1) := by decide +kernel
theorem dX11_cut_13 : decode cX11_cut 13 = .ok (.ireturn, 1) := by decide +kernel
theorem dX11_cut_14 : decode cX11_cut 14 = .ok (.aload_n 0, 1) := by decide +kernel
theorem dX11_cut_15 : decode cX11_cut 15 = .ok (.getfield 53, 3) := by decide +kernel
theorem dX11_cut_18 : decode cX11_cut 18 = .ok (.iload_n 1, 1) := by decide +kernel
theorem dX11_cut_19 : decode cX11_cut 19 = .ok (.isub, 1) := by decide +kernel
theorem dX11_cut_20 : decode cX11_cut 20 = .ok (.istore_n 2, 1) := by decide +kernel
theorem dX11_cut_21 : decode cX11_cut 21 = .ok (.aload_n 0, 1) := by decide +kernel
theorem dX11_cut_22 : decode cX11_cut 22 = .ok (.iload_n 1, 1) := by decide +kernel
theorem dX11_cut_23 : decode cX11_cut 23 = .ok (.putfield 53, 3) := by decide +kernel
theorem dX11_cut_26 : decode cX11_cut 26 = .ok (.iload_n 2, 1) := by decide +kernel
theorem dX11_cut_27 : decode cX11_cut 27 = .ok (.ireturn, 1) := by decide +kernel

set_option maxRecDepth 100000 in
set_option maxHeartbeats 4000000 in
theorem c_X11_cut_neg (S : Hp) (ad : Nat → Nat) (hW : Wd ad S) (v0 : Int32) (t9 : Nat) (hI_1101_ad0 : hI S 1101 (ad 0) = nI t9) (h8 : t9 ≤ 8000) (hv : v0 < 0) : Ct 1 yX11_cut cX11_cut 3 (some .int) 0 0 [.ref (ad 0), .int v0] S (fun r S' => r = some (.int (-1)) ∧ S' = S) := by
  refine ct_of (by decide) (Nat.le_of_ble_eq_true rfl) fun x hn9 C M hm9 => ?_
  have C : CB x RX11 cX11_cut := C
  refine J.eq (lv' := [(0, .ref (ad 0)), (1, .int v0)]) rfl rfl rfl ?_
  refine j_iload_n C dX11_cut_0 rfl 1 rfl ?_
  refine j_if_lt (tgt := 12) C dX11_cut_1 (by decide) (fun c_1 => ?_) (fun c_1 => absurd hv c_1)
  refine j_iconst (v := (-1)) C dX11_cut_12 (by decide) ?_
  exact j_iret C M dX11_cut_13 (by decide) (by decide) ⟨rfl, rfl⟩

set_option maxRecDepth 100000 in
set_option maxHeartbeats 4000000 in
theorem c_X11_cut_no (S : Hp) (ad : Nat → Nat) (hW : Wd ad S) (n9 : Nat) (t9 : Nat) (hI_1101_ad0 : hI S 1101 (ad 0) = nI t9) (h8 : t9 ≤ 8000) (hn : t9 < n9) (hn2 : n9 < 2 ^ 31) : Ct 1 yX11_cut cX11_cut 3 (some .int) 0 0 [.ref (ad 0), .int (nI n9)] S (fun r S' => r = some (.int (-1)) ∧ S' = S) := by
  refine ct_of (by decide) (Nat.le_of_ble_eq_true rfl) fun x hn9 C M hm9 => ?_
  have C : CB x RX11 cX11_cut := C
  refine J.eq (lv' := [(0, .ref (ad 0)), (1, .int (nI n9))]) rfl rfl rfl ?_
  refine j_iload_n C dX11_cut_0 rfl 1 rfl ?_
  refine j_if_lt (tgt := 12) C dX11_cut_1 (by decide) (fun c_1 => absurd c_1 (nI_pos (by omega))) (fun c_1 => ?_)
  refine j_iload_n C dX11_cut_4 rfl 1 rfl ?_
  refine j_aload_n C dX11_cut_5 rfl 0 rfl ?_
  refine j_geti (f := 1101) (v := nI t9) C flX11_53 dX11_cut_6 (wm_0 (S := S) hW) (wk_0 (S := S) hW) (by decide) (by decide) rfl hI_1101_ad0 ?_
  refine j_ic_le (tgt := 14) C dX11_cut_9 (by decide) (fun c_9 => absurd c_9 (nI_ge (by omega) (by omega))) (fun c_9 => ?_)
  refine j_iconst (v := (-1)) C dX11_cut_12 (by decide) ?_
  exact j_iret C M dX11_cut_13 (by decide) (by decide) ⟨rfl, rfl⟩

set_option maxRecDepth 100000 in
set_option maxHeartbeats 4000000 in
theorem c_X11_cut (S : Hp) (ad : Nat → Nat) (hW : Wd ad S) (n9 : Nat) (t9 : Nat) (hI_1101_ad0 : hI S 1101 (ad 0) = nI t9) (h8 : t9 ≤ 8000) (hn : n9 ≤ t9) : Ct 1 yX11_cut cX11_cut 3 (some .int) 0 0 [.ref (ad 0), .int (nI n9)] S (fun r S' => r = some (.int ((nI t9) - (nI n9))) ∧ S' = (sI S 1101 (ad 0) (nI n9))) := by
  refine ct_of (by decide) (Nat.le_of_ble_eq_true rfl) fun x hn9 C M hm9 => ?_
  have C : CB x RX11 cX11_cut := C
  refine J.eq (lv' := [(0, .ref (ad 0)), (1, .int (nI n9))]) rfl rfl rfl ?_
  refine j_iload_n C dX11_cut_0 rfl 1 rfl ?_
  refine j_if_lt (tgt := 12) C dX11_cut_1 (by decide) (fun c_1 => absurd c_1 (nI_pos (by omega))) (fun c_1 => ?_)
  refine j_iload_n C dX11_cut_4 rfl 1 rfl ?_
  refine j_aload_n C dX11_cut_5 rfl 0 rfl ?_
  refine j_geti (f := 1101) (v := nI t9) C flX11_53 dX11_cut_6 (wm_0 (S := S) hW) (wk_0 (S := S) hW) (by decide) (by decide) rfl hI_1101_ad0 ?_
  refine j_ic_le (tgt := 14) C dX11_cut_9 (by decide) (fun c_9 => ?_) (fun c_9 => absurd (nI_le (by omega) (by omega)) c_9)
  refine j_aload_n C dX11_cut_14 rfl 0 rfl ?_
  refine j_geti (f := 1101) (v := nI t9) C flX11_53 dX11_cut_15 (wm_0 (S := S) hW) (wk_0 (S := S) hW) (by decide) (by decide) rfl hI_1101_ad0 ?_
  show J _ _ _ _ _ 18 _
  refine j_iload_n C dX11_cut_18 rfl 1 rfl ?_
  refine j_isub C dX11_cut_19 rfl ?_
  refine j_istore_n (lv' := [(2, .int ((nI t9) - (nI n9))), (0, .ref (ad 0)), (1, .int (nI n9))]) C dX11_cut_20 rfl (by rw [hn9]; decide) rfl ?_
  refine j_aload_n C dX11_cut_21 rfl 1 rfl ?_
  refine j_iload_n C dX11_cut_22 rfl 2 rfl ?_
  refine j_puti (f := 1101) C flX11_53 (by decide) rfl rfl dX11_cut_23 (wm_0 (S := S) hW) (wk_0 (S := S) hW) rfl ?_
  refine j_iload_n C dX11_cut_26 rfl 0 rfl ?_
  exact j_iret C M dX11_cut_27 (by decide) (by decide) ⟨rfl, rfl⟩

theorem dX12_cut_0 : decode cX12_cut 0 = .ok (.iload_n 1, 1) := by decide +kernel
theorem dX12_cut_1 : decode cX12_cut 1 = .ok (.ifCond .lt 11, 3) := by decide +kernel
theorem dX12_cut_4 : decode cX12_cut 4 = .ok (.iload_n 1, 1) := by decide +kernel
theorem dX12_cut_5 : decode cX12_cut 5 = .ok (.aload_n 0, 1) := by decide +kernel
theorem dX12_cut_6 : decode cX12_cut 6 = .ok (.getfield 146, 3) := by decide +kernel
theorem dX12_cut_9 : decode cX12_cut 9 = .ok (.if_icmp .le 5, 3) := by decide +kernel
theorem dX12_cut_12 : decode cX12_cut 12 = .ok (.iconst (-1), 1) := by decide +kernel
theorem dX12_cut_13 : decode cX12_cut 13 = .ok (.ireturn, 1) := by decide +kernel
theorem dX12_cut_14 : decode cX12_cut 14 = .ok (.aload_n 0, 1) := by decide +kernel
theorem dX12_cut_15 : decode cX12_cut 15 = .ok (.getfield 146, 3) := by decide +kernel
theorem dX12_cut_18 : decode cX12_cut 18 = .ok (.iload_n 1, 1) := by decide +kernel
theorem dX12_cut_19 : decode cX12_cut 19 = .ok (.isub, 1) := by decide +kernel
theorem dX12_cut_20 : decode cX12_cut 20 = .ok (.istore_n 2, 1) := by decide +kernel
theorem dX12_cut_21 : decode cX12_cut 21 = .ok (.aload_n 0, 1) := by decide +kernel
theorem dX12_cut_22 : decode cX12_cut 22 = .ok (.iload_n 1, 1) := by decide +kernel
theorem dX12_cut_23 : decode cX12_cut 23 = .ok (.putfield 146, 3) := by decide +kernel
theorem dX12_cut_26 : decode cX12_cut 26 = .ok (.iload_n 2, 1) := by decide +kernel
theorem dX12_cut_27 : decode cX12_cut 27 = .ok (.ireturn, 1) := by decide +kernel

set_option maxRecDepth 100000 in
set_option maxHeartbeats 4000000 in
theorem c_X12_cut_neg (S : Hp) (ad : Nat → Nat) (hW : Wd ad S) (v0 : Int32) (t9 : Nat) (hI_1224_ad133 : hI S 1224 (ad 133) = nI t9) (h8 : t9 ≤ 8000) (hv : v0 < 0) : Ct 1 yX12_cut cX12_cut 3 (some .int) 0 0 [.ref (ad 133), .int v0] S (fun r S' => r = some (.int (-1)) ∧ S' = S) := by
  refine ct_of (by decide) (Nat.le_of_ble_eq_true rfl) fun x hn9 C M hm9 => ?_
  have C : CB x RX12 cX12_cut := C
  refine J.eq (lv' := [(0, .ref (ad 133)), (1, .int v0)]) rfl rfl rfl ?_
  refine j_iload_n C dX12_cut_0 rfl 1 rfl ?_
  refine j_if_lt (tgt := 12) C dX12_cut_1 (by decide) (fun c_1 => ?_) (fun c_1 => absurd hv c_1)
  refine j_iconst (v := (-1)) C dX12_cut_12 (by decide) ?_
  exact j_iret C M dX12_cut_13 (by decide) (by decide) ⟨rfl, rfl⟩

set_option maxRecDepth 100000 in
set_option maxHeartbeats 4000000 in
theorem c_X12_cut_no (S : Hp) (ad : Nat → Nat) (hW : Wd ad S) (n9 : Nat) (t9 : Nat) (hI_1224_ad133 : hI S 1224 (ad 133) = nI t9) (h8 : t9 ≤ 8000) (hn : t9 < n9) (hn2 : n9 < 2 ^ 31) : Ct 1 yX12_cut cX12_cut 3 (some .int) 0 0 [.ref (ad 133), .int (nI n9)] S (fun r S' => r = some (.int (-1)) ∧ S' = S) := by
  refine ct_of (by decide) (Nat.le_of_ble_eq_true rfl) fun x hn9 C M hm9 => ?_
  have C : CB x RX12 cX12_cut := C
  refine J.eq (lv' := [(0, .ref (ad 133)), (1, .int (nI n9))]) rfl rfl rfl ?_
  refine j_iload_n C dX12_cut_0 rfl 1 rfl ?_
  refine j_if_lt (tgt := 12) C dX12_cut_1 (by decide) (fun c_1 => absurd c_1 (nI_pos (by omega))) (fun c_1 => ?_)
  refine j_iload_n C dX12_cut_4 rfl 1 rfl ?_
  refine j_aload_n C dX12_cut_5 rfl 0 rfl ?_
  refine j_geti (f := 1224) (v := nI t9) C flX12_146 dX12_cut_6 (wm_133 (S := S) hW) (wk_133 (S := S) hW) (by decide) (by decide) rfl hI_1224_ad133 ?_
  refine j_ic_le (tgt := 14) C dX12_cut_9 (by decide) (fun c_9 => absurd c_9 (nI_ge (by omega) (by omega))) (fun c_9 => ?_)
  refine j_iconst (v := (-1)) C dX12_cut_12 (by decide) ?_
  exact j_iret C M dX12_cut_13 (by decide) (by decide) ⟨rfl, rfl⟩

set_option maxRecDepth 100000 in
set_option maxHeartbeats 4000000 in
theorem c_X12_cut (S : Hp) (ad : Nat → Nat) (hW : Wd ad S) (n9 : Nat) (t9 : Nat) (hI_1224_ad133 : hI S 1224 (ad 133) = nI t9) (h8 : t9 ≤ 8000) (hn : n9 ≤ t9) : Ct 1 yX12_cut cX12_cut 3 (some .int) 0 0 [.ref (ad 133), .int (nI n9)] S (fun r S' => r = some (.int ((nI t9) - (nI n9))) ∧ S' = (sI S 1224 (ad 133) (nI n9))) := by
  refine ct_of (by decide) (Nat.le_of_ble_eq_true rfl) fun x hn9 C M hm9 => ?_
  have C : CB x RX12 cX12_cut := C
  refine J.eq (lv' := [(0, .ref (ad 133)), (1, .int (nI n9))]) rfl rfl rfl ?_
  refine j_iload_n C dX12_cut_0 rfl 1 rfl ?_
  refine j_if_lt (tgt := 12) C dX12_cut_1 (by decide) (fun c_1 => absurd c_1 (nI_pos (by omega))) (fun c_1 => ?_)
  refine j_iload_n C dX12_cut_4 rfl 1 rfl ?_
  refine j_aload_n C dX12_cut_5 rfl 0 rfl ?_
  refine j_geti (f := 1224) (v := nI t9) C flX12_146 dX12_cut_6 (wm_133 (S := S) hW) (wk_133 (S := S) hW) (by decide) (by decide) rfl hI_1224_ad133 ?_
  refine j_ic_le (tgt := 14) C dX12_cut_9 (by decide) (fun c_9 => ?_) (fun c_9 => absurd (nI_le (by omega) (by omega)) c_9)
  refine j_aload_n C dX12_cut_14 rfl 0 rfl ?_
  refine j_geti (f := 1224) (v := nI t9) C flX12_146 dX12_cut_15 (wm_133 (S := S) hW) (wk_133 (S := S) hW) (by decide) (by decide) rfl hI_1224_ad133 ?_
  show J _ _ _ _ _ 18 _
  refine j_iload_n C dX12_cut_18 rfl 1 rfl ?_
  refine j_isub C dX12_cut_19 rfl ?_
  refine j_istore_n (lv' := [(2, .int ((nI t9) - (nI n9))), (0, .ref (ad 133)), (1, .int (nI n9))]) C dX12_cut_20 rfl (by rw [hn9]; decide) rfl ?_
  refine j_aload_n C dX12_cut_21 rfl 1 rfl ?_
  refine j_iload_n C dX12_cut_22 rfl 2 rfl ?_
  refine j_puti (f := 1224) C flX12_146 (by decide) rfl rfl dX12_cut_23 (wm_133 (S := S) hW) (wk_133 (S := S) hW) rfl ?_
  refine j_iload_n C dX12_cut_26 rfl 0 rfl ?_
  exact j_iret C M dX12_cut_27 (by decide) (by decide) ⟨rfl, rfl⟩

theorem dX11_fault_0 : decode cX11_fault 0 = .ok (.iload_n 1, 1) := by decide +kernel
theorem dX11_fault_1 : decode cX11_fault 1 = .ok (.tableswitch 42 0 2 #[27, 32, 37], 27) := by decide +kernel
theorem dX11_fault_28 : decode cX11_fault 28 = .ok (.aload_n 0, 1) := by decide +kernel
theorem dX11_fault_29 : decode cX11_fault 29 = .ok (.getfield 69, 3) := by decide +kernel
theorem dX11_fault_32 : decode cX11_fault 32 = .ok (.ireturn, 1) := by decide +kernel
theorem dX11_fault_33 : decode cX11_fault 33 = .ok (.aload_n 0, 1) := by decide +kernel
theorem dX11_fault_34 : decode cX11_fault 34 = .ok (.getfield 23, 3) := by decide +kernel
theorem dX11_fault_37 : decode cX11_fault 37 = .ok (.ireturn, 1) := by decide +kernel
theorem dX11_fault_38 : decode cX11_fault 38 = .ok (.aload_n 0, 1) := by decide +kernel
theorem dX11_fault_39 : decode cX11_fault 39 = .ok (.getfield 27, 3) := by decide +kernel
theorem dX11_fault_42 : decode cX11_fault 42 = .ok (.ireturn, 1) := by decide +kernel
theorem dX11_fault_43 : decode cX11_fault 43 = .ok (.iconst (-1), 1) := by decide +kernel
theorem dX11_fault_44 : decode cX11_fault 44 = .ok (.ireturn, 1) := by decide +kernel

set_option maxRecDepth 100000 in
set_option maxHeartbeats 4000000 in
theorem c_X11_fault0 (S : Hp) (ad : Nat → Nat) (hW : Wd ad S) (v0 : Int32) (hI_1109_ad0 : hI S 1109 (ad 0) = v0) : Ct 1 yX11_fault cX11_fault 2 (some .int) 0 0 [.ref (ad 0), .int 0] S (fun r S' => r = some (.int v0) ∧ S' = S) := by
  refine ct_of (by decide) (Nat.le_of_ble_eq_true rfl) fun x hn9 C M hm9 => ?_
  have C : CB x RX11 cX11_fault := C
  refine J.eq (lv' := [(0, .ref (ad 0)), (1, .int 0)]) rfl rfl rfl ?_
  refine j_iload_n C dX11_fault_0 rfl 1 rfl ?_
  refine j_tabIn (off := 27) (tgt := 28) C dX11_fault_1 (by decide) (by decide) (by decide) (by decide) ?_
  refine j_aload_n C dX11_fault_28 rfl 0 rfl ?_
  refine j_geti (f := 1109) (v := v0) C flX11_69 dX11_fault_29 (wm_0 (S := S) hW) (wk_0 (S := S) hW) (by decide) (by decide) rfl hI_1109_ad0 ?_
  exact j_iret C M dX11_fault_32 (by decide) (by decide) ⟨rfl, rfl⟩

set_option maxRecDepth 100000 in
set_option maxHeartbeats 4000000 in
theorem c_X11_fault1 (S : Hp) (ad : Nat → Nat) (hW : Wd ad S) (v0 : Int32) (hI_1110_ad0 : hI S 1110 (ad 0) = v0) : Ct 1 yX11_fault cX11_fault 2 (some .int) 0 0 [.ref (ad 0), .int 1] S (fun r S' => r = some (.int v0) ∧ S' = S) := by
  refine ct_of (by decide) (Nat.le_of_ble_eq_true rfl) fun x hn9 C M hm9 => ?_
  have C : CB x RX11 cX11_fault := C
  refine J.eq (lv' := [(0, .ref (ad 0)), (1, .int 1)]) rfl rfl rfl ?_
  refine j_iload_n C dX11_fault_0 rfl 1 rfl ?_
  refine j_tabIn (off := 32) (tgt := 33) C dX11_fault_1 (by decide) (by decide) (by decide) (by decide) ?_
  refine j_aload_n C dX11_fault_33 rfl 0 rfl ?_
  refine j_geti (f := 1110) (v := v0) C flX11_23 dX11_fault_34 (wm_0 (S := S) hW) (wk_0 (S := S) hW) (by decide) (by decide) rfl hI_1110_ad0 ?_
  exact j_iret C M dX11_fault_37 (by decide) (by decide) ⟨rfl, rfl⟩

set_option maxRecDepth 100000 in
set_option maxHeartbeats 4000000 in
theorem c_X11_fault2 (S : Hp) (ad : Nat → Nat) (hW : Wd ad S) (v0 : Int32) (hI_1111_ad0 : hI S 1111 (ad 0) = v0) : Ct 1 yX11_fault cX11_fault 2 (some .int) 0 0 [.ref (ad 0), .int 2] S (fun r S' => r = some (.int v0) ∧ S' = S) := by
  refine ct_of (by decide) (Nat.le_of_ble_eq_true rfl) fun x hn9 C M hm9 => ?_
  have C : CB x RX11 cX11_fault := C
  refine J.eq (lv' := [(0, .ref (ad 0)), (1, .int 2)]) rfl rfl rfl ?_
  refine j_iload_n C dX11_fault_0 rfl 1 rfl ?_
  refine j_tabIn (off := 37) (tgt := 38) C dX11_fault_1 (by decide) (by decide) (by decide) (by decide) ?_
  refine j_aload_n C dX11_fault_38 rfl 0 rfl ?_
  refine j_geti (f := 1111) (v := v0) C flX11_27 dX11_fault_39 (wm_0 (S := S) hW) (wk_0 (S := S) hW) (by decide) (by decide) rfl hI_1111_ad0 ?_
  exact j_iret C M dX11_fault_42 (by decide) (by decide) ⟨rfl, rfl⟩

theorem dX12_fault_0 : decode cX12_fault 0 = .ok (.iload_n 1, 1) := by decide +kernel
theorem dX12_fault_1 : decode cX12_fault 1 = .ok (.ifCond .ne 8, 3) := by decide +kernel
theorem dX12_fault_4 : decode cX12_fault 4 = .ok (.aload_n 0, 1) := by decide +kernel
theorem dX12_fault_5 : decode cX12_fault 5 = .ok (.getfield 586, 3) := by decide +kernel
theorem dX12_fault_8 : decode cX12_fault 8 = .ok (.ireturn, 1) := by decide +kernel
theorem dX12_fault_9 : decode cX12_fault 9 = .ok (.iload_n 1, 1) := by decide +kernel
theorem dX12_fault_10 : decode cX12_fault 10 = .ok (.iconst 1, 1) := by decide +kernel
theorem dX12_fault_11 : decode cX12_fault 11 = .ok (.if_icmp .ne 10, 3) := by decide +kernel
theorem dX12_fault_14 : decode cX12_fault 14 = .ok (.aload_n 0, 1) := by decide +kernel
theorem dX12_fault_15 : decode cX12_fault 15 = .ok (.getfield 136, 3) := by decide +kernel
theorem dX12_fault_18 : decode cX12_fault 18 = .ok (.goto 16, 3) := by decide +kernel
theorem dX12_fault_21 : decode cX12_fault 21 = .ok (.iload_n 1, 1) := by decide +kernel
theorem dX12_fault_22 : decode cX12_fault 22 = .ok (.iconst 2, 1) := by decide +kernel
theorem dX12_fault_23 : decode cX12_fault 23 = .ok (.if_icmp .ne 10, 3) := by decide +kernel
theorem dX12_fault_26 : decode cX12_fault 26 = .ok (.aload_n 0, 1) := by decide +kernel
theorem dX12_fault_27 : decode cX12_fault 27 = .ok (.getfield 140, 3) := by decide +kernel
theorem dX12_fault_30 : decode cX12_fault 30 = .ok (.goto 4, 3) := by decide +kernel
theorem dX12_fault_33 : decode cX12_fault 33 = .ok (.iconst (-1), 1) := by decide +kernel
theorem dX12_fault_34 : decode cX12_fault 34 = .ok (.ireturn, 1) := by decide +kernel

set_option maxRecDepth 100000 in
set_option maxHeartbeats 4000000 in
theorem c_X12_fault0 (S : Hp) (ad : Nat → Nat) (hW : Wd ad S) (v0 : Int32) (hI_1243_ad133 : hI S 1243 (ad 133) = v0) : Ct 1 yX12_fault cX12_fault 2 (some .int) 0 0 [.ref (ad 133), .int 0] S (fun r S' => r = some (.int v0) ∧ S' = S) := by
  refine ct_of (by decide) (Nat.le_of_ble_eq_true rfl) fun x hn9 C M hm9 => ?_
  have C : CB x RX12 cX12_fault := C
  refine J.eq (lv' := [(0, .ref (ad 133)), (1, .int 0)]) rfl rfl rfl ?_
  refine j_iload_n C dX12_fault_0 rfl 1 rfl ?_
  refine j_if_ne (tgt := 9) C dX12_fault_1 (by decide) (fun c9 => absurd c9 (by decide)) (fun c9 => ?_)
  refine j_aload_n C dX12_fault_4 rfl 0 rfl ?_
  refine j_geti (f := 1243) (v := v0) C flX12_586 dX12_fault_5 (wm_133 (S := S) hW) (wk_133 (S := S) hW) (by decide) (by decide) rfl hI_1243_ad133 ?_
  exact j_iret C M dX12_fault_8 (by decide) (by decide) ⟨rfl, rfl⟩

set_option maxRecDepth 100000 in
set_option maxHeartbeats 4000000 in
theorem c_X12_fault1 (S : Hp) (ad : Nat → Nat) (hW : Wd ad S) (v0 : Int32) (hI_1244_ad133 : hI S 1244 (ad 133) = v0) : Ct 1 yX12_fault cX12_fault 2 (some .int) 0 0 [.ref (ad 133), .int 1] S (fun r S' => r = some (.int v0) ∧ S' = S) := by
  refine ct_of (by decide) (Nat.le_of_ble_eq_true rfl) fun x hn9 C M hm9 => ?_
  have C : CB x RX12 cX12_fault := C
  refine J.eq (lv' := [(0, .ref (ad 133)), (1, .int 1)]) rfl rfl rfl ?_
  refine j_iload_n C dX12_fault_0 rfl 1 rfl ?_
  refine j_if_ne (tgt := 9) C dX12_fault_1 (by decide) (fun c9 => ?_) (fun c9 => absurd c9 (by decide))
  refine j_iload_n C dX12_fault_9 rfl 1 rfl ?_
  refine j_iconst (v := 1) C dX12_fault_10 (by decide) ?_
  refine j_ic_ne (tgt := 21) C dX12_fault_11 (by decide) (fun c9 => absurd c9 (by decide)) (fun c9 => ?_)
  refine j_aload_n C dX12_fault_14 rfl 0 rfl ?_
  refine j_geti (f := 1244) (v := v0) C flX12_136 dX12_fault_15 (wm_133 (S := S) hW) (wk_133 (S := S) hW) (by decide) (by decide) rfl hI_1244_ad133 ?_
  refine j_goto (tgt := 34) C dX12_fault_18 (by decide) ?_
  show J _ _ _ _ _ 34 _
  exact j_iret C M dX12_fault_34 (by decide) (by decide) ⟨rfl, rfl⟩

set_option maxRecDepth 100000 in
set_option maxHeartbeats 4000000 in
theorem c_X12_fault2 (S : Hp) (ad : Nat → Nat) (hW : Wd ad S) (v0 : Int32) (hI_1245_ad133 : hI S 1245 (ad 133) = v0) : Ct 1 yX12_fault cX12_fault 2 (some .int) 0 0 [.ref (ad 133), .int 2] S (fun r S' => r = some (.int v0) ∧ S' = S) := by
  refine ct_of (by decide) (Nat.le_of_ble_eq_true rfl) fun x hn9 C M hm9 => ?_
  have C : CB x RX12 cX12_fault := C
  refine J.eq (lv' := [(0, .ref (ad 133)), (1, .int 2)]) rfl rfl rfl ?_
  refine j_iload_n C dX12_fault_0 rfl 1 rfl ?_
  refine j_if_ne (tgt := 9) C dX12_fault_1 (by decide) (fun c9 => ?_) (fun c9 => absurd c9 (by decide))
  refine j_iload_n C dX12_fault_9 rfl 1 rfl ?_
  refine j_iconst (v := 1) C dX12_fault_10 (by decide) ?_
  refine j_ic_ne (tgt := 21) C dX12_fault_11 (by decide) (fun c9 => ?_) (fun c9 => absurd c9 (by decide))
  refine j_iload_n C dX12_fault_21 rfl 1 rfl ?_
  refine j_iconst (v := 2) C dX12_fault_22 (by decide) ?_
  refine j_ic_ne (tgt := 33) C dX12_fault_23 (by decide) (fun c9 => absurd c9 (by decide)) (fun c9 => ?_)
  show J _ _ _ _ _ 26 _
  refine j_aload_n C dX12_fault_26 rfl 0 rfl ?_
  refine j_geti (f := 1245) (v := v0) C flX12_140 dX12_fault_27 (wm_133 (S := S) hW) (wk_133 (S := S) hW) (by decide) (by decide) rfl hI_1245_ad133 ?_
  refine j_goto (tgt := 34) C dX12_fault_30 (by decide) ?_
  exact j_iret C M dX12_fault_34 (by decide) (by decide) ⟨rfl, rfl⟩

theorem dX11_outs_0 : decode cX11_outs 0 = .ok (.aload_n 0, 1) := by decide +kernel
theorem dX11_outs_1 : decode cX11_outs 1 = .ok (.getfield 33, 3) := by decide +kernel
theorem dX11_outs_4 : decode cX11_outs 4 = .ok (.getfield 99, 3) := by decide +kernel
theorem dX11_outs_7 : decode cX11_outs 7 = .ok (.ireturn, 1) := by decide +kernel

set_option maxRecDepth 100000 in
set_option maxHeartbeats 4000000 in
theorem c_X11_outs (S : Hp) (ad : Nat → Nat) (hW : Wd ad S) (v0 : Int32) (hI_601_ad5 : hI S 601 (ad 5) = v0) : Ct 2 yX11_outs cX11_outs 1 (some .int) 0 0 [.ref (ad 0)] S (fun r S' => r = some (.int v0) ∧ S' = S) := by
  refine ct_of (by decide) (Nat.le_of_ble_eq_true rfl) fun x hn9 C M hm9 => ?_
  have C : CB x RX11 cX11_outs := C
  refine J.eq (lv' := [(0, .ref (ad 0))]) rfl rfl rfl ?_
  refine j_aload_n C dX11_outs_0 rfl 0 rfl ?_
  refine j_getr (f := 1106) (v := (ad 5)) C flX11_33 dX11_outs_1 (wm_0 (S := S) hW) (wk_0 (S := S) hW) (by decide) rfl (wr_1106_0 (S := S) hW) ?_
  refine j_geti (f := 601) (v := v0) C flX11_99 dX11_outs_4 (wm_5 (S := S) hW) (wk_5 (S := S) hW) (by decide) (by decide) rfl hI_601_ad5 ?_
  exact j_iret C M dX11_outs_7 (by decide) (by decide) ⟨rfl, rfl⟩

theorem dX12_outs_0 : decode cX12_outs 0 = .ok (.aload_n 0, 1) := by decide +kernel
theorem dX12_outs_1 : decode cX12_outs 1 = .ok (.getfield 543, 3) := by decide +kernel
theorem dX12_outs_4 : decode cX12_outs 4 = .ok (.ireturn, 1) := by decide +kernel

set_option maxRecDepth 100000 in
set_option maxHeartbeats 4000000 in
theorem c_X12_outs (S : Hp) (ad : Nat → Nat) (hW : Wd ad S) (v0 : Int32) (hI_1242_ad133 : hI S 1242 (ad 133) = v0) : Ct 1 yX12_outs cX12_outs 1 (some .int) 0 0 [.ref (ad 133)] S (fun r S' => r = some (.int v0) ∧ S' = S) := by
  refine ct_of (by decide) (Nat.le_of_ble_eq_true rfl) fun x hn9 C M hm9 => ?_
  have C : CB x RX12 cX12_outs := C
  refine J.eq (lv' := [(0, .ref (ad 133))]) rfl rfl rfl ?_
  refine j_aload_n C dX12_outs_0 rfl 0 rfl ?_
  refine j_geti (f := 1242) (v := v0) C flX12_543 dX12_outs_1 (wm_133 (S := S) hW) (wk_133 (S := S) hW) (by decide) (by decide) rfl hI_1242_ad133 ?_
  exact j_iret C M dX12_outs_4 (by decide) (by decide) ⟨rfl, rfl⟩

theorem dX11_pages_0 : decode cX11_pages 0 = .ok (.aload_n 0, 1) := by decide +kernel
theorem dX11_pages_1 : decode cX11_pages 1 = .ok (.getfield 33, 3) := by decide +kernel
theorem dX11_pages_4 : decode cX11_pages 4 = .ok (.getfield 93, 3) := by decide +kernel
theorem dX11_pages_7 : decode cX11_pages 7 = .ok (.ireturn, 1) := by decide +kernel

set_option maxRecDepth 100000 in
set_option maxHeartbeats 4000000 in
theorem c_X11_pages (S : Hp) (ad : Nat → Nat) (hW : Wd ad S) (v0 : Int32) (hI_602_ad5 : hI S 602 (ad 5) = v0) : Ct 2 yX11_pages cX11_pages 1 (some .int) 0 0 [.ref (ad 0)] S (fun r S' => r = some (.int v0) ∧ S' = S) := by
  refine ct_of (by decide) (Nat.le_of_ble_eq_true rfl) fun x hn9 C M hm9 => ?_
  have C : CB x RX11 cX11_pages := C
  refine J.eq (lv' := [(0, .ref (ad 0))]) rfl rfl rfl ?_
  refine j_aload_n C dX11_pages_0 rfl 0 rfl ?_
  refine j_getr (f := 1106) (v := (ad 5)) C flX11_33 dX11_pages_1 (wm_0 (S := S) hW) (wk_0 (S := S) hW) (by decide) rfl (wr_1106_0 (S := S) hW) ?_
  refine j_geti (f := 602) (v := v0) C flX11_93 dX11_pages_4 (wm_5 (S := S) hW) (wk_5 (S := S) hW) (by decide) (by decide) rfl hI_602_ad5 ?_
  exact j_iret C M dX11_pages_7 (by decide) (by decide) ⟨rfl, rfl⟩

theorem dX12_pages_0 : decode cX12_pages 0 = .ok (.aload_n 0, 1) := by decide +kernel
theorem dX12_pages_1 : decode cX12_pages 1 = .ok (.getfield 198, 3) := by decide +kernel
theorem dX12_pages_4 : decode cX12_pages 4 = .ok (.ireturn, 1) := by decide +kernel

set_option maxRecDepth 100000 in
set_option maxHeartbeats 4000000 in
theorem c_X12_pages (S : Hp) (ad : Nat → Nat) (hW : Wd ad S) (v0 : Int32) (hI_1240_ad133 : hI S 1240 (ad 133) = v0) : Ct 1 yX12_pages cX12_pages 1 (some .int) 0 0 [.ref (ad 133)] S (fun r S' => r = some (.int v0) ∧ S' = S) := by
  refine ct_of (by decide) (Nat.le_of_ble_eq_true rfl) fun x hn9 C M hm9 => ?_
  have C : CB x RX12 cX12_pages := C
  refine J.eq (lv' := [(0, .ref (ad 133))]) rfl rfl rfl ?_
  refine j_aload_n C dX12_pages_0 rfl 0 rfl ?_
  refine j_geti (f := 1240) (v := v0) C flX12_198 dX12_pages_1 (wm_133 (S := S) hW) (wk_133 (S := S) hW) (by decide) (by decide) rfl hI_1240_ad133 ?_
  exact j_iret C M dX12_pages_4 (by decide) (by decide) ⟨rfl, rfl⟩

theorem dX6_byteAt_0 : decode cX6_byteAt 0 = .ok (.iload_n 1, 1) := by decide +kernel
theorem dX6_byteAt_1 : decode cX6_byteAt 1 = .ok (.ifCond .lt 33, 3) := by decide +kernel
theorem dX6_byteAt_4 : decode cX6_byteAt 4 = .ok (.iload_n 1, 1) := by decide +kernel
theorem dX6_byteAt_5 : decode cX6_byteAt 5 = .ok (.aload_n 0, 1) := by decide +kernel
theorem dX6_byteAt_6 : decode cX6_byteAt 6 = .ok (.getfield 28, 3) := by decide +kernel
theorem dX6_byteAt_9 : decode cX6_byteAt 9 = .ok (.if_icmp .ge 25, 3) := by decide +kernel
theorem dX6_byteAt_12 : decode cX6_byteAt 12 = .ok (.iload_n 1, 1) := by decide +kernel
theorem dX6_byteAt_13 : decode cX6_byteAt 13 = .ok (.aload_n 0, 1) := by decide +kernel
theorem dX6_byteAt_14 : decode cX6_byteAt 14 = .ok (.getfield 12, 3) := by decide +kernel
theorem dX6_byteAt_17 : decode cX6_byteAt 17 = .ok (.arraylength, 1) := by decide +kernel
theorem dX6_byteAt_18 : decode cX6_byteAt 18 = .ok (.if_icmp .ge 16, 3) := by decide +kernel
theorem dX6_byteAt_21 : decode cX6_byteAt 21 = .ok (.aload_n 0, 1) := by decide +kernel
theorem dX6_byteAt_22 : decode cX6_byteAt 22 = .ok (.getfield 12, 3) := by decide +kernel
theorem dX6_byteAt_25 : decode cX6_byteAt 25 = .ok (.iload_n 1, 1) := by decide +kernel
theorem dX6_byteAt_26 : decode cX6_byteAt 26 = .ok (.baload, 1) := by decide +kernel
theorem dX6_byteAt_27 : decode cX6_byteAt 27 = .ok (.sipush 255, 3) := by decide +kernel
theorem dX6_byteAt_30 : decode cX6_byteAt 30 = .ok (.iand, 1) := by decide +kernel
theorem dX6_byteAt_31 : decode cX6_byteAt 31 = .ok (.goto 4, 3) := by decide +kernel
theorem dX6_byteAt_34 : decode cX6_byteAt 34 = .ok (.iconst (-1), 1) := by decide +kernel
theorem dX6_byteAt_35 : decode cX6_byteAt 35 = .ok (.ireturn, 1) := by decide +kernel

set_option maxRecDepth 100000 in
set_option maxHeartbeats 4000000 in
theorem c_X6_byteAt_neg (S : Hp) (ad : Nat → Nat) (hW : Wd ad S) (v0 : Int32) (t9 : Nat) (hI_601_ad5 : hI S 601 (ad 5) = nI t9) (h8 : t9 ≤ 60000) (hv : v0 < 0) : Ct 1 yX6_byteAt cX6_byteAt 2 (some .int) 0 0 [.ref (ad 5), .int v0] S (fun r S' => r = some (.int (-1)) ∧ S' = S) := by
  refine ct_of (by decide) (Nat.le_of_ble_eq_true rfl) fun x hn9 C M hm9 => ?_
  have C : CB x RX6 cX6_byteAt := C
  refine J.eq (lv' := [(0, .ref (ad 5)), (1, .int v0)]) rfl rfl rfl ?_
  refine j_iload_n C dX6_byteAt_0 rfl 1 rfl ?_
  refine j_if_lt (tgt := 34) C dX6_byteAt_1 (by decide) (fun c_1 => ?_) (fun c_1 => absurd hv c_1)
  refine j_iconst (v := (-1)) C dX6_byteAt_34 (by decide) ?_
  exact j_iret C M dX6_byteAt_35 (by decide) (by decide) ⟨rfl, rfl⟩

theorem dX12_out_0 : decode cX12_out 0 = .ok (.iload_n 1, 1) := by decide +kernel
theorem dX12_out_1 : decode cX12_out 1 = .ok (.ifCond .lt 11, 3) := by decide +kernel
theorem dX12_out_4 : decode cX12_out 4 = .ok (.iload_n 1, 1) := by decide +kernel
theorem dX12_out_5 : decode cX12_out 5 = .ok (.aload_n 0, 1) := by decide +kernel
theorem dX12_out_6 : decode cX12_out 6 = .ok (.getfield 543, 3) := by decide +kernel
theorem dX12_out_9 : decode cX12_out 9 = .ok (.if_icmp .lt 7, 3) := by decide +kernel
theorem dX12_out_12 : decode cX12_out 12 = .ok (.iconst (-1), 1) := by decide +kernel
theorem dX12_out_13 : decode cX12_out 13 = .ok (.goto 13, 3) := by decide +kernel
theorem dX12_out_16 : decode cX12_out 16 = .ok (.aload_n 0, 1) := by decide +kernel
theorem dX12_out_17 : decode cX12_out 17 = .ok (.getfield 96, 3) := by decide +kernel
theorem dX12_out_20 : decode cX12_out 20 = .ok (.iload_n 1, 1) := by decide +kernel
theorem dX12_out_21 : decode cX12_out 21 = .ok (.baload, 1) := by decide +kernel
theorem dX12_out_22 : decode cX12_out 22 = .ok (.sipush 255, 3) := by decide +kernel
theorem dX12_out_25 : decode cX12_out 25 = .ok (.iand, 1) := by decide +kernel
theorem dX12_out_26 : decode cX12_out 26 = .ok (.ireturn, 1) := by decide +kernel

set_option maxRecDepth 100000 in
set_option maxHeartbeats 4000000 in
theorem c_X12_out_neg (S : Hp) (ad : Nat → Nat) (hW : Wd ad S) (v0 : Int32) (t9 : Nat) (hI_1242_ad133 : hI S 1242 (ad 133) = nI t9) (h8 : t9 ≤ 60000) (hv : v0 < 0) : Ct 1 yX12_out cX12_out 2 (some .int) 0 0 [.ref (ad 133), .int v0] S (fun r S' => r = some (.int (-1)) ∧ S' = S) := by
  refine ct_of (by decide) (Nat.le_of_ble_eq_true rfl) fun x hn9 C M hm9 => ?_
  have C : CB x RX12 cX12_out := C
  refine J.eq (lv' := [(0, .ref (ad 133)), (1, .int v0)]) rfl rfl rfl ?_
  refine j_iload_n C dX12_out_0 rfl 1 rfl ?_
  refine j_if_lt (tgt := 12) C dX12_out_1 (by decide) (fun c_1 => ?_) (fun c_1 => absurd hv c_1)
  refine j_iconst (v := (-1)) C dX12_out_12 (by decide) ?_
  refine j_goto (tgt := 26) C dX12_out_13 (by decide) ?_
  exact j_iret C M dX12_out_26 (by decide) (by decide) ⟨rfl, rfl⟩
