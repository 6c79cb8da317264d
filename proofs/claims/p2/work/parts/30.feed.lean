theorem dX11_feed_0 : decode cX11_feed 0 = .ok (.aload_n 0, 1) := by decide +kernel
theorem dX11_feed_1 : decode cX11_feed 1 = .ok (.getfield 53, 3) := by decide +kernel
theorem dX11_feed_4 : decode cX11_feed 4 = .ok (.bipush 20, 2) := by decide +kernel
theorem dX11_feed_6 : decode cX11_feed 6 = .ok (.iadd, 1) := by decide +kernel
theorem dX11_feed_7 : decode cX11_feed 7 = .ok (.sipush 8000, 3) := by decide +kernel
theorem dX11_feed_10 : decode cX11_feed 10 = .ok (.if_icmp .le 5, 3) := by decide +kernel
theorem dX11_feed_13 : decode cX11_feed 13 = .ok (.iconst (-1), 1) := by decide +kernel
theorem dX11_feed_14 : decode cX11_feed 14 = .ok (.ireturn, 1) := by decide +kernel
theorem dX11_feed_15 : decode cX11_feed 15 = .ok (.aload_n 0, 1) := by decide +kernel
theorem dX11_feed_16 : decode cX11_feed 16 = .ok (.iload_n 1, 1) := by decide +kernel
theorem dX11_feed_17 : decode cX11_feed 17 = .ok (.invokevirtual 56, 3) := by decide +kernel
theorem dX11_feed_20 : decode cX11_feed 20 = .ok (.aload_n 0, 1) := by decide +kernel
theorem dX11_feed_21 : decode cX11_feed 21 = .ok (.iload_n 2, 1) := by decide +kernel
theorem dX11_feed_22 : decode cX11_feed 22 = .ok (.invokevirtual 56, 3) := by decide +kernel
theorem dX11_feed_25 : decode cX11_feed 25 = .ok (.aload_n 0, 1) := by decide +kernel
theorem dX11_feed_26 : decode cX11_feed 26 = .ok (.iload_n 3, 1) := by decide +kernel
theorem dX11_feed_27 : decode cX11_feed 27 = .ok (.invokevirtual 56, 3) := by decide +kernel
theorem dX11_feed_30 : decode cX11_feed 30 = .ok (.aload_n 0, 1) := by decide +kernel
theorem dX11_feed_31 : decode cX11_feed 31 = .ok (.iload 4, 2) := by decide +kernel
theorem dX11_feed_33 : decode cX11_feed 33 = .ok (.invokevirtual 56, 3) := by decide +kernel
theorem dX11_feed_36 : decode cX11_feed 36 = .ok (.aload_n 0, 1) := by decide +kernel
theorem dX11_feed_37 : decode cX11_feed 37 = .ok (.iload 5, 2) := by decide +kernel
theorem dX11_feed_39 : decode cX11_feed 39 = .ok (.invokevirtual 56, 3) := by decide +kernel
theorem dX11_feed_42 : decode cX11_feed 42 = .ok (.aload_n 0, 1) := by decide +kernel
theorem dX11_feed_43 : decode cX11_feed 43 = .ok (.getfield 53, 3) := by decide +kernel
theorem dX11_feed_46 : decode cX11_feed 46 = .ok (.ireturn, 1) := by decide +kernel

set_option maxRecDepth 100000 in
set_option maxHeartbeats 4000000 in
theorem c_X11_feed_no (S : Hp) (ad : Nat → Nat) (hW : Wd ad S) (v0 : Int32) (v1 : Int32) (v2 : Int32) (v3 : Int32) (v4 : Int32) (t9 : Nat) (hI_1101_ad0 : hI S 1101 (ad 0) = nI t9) (h8 : t9 ≤ 8000) (ht : 8000 < t9 + 20) : Ct 2 yX11_feed cX11_feed 6 (some .int) 0 0 [.ref (ad 0), .int v0, .int v1, .int v2, .int v3, .int v4] S (fun r S' => r = some (.int (-1)) ∧ S' = S) := by
  refine ct_of (by decide) (Nat.le_of_ble_eq_true rfl) fun x hn9 C M hm9 => ?_
  have C : CB x RX11 cX11_feed := C
  refine J.eq (lv' := [(0, .ref (ad 0)), (1, .int v0), (2, .int v1), (3, .int v2), (4, .int v3), (5, .int v4)]) rfl rfl rfl ?_
  refine j_aload_n C dX11_feed_0 rfl 0 rfl ?_
  refine j_geti (f := 1101) (v := nI t9) C flX11_53 dX11_feed_1 (wm_0 (S := S) hW) (wk_0 (S := S) hW) (by decide) (by decide) rfl hI_1101_ad0 ?_
  refine j_bipush (v := 20) C dX11_feed_4 (by decide) ?_
  refine j_iadd (v := nI (t9 + 20)) C dX11_feed_6 (nI_add t9 20) ?_
  refine j_sipush (v := 8000) C dX11_feed_7 (by decide) ?_
  refine j_ic_le (tgt := 15) C dX11_feed_10 (by decide) (fun c_10 => absurd c_10 (nI_ge (a := 8000) (by omega) (by omega))) (fun c_10 => ?_)
  refine j_iconst (v := (-1)) C dX11_feed_13 (by decide) ?_
  exact j_iret C M dX11_feed_14 (by decide) (by decide) ⟨rfl, rfl⟩

theorem dX12_feed_0 : decode cX12_feed 0 = .ok (.aload_n 0, 1) := by decide +kernel
theorem dX12_feed_1 : decode cX12_feed 1 = .ok (.getfield 146, 3) := by decide +kernel
theorem dX12_feed_4 : decode cX12_feed 4 = .ok (.bipush 20, 2) := by decide +kernel
theorem dX12_feed_6 : decode cX12_feed 6 = .ok (.iadd, 1) := by decide +kernel
theorem dX12_feed_7 : decode cX12_feed 7 = .ok (.sipush 8000, 3) := by decide +kernel
theorem dX12_feed_10 : decode cX12_feed 10 = .ok (.if_icmp .le 5, 3) := by decide +kernel
theorem dX12_feed_13 : decode cX12_feed 13 = .ok (.iconst (-1), 1) := by decide +kernel
theorem dX12_feed_14 : decode cX12_feed 14 = .ok (.ireturn, 1) := by decide +kernel
theorem dX12_feed_15 : decode cX12_feed 15 = .ok (.aload_n 0, 1) := by decide +kernel
theorem dX12_feed_16 : decode cX12_feed 16 = .ok (.iload_n 1, 1) := by decide +kernel
theorem dX12_feed_17 : decode cX12_feed 17 = .ok (.invokevirtual 149, 3) := by decide +kernel
theorem dX12_feed_20 : decode cX12_feed 20 = .ok (.aload_n 0, 1) := by decide +kernel
theorem dX12_feed_21 : decode cX12_feed 21 = .ok (.iload_n 2, 1) := by decide +kernel
theorem dX12_feed_22 : decode cX12_feed 22 = .ok (.invokevirtual 149, 3) := by decide +kernel
theorem dX12_feed_25 : decode cX12_feed 25 = .ok (.aload_n 0, 1) := by decide +kernel
theorem dX12_feed_26 : decode cX12_feed 26 = .ok (.iload_n 3, 1) := by decide +kernel
theorem dX12_feed_27 : decode cX12_feed 27 = .ok (.invokevirtual 149, 3) := by decide +kernel
theorem dX12_feed_30 : decode cX12_feed 30 = .ok (.aload_n 0, 1) := by decide +kernel
theorem dX12_feed_31 : decode cX12_feed 31 = .ok (.iload 4, 2) := by decide +kernel
theorem dX12_feed_33 : decode cX12_feed 33 = .ok (.invokevirtual 149, 3) := by decide +kernel
theorem dX12_feed_36 : decode cX12_feed 36 = .ok (.aload_n 0, 1) := by decide +kernel
theorem dX12_feed_37 : decode cX12_feed 37 = .ok (.iload 5, 2) := by decide +kernel
theorem dX12_feed_39 : decode cX12_feed 39 = .ok (.invokevirtual 149, 3) := by decide +kernel
theorem dX12_feed_42 : decode cX12_feed 42 = .ok (.aload_n 0, 1) := by decide +kernel
theorem dX12_feed_43 : decode cX12_feed 43 = .ok (.getfield 146, 3) := by decide +kernel
theorem dX12_feed_46 : decode cX12_feed 46 = .ok (.ireturn, 1) := by decide +kernel

set_option maxRecDepth 100000 in
set_option maxHeartbeats 4000000 in
theorem c_X12_feed_no (S : Hp) (ad : Nat → Nat) (hW : Wd ad S) (v0 : Int32) (v1 : Int32) (v2 : Int32) (v3 : Int32) (v4 : Int32) (t9 : Nat) (hI_1224_ad133 : hI S 1224 (ad 133) = nI t9) (h8 : t9 ≤ 8000) (ht : 8000 < t9 + 20) : Ct 2 yX12_feed cX12_feed 6 (some .int) 0 0 [.ref (ad 133), .int v0, .int v1, .int v2, .int v3, .int v4] S (fun r S' => r = some (.int (-1)) ∧ S' = S) := by
  refine ct_of (by decide) (Nat.le_of_ble_eq_true rfl) fun x hn9 C M hm9 => ?_
  have C : CB x RX12 cX12_feed := C
  refine J.eq (lv' := [(0, .ref (ad 133)), (1, .int v0), (2, .int v1), (3, .int v2), (4, .int v3), (5, .int v4)]) rfl rfl rfl ?_
  refine j_aload_n C dX12_feed_0 rfl 0 rfl ?_
  refine j_geti (f := 1224) (v := nI t9) C flX12_146 dX12_feed_1 (wm_133 (S := S) hW) (wk_133 (S := S) hW) (by decide) (by decide) rfl hI_1224_ad133 ?_
  refine j_bipush (v := 20) C dX12_feed_4 (by decide) ?_
  refine j_iadd (v := nI (t9 + 20)) C dX12_feed_6 (nI_add t9 20) ?_
  refine j_sipush (v := 8000) C dX12_feed_7 (by decide) ?_
  refine j_ic_le (tgt := 15) C dX12_feed_10 (by decide) (fun c_10 => absurd c_10 (nI_ge (a := 8000) (by omega) (by omega))) (fun c_10 => ?_)
  refine j_iconst (v := (-1)) C dX12_feed_13 (by decide) ?_
  exact j_iret C M dX12_feed_14 (by decide) (by decide) ⟨rfl, rfl⟩
