set_option maxRecDepth 100000 in
set_option maxHeartbeats 4000000 in
theorem c_X6_byteAt_no (S : Hp) (ad : Nat → Nat) (hW : Wd ad S) (n9 : Nat) (t9 : Nat) (hI_601_ad5 : hI S 601 (ad 5) = nI t9) (h8 : t9 ≤ 60000) (hn : t9 ≤ n9) (hn2 : n9 < 2 ^ 31) : Ct 1 yX6_byteAt cX6_byteAt 2 (some .int) 0 0 [.ref (ad 5), .int (nI n9)] S (fun r S' => r = some (.int (-1)) ∧ S' = S) := by
  refine ct_of (by decide) (Nat.le_of_ble_eq_true rfl) fun x hn9 C M hm9 => ?_
  have C : CB x RX6 cX6_byteAt := C
  refine J.eq (lv' := [(0, .ref (ad 5)), (1, .int (nI n9))]) rfl rfl rfl ?_
  refine j_iload_n C dX6_byteAt_0 rfl 1 rfl ?_
  refine j_if_lt (tgt := 34) C dX6_byteAt_1 (by decide) (fun c_1 => absurd c_1 (nI_pos (by omega))) (fun c_1 => ?_)
  refine j_iload_n C dX6_byteAt_4 rfl 1 rfl ?_
  refine j_aload_n C dX6_byteAt_5 rfl 0 rfl ?_
  refine j_geti (f := 601) (v := nI t9) C flX6_28 dX6_byteAt_6 (wm_5 (S := S) hW) (wk_5 (S := S) hW) (by decide) (by decide) rfl hI_601_ad5 ?_
  refine j_ic_ge (tgt := 34) C dX6_byteAt_9 (by decide) (fun c_9 => ?_) (fun c_9 => absurd (nI_le (by omega) (by omega)) c_9)
  refine j_iconst (v := (-1)) C dX6_byteAt_34 (by decide) ?_
  exact j_iret C M dX6_byteAt_35 (by decide) (by decide) ⟨rfl, rfl⟩

set_option maxRecDepth 100000 in
set_option maxHeartbeats 4000000 in
theorem c_X12_out_no (S : Hp) (ad : Nat → Nat) (hW : Wd ad S) (n9 : Nat) (t9 : Nat) (hI_1242_ad133 : hI S 1242 (ad 133) = nI t9) (h8 : t9 ≤ 60000) (hn : t9 ≤ n9) (hn2 : n9 < 2 ^ 31) : Ct 1 yX12_out cX12_out 2 (some .int) 0 0 [.ref (ad 133), .int (nI n9)] S (fun r S' => r = some (.int (-1)) ∧ S' = S) := by
  refine ct_of (by decide) (Nat.le_of_ble_eq_true rfl) fun x hn9 C M hm9 => ?_
  have C : CB x RX12 cX12_out := C
  refine J.eq (lv' := [(0, .ref (ad 133)), (1, .int (nI n9))]) rfl rfl rfl ?_
  refine j_iload_n C dX12_out_0 rfl 1 rfl ?_
  refine j_if_lt (tgt := 12) C dX12_out_1 (by decide) (fun c_1 => absurd c_1 (nI_pos (by omega))) (fun c_1 => ?_)
  refine j_iload_n C dX12_out_4 rfl 1 rfl ?_
  refine j_aload_n C dX12_out_5 rfl 0 rfl ?_
  refine j_geti (f := 1242) (v := nI t9) C flX12_543 dX12_out_6 (wm_133 (S := S) hW) (wk_133 (S := S) hW) (by decide) (by decide) rfl hI_1242_ad133 ?_
  refine j_ic_lt (tgt := 16) C dX12_out_9 (by decide) (fun c_9 => absurd c_9 (nI_nlt (by omega) (by omega))) (fun c_9 => ?_)
  refine j_iconst (v := (-1)) C dX12_out_12 (by decide) ?_
  refine j_goto (tgt := 26) C dX12_out_13 (by decide) ?_
  show J _ _ _ _ _ 26 _
  exact j_iret C M dX12_out_26 (by decide) (by decide) ⟨rfl, rfl⟩
