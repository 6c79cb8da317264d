set_option maxRecDepth 100000 in
set_option maxHeartbeats 4000000 in
theorem c_X6_byteAt (S : Hp) (ad : Nat → Nat) (hW : Wd ad S) (n9 : Nat) (t9 : Nat) (hI_601_ad5 : hI S 601 (ad 5) = nI t9) (h8 : t9 ≤ 60000) (hn : n9 < t9) : Ct 1 yX6_byteAt cX6_byteAt 2 (some .int) 0 0 [.ref (ad 5), .int (nI n9)] S (fun r S' => r = some (.int ((aI S (ad 6) n9) &&& 255)) ∧ S' = S) := by
  refine ct_of (by decide) (Nat.le_of_ble_eq_true rfl) fun x hn9 C M hm9 => ?_
  have C : CB x RX6 cX6_byteAt := C
  refine J.eq (lv' := [(0, .ref (ad 5)), (1, .int (nI n9))]) rfl rfl rfl ?_
  refine j_iload_n C dX6_byteAt_0 rfl 1 rfl ?_
  refine j_if_lt (tgt := 34) C dX6_byteAt_1 (by decide) (fun c_1 => absurd c_1 (nI_pos (by omega))) (fun c_1 => ?_)
  refine j_iload_n C dX6_byteAt_4 rfl 1 rfl ?_
  refine j_aload_n C dX6_byteAt_5 rfl 0 rfl ?_
  refine j_geti (f := 601) (v := nI t9) C flX6_28 dX6_byteAt_6 (wm_5 (S := S) hW) (wk_5 (S := S) hW) (by decide) (by decide) rfl hI_601_ad5 ?_
  refine j_ic_ge (tgt := 34) C dX6_byteAt_9 (by decide) (fun c_9 => absurd c_9 (nI_ge (by omega) (by omega))) (fun c_9 => ?_)
  refine j_iload_n C dX6_byteAt_12 rfl 1 rfl ?_
  refine j_aload_n C dX6_byteAt_13 rfl 0 rfl ?_
  show J _ _ _ _ _ 14 _
  refine j_getr (f := 600) (v := (ad 6)) C flX6_12 dX6_byteAt_14 (wm_5 (S := S) hW) (wk_5 (S := S) hW) (by decide) rfl (wr_600_5 (S := S) hW) ?_
  refine j_alen (v := 60000) C dX6_byteAt_17 (wm_6 (S := S) hW) (wk_6 (S := S) hW) (by decide) (by decide) (len_of (n := 60000) (wl_6 (S := S) hW) (by decide)) ?_
  refine j_ic_ge (tgt := 34) C dX6_byteAt_18 (by decide) (fun c_18 => absurd c_18 (nI_ge (b := 60000) (by omega) (by decide))) (fun c_18 => ?_)
  refine j_aload_n C dX6_byteAt_21 rfl 0 rfl ?_
  refine j_getr (f := 600) (v := (ad 6)) C flX6_12 dX6_byteAt_22 (wm_5 (S := S) hW) (wk_5 (S := S) hW) (by decide) rfl (wr_600_5 (S := S) hW) ?_
  refine j_iload_n C dX6_byteAt_25 rfl 1 rfl ?_
  refine j_bald (j := n9) (v := aI S (ad 6) n9) C dX6_byteAt_26 (wm_6 (S := S) hW) (wk_6 (S := S) hW) (inr_of (n := 60000) (wl_6 (S := S) hW) (vp_in_nI (by omega) (by omega))) (nI_clamp (by omega)) rfl ?_
  refine j_sipush (v := 255) C dX6_byteAt_27 (by decide) ?_
  show J _ _ _ _ _ 30 _
  refine j_iand C dX6_byteAt_30 rfl ?_
  refine j_goto (tgt := 35) C dX6_byteAt_31 (by decide) ?_
  exact j_iret C M dX6_byteAt_35 (by decide) (by decide) ⟨rfl, rfl⟩

set_option maxRecDepth 100000 in
set_option maxHeartbeats 4000000 in
theorem c_X12_out (S : Hp) (ad : Nat → Nat) (hW : Wd ad S) (n9 : Nat) (t9 : Nat) (hI_1242_ad133 : hI S 1242 (ad 133) = nI t9) (h8 : t9 ≤ 60000) (hn : n9 < t9) : Ct 1 yX12_out cX12_out 2 (some .int) 0 0 [.ref (ad 133), .int (nI n9)] S (fun r S' => r = some (.int ((aI S (ad 161) n9) &&& 255)) ∧ S' = S) := by
  refine ct_of (by decide) (Nat.le_of_ble_eq_true rfl) fun x hn9 C M hm9 => ?_
  have C : CB x RX12 cX12_out := C
  refine J.eq (lv' := [(0, .ref (ad 133)), (1, .int (nI n9))]) rfl rfl rfl ?_
  refine j_iload_n C dX12_out_0 rfl 1 rfl ?_
  refine j_if_lt (tgt := 12) C dX12_out_1 (by decide) (fun c_1 => absurd c_1 (nI_pos (by omega))) (fun c_1 => ?_)
  refine j_iload_n C dX12_out_4 rfl 1 rfl ?_
  refine j_aload_n C dX12_out_5 rfl 0 rfl ?_
  refine j_geti (f := 1242) (v := nI t9) C flX12_543 dX12_out_6 (wm_133 (S := S) hW) (wk_133 (S := S) hW) (by decide) (by decide) rfl hI_1242_ad133 ?_
  refine j_ic_lt (tgt := 16) C dX12_out_9 (by decide) (fun c_9 => ?_) (fun c_9 => absurd (nI_lt (by omega) (by omega)) c_9)
  refine j_aload_n C dX12_out_16 rfl 0 rfl ?_
  refine j_getr (f := 1241) (v := (ad 161)) C flX12_96 dX12_out_17 (wm_133 (S := S) hW) (wk_133 (S := S) hW) (by decide) rfl (wr_1241_133 (S := S) hW) ?_
  show J _ _ _ _ _ 20 _
  refine j_iload_n C dX12_out_20 rfl 1 rfl ?_
  refine j_bald (j := n9) (v := aI S (ad 161) n9) C dX12_out_21 (wm_161 (S := S) hW) (wk_161 (S := S) hW) (inr_of (n := 60008) (wl_161 (S := S) hW) (vp_in_nI (by omega) (by omega))) (nI_clamp (by omega)) rfl ?_
  refine j_sipush (v := 255) C dX12_out_22 (by decide) ?_
  refine j_iand C dX12_out_25 rfl ?_
  exact j_iret C M dX12_out_26 (by decide) (by decide) ⟨rfl, rfl⟩
