set_option maxRecDepth 100000 in
set_option maxHeartbeats 4000000 in
theorem c_X6_hasPage_no (S : Hp) (ad : Nat → Nat) (hW : Wd ad S) (n9 : Nat) (t9 : Nat) (hI_602_ad5 : hI S 602 (ad 5) = nI t9) (h8 : t9 ≤ 12) (hn : t9 ≤ n9) (hn2 : n9 < 2 ^ 31) : Ct 1 yX6_hasPage cX6_hasPage 2 (some .boolean) 0 0 [.ref (ad 5), .int (nI n9)] S (fun r S' => r = some (.int 0) ∧ S' = S) := by
  refine ct_of (by decide) (Nat.le_of_ble_eq_true rfl) fun x hn9 C M hm9 => ?_
  have C : CB x RX6 cX6_hasPage := C
  refine J.eq (lv' := [(0, .ref (ad 5)), (1, .int (nI n9))]) rfl rfl rfl ?_
  refine j_iload_n C dX6_hasPage_0 rfl 1 rfl ?_
  refine j_if_lt (tgt := 22) C dX6_hasPage_1 (by decide) (fun c_1 => absurd c_1 (nI_pos (by omega))) (fun c_1 => ?_)
  refine j_iload_n C dX6_hasPage_4 rfl 1 rfl ?_
  refine j_aload_n C dX6_hasPage_5 rfl 0 rfl ?_
  refine j_geti (f := 602) (v := nI t9) C flX6_32 dX6_hasPage_6 (wm_5 (S := S) hW) (wk_5 (S := S) hW) (by decide) (by decide) rfl hI_602_ad5 ?_
  refine j_ic_ge (tgt := 22) C dX6_hasPage_9 (by decide) (fun c_9 => ?_) (fun c_9 => absurd (nI_le (by omega) (by omega)) c_9)
  refine j_iconst (v := 0) C dX6_hasPage_22 (by decide) ?_
  exact j_zret C M rfl dX6_hasPage_23 (by decide) (by decide) ⟨rfl, rfl⟩

set_option maxRecDepth 100000 in
set_option maxHeartbeats 4000000 in
theorem c_X6_hasPage_neg (S : Hp) (ad : Nat → Nat) (hW : Wd ad S) (v0 : Int32) (t9 : Nat) (hI_602_ad5 : hI S 602 (ad 5) = nI t9) (h8 : t9 ≤ 12) (hv : v0 < 0) : Ct 1 yX6_hasPage cX6_hasPage 2 (some .boolean) 0 0 [.ref (ad 5), .int v0] S (fun r S' => r = some (.int 0) ∧ S' = S) := by
  refine ct_of (by decide) (Nat.le_of_ble_eq_true rfl) fun x hn9 C M hm9 => ?_
  have C : CB x RX6 cX6_hasPage := C
  refine J.eq (lv' := [(0, .ref (ad 5)), (1, .int v0)]) rfl rfl rfl ?_
  refine j_iload_n C dX6_hasPage_0 rfl 1 rfl ?_
  refine j_if_lt (tgt := 22) C dX6_hasPage_1 (by decide) (fun c_1 => ?_) (fun c_1 => absurd hv c_1)
  refine j_iconst (v := 0) C dX6_hasPage_22 (by decide) ?_
  exact j_zret C M rfl dX6_hasPage_23 (by decide) (by decide) ⟨rfl, rfl⟩

set_option maxRecDepth 100000 in
set_option maxHeartbeats 4000000 in
theorem c_X11_width_no (S : Hp) (ad : Nat → Nat) (hW : Wd ad S) (n9 : Nat) (t9 : Nat) (hI_602_ad5 : hI S 602 (ad 5) = nI t9) (h8 : t9 ≤ 12) (hn : t9 ≤ n9) (hn2 : n9 < 2 ^ 31) : Ct 2 yX11_width cX11_width 2 (some .int) 0 0 [.ref (ad 0), .int (nI n9)] S (fun r S' => r = some (.int (-1)) ∧ S' = S) := by
  refine ct_of (by decide) (Nat.le_of_ble_eq_true rfl) fun x hn9 C M hm9 => ?_
  have C : CB x RX11 cX11_width := C
  refine J.eq (lv' := [(0, .ref (ad 0)), (1, .int (nI n9))]) rfl rfl rfl ?_
  refine j_aload_n C dX11_width_0 rfl 0 rfl ?_
  refine j_getr (f := 1106) (v := (ad 5)) C flX11_33 dX11_width_1 (wm_0 (S := S) hW) (wk_0 (S := S) hW) (by decide) rfl (wr_1106_0 (S := S) hW) ?_
  refine j_iload_n C dX11_width_4 rfl 1 rfl ?_
  refine j_callV (ci := 6) C [.int (nI n9)] [] mlX11_113 mcX6_hasPage (c_X6_hasPage_no S ad hW n9 t9 hI_602_ad5 (by omega) (by omega) (by omega)) (wm_5 (S := S) hW) (wk_5 (S := S) hW) rfl (M.rm (by decide) (by decide) (Nat.le_of_ble_eq_true rfl) (Nat.le_of_ble_eq_true rfl)) rfl rfl (Nat.le_of_ble_eq_true rfl) dX11_width_5 (fun r_1 S_2 hp_3 => ?_)
  obtain ⟨rfl, e_4⟩ := hp_3
  refine J.eq (S' := S) (st' := [.int 0]) (lv' := [(0, .ref (ad 0)), (1, .int (nI n9))]) e_4 rfl rfl ?_
  refine j_if_eq (tgt := 23) C dX11_width_8 (by decide) (fun c9 => ?_) (fun c9 => absurd (by decide) c9)
  refine j_iconst (v := (-1)) C dX11_width_23 (by decide) ?_
  exact j_iret C M dX11_width_24 (Nat.le_of_ble_eq_true rfl) (Nat.le_of_ble_eq_true rfl) ⟨rfl, rfl⟩

set_option maxRecDepth 100000 in
set_option maxHeartbeats 4000000 in
theorem c_X12_width_no (S : Hp) (ad : Nat → Nat) (hW : Wd ad S) (n9 : Nat) (t9 : Nat) (hI_1240_ad133 : hI S 1240 (ad 133) = nI t9) (h8 : t9 ≤ 12) (hn : t9 ≤ n9) (hn2 : n9 < 2 ^ 31) : Ct 1 yX12_width cX12_width 2 (some .int) 0 0 [.ref (ad 133), .int (nI n9)] S (fun r S' => r = some (.int (-1)) ∧ S' = S) := by
  refine ct_of (by decide) (Nat.le_of_ble_eq_true rfl) fun x hn9 C M hm9 => ?_
  have C : CB x RX12 cX12_width := C
  refine J.eq (lv' := [(0, .ref (ad 133)), (1, .int (nI n9))]) rfl rfl rfl ?_
  refine j_iload_n C dX12_width_0 rfl 1 rfl ?_
  refine j_if_lt (tgt := 12) C dX12_width_1 (by decide) (fun c_1 => absurd c_1 (nI_pos (by omega))) (fun c_1 => ?_)
  refine j_iload_n C dX12_width_4 rfl 1 rfl ?_
  refine j_aload_n C dX12_width_5 rfl 0 rfl ?_
  refine j_geti (f := 1240) (v := nI t9) C flX12_198 dX12_width_6 (wm_133 (S := S) hW) (wk_133 (S := S) hW) (by decide) (by decide) rfl hI_1240_ad133 ?_
  refine j_ic_lt (tgt := 16) C dX12_width_9 (by decide) (fun c_9 => absurd c_9 (nI_nlt (by omega) (by omega))) (fun c_9 => ?_)
  refine j_iconst (v := (-1)) C dX12_width_12 (by decide) ?_
  refine j_goto (tgt := 22) C dX12_width_13 (by decide) ?_
  show J _ _ _ _ _ 22 _
  exact j_iret C M dX12_width_22 (by decide) (by decide) ⟨rfl, rfl⟩

set_option maxRecDepth 100000 in
set_option maxHeartbeats 4000000 in
theorem c_X11_height_no (S : Hp) (ad : Nat → Nat) (hW : Wd ad S) (n9 : Nat) (t9 : Nat) (hI_602_ad5 : hI S 602 (ad 5) = nI t9) (h8 : t9 ≤ 12) (hn : t9 ≤ n9) (hn2 : n9 < 2 ^ 31) : Ct 2 yX11_height cX11_height 2 (some .int) 0 0 [.ref (ad 0), .int (nI n9)] S (fun r S' => r = some (.int (-1)) ∧ S' = S) := by
  refine ct_of (by decide) (Nat.le_of_ble_eq_true rfl) fun x hn9 C M hm9 => ?_
  have C : CB x RX11 cX11_height := C
  refine J.eq (lv' := [(0, .ref (ad 0)), (1, .int (nI n9))]) rfl rfl rfl ?_
  refine j_aload_n C dX11_height_0 rfl 0 rfl ?_
  refine j_getr (f := 1106) (v := (ad 5)) C flX11_33 dX11_height_1 (wm_0 (S := S) hW) (wk_0 (S := S) hW) (by decide) rfl (wr_1106_0 (S := S) hW) ?_
  refine j_iload_n C dX11_height_4 rfl 1 rfl ?_
  refine j_callV (ci := 6) C [.int (nI n9)] [] mlX11_113 mcX6_hasPage (c_X6_hasPage_no S ad hW n9 t9 hI_602_ad5 (by omega) (by omega) (by omega)) (wm_5 (S := S) hW) (wk_5 (S := S) hW) rfl (M.rm (by decide) (by decide) (Nat.le_of_ble_eq_true rfl) (Nat.le_of_ble_eq_true rfl)) rfl rfl (Nat.le_of_ble_eq_true rfl) dX11_height_5 (fun r_1 S_2 hp_3 => ?_)
  obtain ⟨rfl, e_4⟩ := hp_3
  refine J.eq (S' := S) (st' := [.int 0]) (lv' := [(0, .ref (ad 0)), (1, .int (nI n9))]) e_4 rfl rfl ?_
  refine j_if_eq (tgt := 23) C dX11_height_8 (by decide) (fun c9 => ?_) (fun c9 => absurd (by decide) c9)
  refine j_iconst (v := (-1)) C dX11_height_23 (by decide) ?_
  exact j_iret C M dX11_height_24 (Nat.le_of_ble_eq_true rfl) (Nat.le_of_ble_eq_true rfl) ⟨rfl, rfl⟩

set_option maxRecDepth 100000 in
set_option maxHeartbeats 4000000 in
theorem c_X12_height_no (S : Hp) (ad : Nat → Nat) (hW : Wd ad S) (n9 : Nat) (t9 : Nat) (hI_1240_ad133 : hI S 1240 (ad 133) = nI t9) (h8 : t9 ≤ 12) (hn : t9 ≤ n9) (hn2 : n9 < 2 ^ 31) : Ct 1 yX12_height cX12_height 2 (some .int) 0 0 [.ref (ad 133), .int (nI n9)] S (fun r S' => r = some (.int (-1)) ∧ S' = S) := by
  refine ct_of (by decide) (Nat.le_of_ble_eq_true rfl) fun x hn9 C M hm9 => ?_
  have C : CB x RX12 cX12_height := C
  refine J.eq (lv' := [(0, .ref (ad 133)), (1, .int (nI n9))]) rfl rfl rfl ?_
  refine j_iload_n C dX12_height_0 rfl 1 rfl ?_
  refine j_if_lt (tgt := 12) C dX12_height_1 (by decide) (fun c_1 => absurd c_1 (nI_pos (by omega))) (fun c_1 => ?_)
  refine j_iload_n C dX12_height_4 rfl 1 rfl ?_
  refine j_aload_n C dX12_height_5 rfl 0 rfl ?_
  refine j_geti (f := 1240) (v := nI t9) C flX12_198 dX12_height_6 (wm_133 (S := S) hW) (wk_133 (S := S) hW) (by decide) (by decide) rfl hI_1240_ad133 ?_
  refine j_ic_lt (tgt := 16) C dX12_height_9 (by decide) (fun c_9 => absurd c_9 (nI_nlt (by omega) (by omega))) (fun c_9 => ?_)
  refine j_iconst (v := (-1)) C dX12_height_12 (by decide) ?_
  refine j_goto (tgt := 22) C dX12_height_13 (by decide) ?_
  show J _ _ _ _ _ 22 _
  exact j_iret C M dX12_height_22 (by decide) (by decide) ⟨rfl, rfl⟩

set_option maxRecDepth 100000 in
set_option maxHeartbeats 4000000 in
theorem c_X11_width_neg (S : Hp) (ad : Nat → Nat) (hW : Wd ad S) (v0 : Int32) (t9 : Nat) (hI_602_ad5 : hI S 602 (ad 5) = nI t9) (h8 : t9 ≤ 12) (hv : v0 < 0) : Ct 2 yX11_width cX11_width 2 (some .int) 0 0 [.ref (ad 0), .int v0] S (fun r S' => r = some (.int (-1)) ∧ S' = S) := by
  refine ct_of (by decide) (Nat.le_of_ble_eq_true rfl) fun x hn9 C M hm9 => ?_
  have C : CB x RX11 cX11_width := C
  refine J.eq (lv' := [(0, .ref (ad 0)), (1, .int v0)]) rfl rfl rfl ?_
  refine j_aload_n C dX11_width_0 rfl 0 rfl ?_
  refine j_getr (f := 1106) (v := (ad 5)) C flX11_33 dX11_width_1 (wm_0 (S := S) hW) (wk_0 (S := S) hW) (by decide) rfl (wr_1106_0 (S := S) hW) ?_
  refine j_iload_n C dX11_width_4 rfl 1 rfl ?_
  refine j_callV (ci := 6) C [.int v0] [] mlX11_113 mcX6_hasPage (c_X6_hasPage_neg S ad hW v0 t9 hI_602_ad5 (by omega) hv) (wm_5 (S := S) hW) (wk_5 (S := S) hW) rfl (M.rm (by decide) (by decide) (Nat.le_of_ble_eq_true rfl) (Nat.le_of_ble_eq_true rfl)) rfl rfl (Nat.le_of_ble_eq_true rfl) dX11_width_5 (fun r_1 S_2 hp_3 => ?_)
  obtain ⟨rfl, e_4⟩ := hp_3
  refine J.eq (S' := S) (st' := [.int 0]) (lv' := [(0, .ref (ad 0)), (1, .int v0)]) e_4 rfl rfl ?_
  refine j_if_eq (tgt := 23) C dX11_width_8 (by decide) (fun c9 => ?_) (fun c9 => absurd (by decide) c9)
  refine j_iconst (v := (-1)) C dX11_width_23 (by decide) ?_
  exact j_iret C M dX11_width_24 (Nat.le_of_ble_eq_true rfl) (Nat.le_of_ble_eq_true rfl) ⟨rfl, rfl⟩

set_option maxRecDepth 100000 in
set_option maxHeartbeats 4000000 in
theorem c_X12_width_neg (S : Hp) (ad : Nat → Nat) (hW : Wd ad S) (v0 : Int32) (t9 : Nat) (hI_1240_ad133 : hI S 1240 (ad 133) = nI t9) (h8 : t9 ≤ 12) (hv : v0 < 0) : Ct 1 yX12_width cX12_width 2 (some .int) 0 0 [.ref (ad 133), .int v0] S (fun r S' => r = some (.int (-1)) ∧ S' = S) := by
  refine ct_of (by decide) (Nat.le_of_ble_eq_true rfl) fun x hn9 C M hm9 => ?_
  have C : CB x RX12 cX12_width := C
  refine J.eq (lv' := [(0, .ref (ad 133)), (1, .int v0)]) rfl rfl rfl ?_
  refine j_iload_n C dX12_width_0 rfl 1 rfl ?_
  refine j_if_lt (tgt := 12) C dX12_width_1 (by decide) (fun c_1 => ?_) (fun c_1 => absurd hv c_1)
  refine j_iconst (v := (-1)) C dX12_width_12 (by decide) ?_
  refine j_goto (tgt := 22) C dX12_width_13 (by decide) ?_
  exact j_iret C M dX12_width_22 (by decide) (by decide) ⟨rfl, rfl⟩

set_option maxRecDepth 100000 in
set_option maxHeartbeats 4000000 in
theorem c_X11_height_neg (S : Hp) (ad : Nat → Nat) (hW : Wd ad S) (v0 : Int32) (t9 : Nat) (hI_602_ad5 : hI S 602 (ad 5) = nI t9) (h8 : t9 ≤ 12) (hv : v0 < 0) : Ct 2 yX11_height cX11_height 2 (some .int) 0 0 [.ref (ad 0), .int v0] S (fun r S' => r = some (.int (-1)) ∧ S' = S) := by
  refine ct_of (by decide) (Nat.le_of_ble_eq_true rfl) fun x hn9 C M hm9 => ?_
  have C : CB x RX11 cX11_height := C
  refine J.eq (lv' := [(0, .ref (ad 0)), (1, .int v0)]) rfl rfl rfl ?_
  refine j_aload_n C dX11_height_0 rfl 0 rfl ?_
  refine j_getr (f := 1106) (v := (ad 5)) C flX11_33 dX11_height_1 (wm_0 (S := S) hW) (wk_0 (S := S) hW) (by decide) rfl (wr_1106_0 (S := S) hW) ?_
  refine j_iload_n C dX11_height_4 rfl 1 rfl ?_
  refine j_callV (ci := 6) C [.int v0] [] mlX11_113 mcX6_hasPage (c_X6_hasPage_neg S ad hW v0 t9 hI_602_ad5 (by omega) hv) (wm_5 (S := S) hW) (wk_5 (S := S) hW) rfl (M.rm (by decide) (by decide) (Nat.le_of_ble_eq_true rfl) (Nat.le_of_ble_eq_true rfl)) rfl rfl (Nat.le_of_ble_eq_true rfl) dX11_height_5 (fun r_1 S_2 hp_3 => ?_)
  obtain ⟨rfl, e_4⟩ := hp_3
  refine J.eq (S' := S) (st' := [.int 0]) (lv' := [(0, .ref (ad 0)), (1, .int v0)]) e_4 rfl rfl ?_
  refine j_if_eq (tgt := 23) C dX11_height_8 (by decide) (fun c9 => ?_) (fun c9 => absurd (by decide) c9)
  refine j_iconst (v := (-1)) C dX11_height_23 (by decide) ?_
  exact j_iret C M dX11_height_24 (Nat.le_of_ble_eq_true rfl) (Nat.le_of_ble_eq_true rfl) ⟨rfl, rfl⟩

set_option maxRecDepth 100000 in
set_option maxHeartbeats 4000000 in
theorem c_X12_height_neg (S : Hp) (ad : Nat → Nat) (hW : Wd ad S) (v0 : Int32) (t9 : Nat) (hI_1240_ad133 : hI S 1240 (ad 133) = nI t9) (h8 : t9 ≤ 12) (hv : v0 < 0) : Ct 1 yX12_height cX12_height 2 (some .int) 0 0 [.ref (ad 133), .int v0] S (fun r S' => r = some (.int (-1)) ∧ S' = S) := by
  refine ct_of (by decide) (Nat.le_of_ble_eq_true rfl) fun x hn9 C M hm9 => ?_
  have C : CB x RX12 cX12_height := C
  refine J.eq (lv' := [(0, .ref (ad 133)), (1, .int v0)]) rfl rfl rfl ?_
  refine j_iload_n C dX12_height_0 rfl 1 rfl ?_
  refine j_if_lt (tgt := 12) C dX12_height_1 (by decide) (fun c_1 => ?_) (fun c_1 => absurd hv c_1)
  refine j_iconst (v := (-1)) C dX12_height_12 (by decide) ?_
  refine j_goto (tgt := 22) C dX12_height_13 (by decide) ?_
  exact j_iret C M dX12_height_22 (by decide) (by decide) ⟨rfl, rfl⟩
