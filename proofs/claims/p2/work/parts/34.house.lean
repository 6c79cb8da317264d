theorem dX11_out_0 : decode cX11_out 0 = .ok (.aload_n 0, 1) := by decide +kernel
theorem dX11_out_1 : decode cX11_out 1 = .ok (.getfield 33, 3) := by decide +kernel
theorem dX11_out_4 : decode cX11_out 4 = .ok (.iload_n 1, 1) := by decide +kernel
theorem dX11_out_5 : decode cX11_out 5 = .ok (.invokevirtual 102, 3) := by decide +kernel
theorem dX11_out_8 : decode cX11_out 8 = .ok (.ireturn, 1) := by decide +kernel

set_option maxRecDepth 100000 in
set_option maxHeartbeats 4000000 in
theorem c_X11_out (S : Hp) (ad : Nat → Nat) (hW : Wd ad S) (n9 : Nat) (t9 : Nat) (hI_601_ad5 : hI S 601 (ad 5) = nI t9) (h8 : t9 ≤ 60000) (hn : n9 < t9) : Ct 2 yX11_out cX11_out 2 (some .int) 0 0 [.ref (ad 0), .int (nI n9)] S (fun r S' => r = some (.int ((aI S (ad 6) n9) &&& 255)) ∧ S' = S) := by
  refine ct_of (by decide) (Nat.le_of_ble_eq_true rfl) fun x hn9 C M hm9 => ?_
  have C : CB x RX11 cX11_out := C
  refine J.eq (lv' := [(0, .ref (ad 0)), (1, .int (nI n9))]) rfl rfl rfl ?_
  refine j_aload_n C dX11_out_0 rfl 0 rfl ?_
  refine j_getr (f := 1106) (v := (ad 5)) C flX11_33 dX11_out_1 (wm_0 (S := S) hW) (wk_0 (S := S) hW) (by decide) rfl (wr_1106_0 (S := S) hW) ?_
  refine j_iload_n C dX11_out_4 rfl 1 rfl ?_
  refine j_callV (ci := 6) C [.int (nI n9)] [] mlX11_102 mcX6_byteAt (c_X6_byteAt S ad hW n9 t9 hI_601_ad5 (by omega) (by omega)) (wm_5 (S := S) hW) (wk_5 (S := S) hW) rfl (M.rm (by decide) (by decide) (Nat.le_of_ble_eq_true rfl) (Nat.le_of_ble_eq_true rfl)) rfl rfl (Nat.le_of_ble_eq_true rfl) dX11_out_5 (fun r_1 S_2 hp_3 => ?_)
  obtain ⟨rfl, e_4⟩ := hp_3
  refine J.eq (S' := S) (st' := [.int ((aI S (ad 6) n9) &&& 255)]) (lv' := [(0, .ref (ad 0)), (1, .int (nI n9))]) e_4 rfl rfl ?_
  exact j_iret C M dX11_out_8 (Nat.le_of_ble_eq_true rfl) (Nat.le_of_ble_eq_true rfl) ⟨rfl, rfl⟩

set_option maxRecDepth 100000 in
set_option maxHeartbeats 4000000 in
theorem c_X11_out_no (S : Hp) (ad : Nat → Nat) (hW : Wd ad S) (n9 : Nat) (t9 : Nat) (hI_601_ad5 : hI S 601 (ad 5) = nI t9) (h8 : t9 ≤ 60000) (hn : t9 ≤ n9) (hn2 : n9 < 2 ^ 31) : Ct 2 yX11_out cX11_out 2 (some .int) 0 0 [.ref (ad 0), .int (nI n9)] S (fun r S' => r = some (.int (-1)) ∧ S' = S) := by
  refine ct_of (by decide) (Nat.le_of_ble_eq_true rfl) fun x hn9 C M hm9 => ?_
  have C : CB x RX11 cX11_out := C
  refine J.eq (lv' := [(0, .ref (ad 0)), (1, .int (nI n9))]) rfl rfl rfl ?_
  refine j_aload_n C dX11_out_0 rfl 0 rfl ?_
  refine j_getr (f := 1106) (v := (ad 5)) C flX11_33 dX11_out_1 (wm_0 (S := S) hW) (wk_0 (S := S) hW) (by decide) rfl (wr_1106_0 (S := S) hW) ?_
  refine j_iload_n C dX11_out_4 rfl 1 rfl ?_
  refine j_callV (ci := 6) C [.int (nI n9)] [] mlX11_102 mcX6_byteAt (c_X6_byteAt_no S ad hW n9 t9 hI_601_ad5 (by omega) (by omega) (by omega)) (wm_5 (S := S) hW) (wk_5 (S := S) hW) rfl (M.rm (by decide) (by decide) (Nat.le_of_ble_eq_true rfl) (Nat.le_of_ble_eq_true rfl)) rfl rfl (Nat.le_of_ble_eq_true rfl) dX11_out_5 (fun r_1 S_2 hp_3 => ?_)
  obtain ⟨rfl, e_4⟩ := hp_3
  refine J.eq (S' := S) (st' := [.int (-1)]) (lv' := [(0, .ref (ad 0)), (1, .int (nI n9))]) e_4 rfl rfl ?_
  exact j_iret C M dX11_out_8 (Nat.le_of_ble_eq_true rfl) (Nat.le_of_ble_eq_true rfl) ⟨rfl, rfl⟩

set_option maxRecDepth 100000 in
set_option maxHeartbeats 4000000 in
theorem c_X11_out_neg (S : Hp) (ad : Nat → Nat) (hW : Wd ad S) (v0 : Int32) (t9 : Nat) (hI_601_ad5 : hI S 601 (ad 5) = nI t9) (h8 : t9 ≤ 60000) (hv : v0 < 0) : Ct 2 yX11_out cX11_out 2 (some .int) 0 0 [.ref (ad 0), .int v0] S (fun r S' => r = some (.int (-1)) ∧ S' = S) := by
  refine ct_of (by decide) (Nat.le_of_ble_eq_true rfl) fun x hn9 C M hm9 => ?_
  have C : CB x RX11 cX11_out := C
  refine J.eq (lv' := [(0, .ref (ad 0)), (1, .int v0)]) rfl rfl rfl ?_
  refine j_aload_n C dX11_out_0 rfl 0 rfl ?_
  refine j_getr (f := 1106) (v := (ad 5)) C flX11_33 dX11_out_1 (wm_0 (S := S) hW) (wk_0 (S := S) hW) (by decide) rfl (wr_1106_0 (S := S) hW) ?_
  refine j_iload_n C dX11_out_4 rfl 1 rfl ?_
  refine j_callV (ci := 6) C [.int v0] [] mlX11_102 mcX6_byteAt (c_X6_byteAt_neg S ad hW v0 t9 hI_601_ad5 (by omega) (by omega)) (wm_5 (S := S) hW) (wk_5 (S := S) hW) rfl (M.rm (by decide) (by decide) (Nat.le_of_ble_eq_true rfl) (Nat.le_of_ble_eq_true rfl)) rfl rfl (Nat.le_of_ble_eq_true rfl) dX11_out_5 (fun r_1 S_2 hp_3 => ?_)
  obtain ⟨rfl, e_4⟩ := hp_3
  refine J.eq (S' := S) (st' := [.int (-1)]) (lv' := [(0, .ref (ad 0)), (1, .int v0)]) e_4 rfl rfl ?_
  exact j_iret C M dX11_out_8 (Nat.le_of_ble_eq_true rfl) (Nat.le_of_ble_eq_true rfl) ⟨rfl, rfl⟩
