theorem dX6_hasPage_0 : decode cX6_hasPage 0 = .ok (.iload_n 1, 1) := by decide +kernel
theorem dX6_hasPage_1 : decode cX6_hasPage 1 = .ok (.ifCond .lt 21, 3) := by decide +kernel
theorem dX6_hasPage_4 : decode cX6_hasPage 4 = .ok (.iload_n 1, 1) := by decide +kernel
theorem dX6_hasPage_5 : decode cX6_hasPage 5 = .ok (.aload_n 0, 1) := by decide +kernel
theorem dX6_hasPage_6 : decode cX6_hasPage 6 = .ok (.getfield 32, 3) := by decide +kernel
theorem dX6_hasPage_9 : decode cX6_hasPage 9 = .ok (.if_icmp .ge 13, 3) := by decide +kernel
theorem dX6_hasPage_12 : decode cX6_hasPage 12 = .ok (.iload_n 1, 1) := by decide +kernel
theorem dX6_hasPage_13 : decode cX6_hasPage 13 = .ok (.bipush 12, 2) := by decide +kernel
theorem dX6_hasPage_15 : decode cX6_hasPage 15 = .ok (.if_icmp .ge 7, 3) := by decide +kernel
theorem dX6_hasPage_18 : decode cX6_hasPage 18 = .ok (.iconst 1, 1) := by decide +kernel
theorem dX6_hasPage_19 : decode cX6_hasPage 19 = .ok (.goto 4, 3) := by decide +kernel
theorem dX6_hasPage_22 : decode cX6_hasPage 22 = .ok (.iconst 0, 1) := by decide +kernel
theorem dX6_hasPage_23 : decode cX6_hasPage 23 = .ok (.ireturn, 1) := by decide +kernel

set_option maxRecDepth 100000 in
set_option maxHeartbeats 4000000 in
theorem c_X6_hasPage (S : Hp) (ad : Nat → Nat) (hW : Wd ad S) (n9 : Nat) (t9 : Nat) (hI_602_ad5 : hI S 602 (ad 5) = nI t9) (h8 : t9 ≤ 12) (hn : n9 < t9) : Ct 1 yX6_hasPage cX6_hasPage 2 (some .boolean) 0 0 [.ref (ad 5), .int (nI n9)] S (fun r S' => r = some (.int 1) ∧ S' = S) := by
  refine ct_of (by decide) (Nat.le_of_ble_eq_true rfl) fun x hn9 C M hm9 => ?_
  have C : CB x RX6 cX6_hasPage := C
  refine J.eq (lv' := [(0, .ref (ad 5)), (1, .int (nI n9))]) rfl rfl rfl ?_
  refine j_iload_n C dX6_hasPage_0 rfl 1 rfl ?_
  refine j_if_lt (tgt := 22) C dX6_hasPage_1 (by decide) (fun c_1 => absurd c_1 (nI_pos (by omega))) (fun c_1 => ?_)
  refine j_iload_n C dX6_hasPage_4 rfl 1 rfl ?_
  refine j_aload_n C dX6_hasPage_5 rfl 0 rfl ?_
  refine j_geti (f := 602) (v := nI t9) C flX6_32 dX6_hasPage_6 (wm_5 (S := S) hW) (wk_5 (S := S) hW) (by decide) (by decide) rfl hI_602_ad5 ?_
  refine j_ic_ge (tgt := 22) C dX6_hasPage_9 (by decide) (fun c_9 => absurd c_9 (nI_ge (by omega) (by omega))) (fun c_9 => ?_)
  refine j_iload_n C dX6_hasPage_12 rfl 1 rfl ?_
  refine j_bipush (v := 12) C dX6_hasPage_13 (by decide) ?_
  show J _ _ _ _ _ 15 _
  refine j_ic_ge (tgt := 22) C dX6_hasPage_15 (by decide) (fun c_15 => absurd c_15 (nI_ge (b := 12) (by omega) (by decide))) (fun c_15 => ?_)
  refine j_iconst (v := 1) C dX6_hasPage_18 (by decide) ?_
  refine j_goto (tgt := 23) C dX6_hasPage_19 (by decide) ?_
  exact j_zret C M rfl dX6_hasPage_23 (by decide) (by decide) ⟨rfl, rfl⟩

theorem dX11_width_0 : decode cX11_width 0 = .ok (.aload_n 0, 1) := by decide +kernel
theorem dX11_width_1 : decode cX11_width 1 = .ok (.getfield 33, 3) := by decide +kernel
theorem dX11_width_4 : decode cX11_width 4 = .ok (.iload_n 1, 1) := by decide +kernel
theorem dX11_width_5 : decode cX11_width 5 = .ok (.invokevirtual 113, 3) := by decide +kernel
theorem dX11_width_8 : decode cX11_width 8 = .ok (.ifCond .eq 15, 3) := by decide +kernel
theorem dX11_width_11 : decode cX11_width 11 = .ok (.aload_n 0, 1) := by decide +kernel
theorem dX11_width_12 : decode cX11_width 12 = .ok (.getfield 33, 3) := by decide +kernel
theorem dX11_width_15 : decode cX11_width 15 = .ok (.getfield 117, 3) := by decide +kernel
theorem dX11_width_18 : decode cX11_width 18 = .ok (.iload_n 1, 1) := by decide +kernel
theorem dX11_width_19 : decode cX11_width 19 = .ok (.iaload, 1) := by decide +kernel
theorem dX11_width_20 : decode cX11_width 20 = .ok (.goto 4, 3) := by decide +kernel
theorem dX11_width_23 : decode cX11_width 23 = .ok (.iconst (-1), 1) := by decide +kernel
theorem dX11_width_24 : decode cX11_width 24 = .ok (.ireturn, 1) := by decide +kernel

set_option maxRecDepth 100000 in
set_option maxHeartbeats 4000000 in
theorem c_X11_width (S : Hp) (ad : Nat → Nat) (hW : Wd ad S) (n9 : Nat) (t9 : Nat) (hI_602_ad5 : hI S 602 (ad 5) = nI t9) (h8 : t9 ≤ 12) (hn : n9 < t9) : Ct 2 yX11_width cX11_width 2 (some .int) 0 0 [.ref (ad 0), .int (nI n9)] S (fun r S' => r = some (.int (aI S (ad 7) n9)) ∧ S' = S) := by
  refine ct_of (by decide) (Nat.le_of_ble_eq_true rfl) fun x hn9 C M hm9 => ?_
  have C : CB x RX11 cX11_width := C
  refine J.eq (lv' := [(0, .ref (ad 0)), (1, .int (nI n9))]) rfl rfl rfl ?_
  refine j_aload_n C dX11_width_0 rfl 0 rfl ?_
  refine j_getr (f := 1106) (v := (ad 5)) C flX11_33 dX11_width_1 (wm_0 (S := S) hW) (wk_0 (S := S) hW) (by decide) rfl (wr_1106_0 (S := S) hW) ?_
  refine j_iload_n C dX11_width_4 rfl 1 rfl ?_
  refine j_callV (ci := 6) C [.int (nI n9)] [] mlX11_113 mcX6_hasPage (c_X6_hasPage S ad hW n9 t9 hI_602_ad5 (by omega) (by omega)) (wm_5 (S := S) hW) (wk_5 (S := S) hW) rfl (M.rm (by decide) (by decide) (Nat.le_of_ble_eq_true rfl) (Nat.le_of_ble_eq_true rfl)) rfl rfl (Nat.le_of_ble_eq_true rfl) dX11_width_5 (fun r_1 S_2 hp_3 => ?_)
  obtain ⟨rfl, e_4⟩ := hp_3
  refine J.eq (S' := S) (st' := [.int 1]) (lv' := [(0, .ref (ad 0)), (1, .int (nI n9))]) e_4 rfl rfl ?_
  refine j_if_eq (tgt := 23) C dX11_width_8 (by decide) (fun c9 => absurd c9 (by decide)) (fun c9 => ?_)
  refine j_aload_n C dX11_width_11 rfl 0 rfl ?_
  refine j_getr (f := 1106) (v := (ad 5)) C flX11_33 dX11_width_12 (wm_0 (S := S) hW) (wk_0 (S := S) hW) (by decide) rfl (wr_1106_0 (S := S) hW) ?_
  refine j_getr (f := 604) (v := (ad 7)) C flX11_117 dX11_width_15 (wm_5 (S := S) hW) (wk_5 (S := S) hW) (by decide) rfl (wr_604_5 (S := S) hW) ?_
  show J _ _ _ _ _ 18 _
  refine j_iload_n C dX11_width_18 rfl 1 rfl ?_
  refine j_iald (j := n9) (v := aI S (ad 7) n9) C dX11_width_19 (wm_7 (S := S) hW) (wk_7 (S := S) hW) (inr_of (n := 12) (wl_7 (S := S) hW) (vp_in_nI (by omega) (by omega))) (nI_clamp (by omega)) rfl ?_
  refine j_goto (tgt := 24) C dX11_width_20 (by decide) ?_
  exact j_iret C M dX11_width_24 (Nat.le_of_ble_eq_true rfl) (Nat.le_of_ble_eq_true rfl) ⟨rfl, rfl⟩

theorem dX11_height_0 : decode cX11_height 0 = .ok (.aload_n 0, 1) := by decide +kernel
theorem dX11_height_1 : decode cX11_height 1 = .ok (.getfield 33, 3) := by decide +kernel
theorem dX11_height_4 : decode cX11_height 4 = .ok (.iload_n 1, 1) := by decide +kernel
theorem dX11_height_5 : decode cX11_height 5 = .ok (.invokevirtual 113, 3) := by decide +kernel
theorem dX11_height_8 : decode cX11_height 8 = .ok (.ifCond .eq 15, 3) := by decide +kernel
theorem dX11_height_11 : decode cX11_height 11 = .ok (.aload_n 0, 1) := by decide +kernel
theorem dX11_height_12 : decode cX11_height 12 = .ok (.getfield 33, 3) := by decide +kernel
theorem dX11_height_15 : decode cX11_height 15 = .ok (.getfield 120, 3) := by decide +kernel
theorem dX11_height_18 : decode cX11_height 18 = .ok (.iload_n 1, 1) := by decide +kernel
theorem dX11_height_19 : decode cX11_height 19 = .ok (.iaload, 1) := by decide +kernel
theorem dX11_height_20 : decode cX11_height 20 = .ok (.goto 4, 3) := by decide +kernel
theorem dX11_height_23 : decode cX11_height 23 = .ok (.iconst (-1), 1) := by decide +kernel
theorem dX11_height_24 : decode cX11_height 24 = .ok (.ireturn, 1) := by decide +kernel

set_option maxRecDepth 100000 in
set_option maxHeartbeats 4000000 in
theorem c_X11_height (S : Hp) (ad : Nat → Nat) (hW : Wd ad S) (n9 : Nat) (t9 : Nat) (hI_602_ad5 : hI S 602 (ad 5) = nI t9) (h8 : t9 ≤ 12) (hn : n9 < t9) : Ct 2 yX11_height cX11_height 2 (some .int) 0 0 [.ref (ad 0), .int (nI n9)] S (fun r S' => r = some (.int (aI S (ad 8) n9)) ∧ S' = S) := by
  refine ct_of (by decide) (Nat.le_of_ble_eq_true rfl) fun x hn9 C M hm9 => ?_
  have C : CB x RX11 cX11_height := C
  refine J.eq (lv' := [(0, .ref (ad 0)), (1, .int (nI n9))]) rfl rfl rfl ?_
  refine j_aload_n C dX11_height_0 rfl 0 rfl ?_
  refine j_getr (f := 1106) (v := (ad 5)) C flX11_33 dX11_height_1 (wm_0 (S := S) hW) (wk_0 (S := S) hW) (by decide) rfl (wr_1106_0 (S := S) hW) ?_
  refine j_iload_n C dX11_height_4 rfl 1 rfl ?_
  refine j_callV (ci := 6) C [.int (nI n9)] [] mlX11_113 mcX6_hasPage (c_X6_hasPage S ad hW n9 t9 hI_602_ad5 (by omega) (by omega)) (wm_5 (S := S) hW) (wk_5 (S := S) hW) rfl (M.rm (by decide) (by decide) (Nat.le_of_ble_eq_true rfl) (Nat.le_of_ble_eq_true rfl)) rfl rfl (Nat.le_of_ble_eq_true rfl) dX11_height_5 (fun r_1 S_2 hp_3 => ?_)
  obtain ⟨rfl, e_4⟩ := hp_3
  refine J.eq (S' := S) (st' := [.int 1]) (lv' := [(0, .ref (ad 0)), (1, .int (nI n9))]) e_4 rfl rfl ?_
  refine j_if_eq (tgt := 23) C dX11_height_8 (by decide) (fun c9 => absurd c9 (by decide)) (fun c9 => ?_)
  refine j_aload_n C dX11_height_11 rfl 0 rfl ?_
  refine j_getr (f := 1106) (v := (ad 5)) C flX11_33 dX11_height_12 (wm_0 (S := S) hW) (wk_0 (S := S) hW) (by decide) rfl (wr_1106_0 (S := S) hW) ?_
  refine j_getr (f := 605) (v := (ad 8)) C flX11_120 dX11_height_15 (wm_5 (S := S) hW) (wk_5 (S := S) hW) (by decide) rfl (wr_605_5 (S := S) hW) ?_
  show J _ _ _ _ _ 18 _
  refine j_iload_n C dX11_height_18 rfl 1 rfl ?_
  refine j_iald (j := n9) (v := aI S (ad 8) n9) C dX11_height_19 (wm_8 (S := S) hW) (wk_8 (S := S) hW) (inr_of (n := 12) (wl_8 (S := S) hW) (vp_in_nI (by omega) (by omega))) (nI_clamp (by omega)) rfl ?_
  refine j_goto (tgt := 24) C dX11_height_20 (by decide) ?_
  exact j_iret C M dX11_height_24 (Nat.le_of_ble_eq_true rfl) (Nat.le_of_ble_eq_true rfl) ⟨rfl, rfl⟩

theorem dX12_width_0 : decode cX12_width 0 = .ok (.iload_n 1, 1) := by decide +kernel
theorem dX12_width_1 : decode cX12_width 1 = .ok (.ifCond .lt 11, 3) := by decide +kernel
theorem dX12_width_4 : decode cX12_width 4 = .ok (.iload_n 1, 1) := by decide +kernel
theorem dX12_width_5 : decode cX12_width 5 = .ok (.aload_n 0, 1) := by decide +kernel
theorem dX12_width_6 : decode cX12_width 6 = .ok (.getfield 198, 3) := by decide +kernel
theorem dX12_width_9 : decode cX12_width 9 = .ok (.if_icmp .lt 7, 3) := by decide +kernel
theorem dX12_width_12 : decode cX12_width 12 = .ok (.iconst (-1), 1) := by decide +kernel
theorem dX12_width_13 : decode cX12_width 13 = .ok (.goto 9, 3) := by decide +kernel
theorem dX12_width_16 : decode cX12_width 16 = .ok (.aload_n 0, 1) := by decide +kernel
theorem dX12_width_17 : decode cX12_width 17 = .ok (.getfield 89, 3) := by decide +kernel
theorem dX12_width_20 : decode cX12_width 20 = .ok (.iload_n 1, 1) := by decide +kernel
theorem dX12_width_21 : decode cX12_width 21 = .ok (.iaload, 1) := by decide +kernel
theorem dX12_width_22 : decode cX12_width 22 = .ok (.ireturn, 1) := by decide +kernel

set_option maxRecDepth 100000 in
set_option maxHeartbeats 4000000 in
theorem c_X12_width (S : Hp) (ad : Nat → Nat) (hW : Wd ad S) (n9 : Nat) (t9 : Nat) (hI_1240_ad133 : hI S 1240 (ad 133) = nI t9) (h8 : t9 ≤ 12) (hn : n9 < t9) : Ct 1 yX12_width cX12_width 2 (some .int) 0 0 [.ref (ad 133), .int (nI n9)] S (fun r S' => r = some (.int (aI S (ad 159) n9)) ∧ S' = S) := by
  refine ct_of (by decide) (Nat.le_of_ble_eq_true rfl) fun x hn9 C M hm9 => ?_
  have C : CB x RX12 cX12_width := C
  refine J.eq (lv' := [(0, .ref (ad 133)), (1, .int (nI n9))]) rfl rfl rfl ?_
  refine j_iload_n C dX12_width_0 rfl 1 rfl ?_
  refine j_if_lt (tgt := 12) C dX12_width_1 (by decide) (fun c_1 => absurd c_1 (nI_pos (by omega))) (fun c_1 => ?_)
  refine j_iload_n C dX12_width_4 rfl 1 rfl ?_
  refine j_aload_n C dX12_width_5 rfl 0 rfl ?_
  refine j_geti (f := 1240) (v := nI t9) C flX12_198 dX12_width_6 (wm_133 (S := S) hW) (wk_133 (S := S) hW) (by decide) (by decide) rfl hI_1240_ad133 ?_
  refine j_ic_lt (tgt := 16) C dX12_width_9 (by decide) (fun c_9 => ?_) (fun c_9 => absurd (nI_lt (by omega) (by omega)) c_9)
  refine j_aload_n C dX12_width_16 rfl 0 rfl ?_
  refine j_getr (f := 1238) (v := (ad 159)) C flX12_89 dX12_width_17 (wm_133 (S := S) hW) (wk_133 (S := S) hW) (by decide) rfl (wr_1238_133 (S := S) hW) ?_
  show J _ _ _ _ _ 20 _
  refine j_iload_n C dX12_width_20 rfl 1 rfl ?_
  refine j_iald (j := n9) (v := aI S (ad 159) n9) C dX12_width_21 (wm_159 (S := S) hW) (wk_159 (S := S) hW) (inr_of (n := 12) (wl_159 (S := S) hW) (vp_in_nI (by omega) (by omega))) (nI_clamp (by omega)) rfl ?_
  exact j_iret C M dX12_width_22 (by decide) (by decide) ⟨rfl, rfl⟩

theorem dX12_height_0 : decode cX12_height 0 = .ok (.iload_n 1, 1) := by decide +kernel
theorem dX12_height_1 : decode cX12_height 1 = .ok (.ifCond .lt 11, 3) := by decide +kernel
theorem dX12_height_4 : decode cX12_height 4 = .ok (.iload_n 1, 1) := by decide +kernel
theorem dX12_height_5 : decode cX12_height 5 = .ok (.aload_n 0, 1) := by decide +kernel
theorem dX12_height_6 : decode cX12_height 6 = .ok (.getfield 198, 3) := by decide +kernel
theorem dX12_height_9 : decode cX12_height 9 = .ok (.if_icmp .lt 7, 3) := by decide +kernel
theorem dX12_height_12 : decode cX12_height 12 = .ok (.iconst (-1), 1) := by decide +kernel
theorem dX12_height_13 : decode cX12_height 13 = .ok (.goto 9, 3) := by decide +kernel
theorem dX12_height_16 : decode cX12_height 16 = .ok (.aload_n 0, 1) := by decide +kernel
theorem dX12_height_17 : decode cX12_height 17 = .ok (.getfield 92, 3) := by decide +kernel
theorem dX12_height_20 : decode cX12_height 20 = .ok (.iload_n 1, 1) := by decide +kernel
theorem dX12_height_21 : decode cX12_height 21 = .ok (.iaload, 1) := by decide +kernel
theorem dX12_height_22 : decode cX12_height 22 = .ok (.ireturn, 1) := by decide +kernel

set_option maxRecDepth 100000 in
set_option maxHeartbeats 4000000 in
theorem c_X12_height (S : Hp) (ad : Nat → Nat) (hW : Wd ad S) (n9 : Nat) (t9 : Nat) (hI_1240_ad133 : hI S 1240 (ad 133) = nI t9) (h8 : t9 ≤ 12) (hn : n9 < t9) : Ct 1 yX12_height cX12_height 2 (some .int) 0 0 [.ref (ad 133), .int (nI n9)] S (fun r S' => r = some (.int (aI S (ad 160) n9)) ∧ S' = S) := by
  refine ct_of (by decide) (Nat.le_of_ble_eq_true rfl) fun x hn9 C M hm9 => ?_
  have C : CB x RX12 cX12_height := C
  refine J.eq (lv' := [(0, .ref (ad 133)), (1, .int (nI n9))]) rfl rfl rfl ?_
  refine j_iload_n C dX12_height_0 rfl 1 rfl ?_
  refine j_if_lt (tgt := 12) C dX12_height_1 (by decide) (fun c_1 => absurd c_1 (nI_pos (by omega))) (fun c_1 => ?_)
  refine j_iload_n C dX12_height_4 rfl 1 rfl ?_
  refine j_aload_n C dX12_height_5 rfl 0 rfl ?_
  refine j_geti (f := 1240) (v := nI t9) C flX12_198 dX12_height_6 (wm_133 (S := S) hW) (wk_133 (S := S) hW) (by decide) (by decide) rfl hI_1240_ad133 ?_
  refine j_ic_lt (tgt := 16) C dX12_height_9 (by decide) (fun c_9 => ?_) (fun c_9 => absurd (nI_lt (by omega) (by omega)) c_9)
  refine j_aload_n C dX12_height_16 rfl 0 rfl ?_
  refine j_getr (f := 1239) (v := (ad 160)) C flX12_92 dX12_height_17 (wm_133 (S := S) hW) (wk_133 (S := S) hW) (by decide) rfl (wr_1239_133 (S := S) hW) ?_
  show J _ _ _ _ _ 20 _
  refine j_iload_n C dX12_height_20 rfl 1 rfl ?_
  refine j_iald (j := n9) (v := aI S (ad 160) n9) C dX12_height_21 (wm_160 (S := S) hW) (wk_160 (S := S) hW) (inr_of (n := 12) (wl_160 (S := S) hW) (vp_in_nI (by omega) (by omega))) (nI_clamp (by omega)) rfl ?_
  exact j_iret C M dX12_height_22 (by decide) (by decide) ⟨rfl, rfl⟩
