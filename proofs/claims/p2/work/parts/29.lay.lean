theorem dX12_lay_0 : decode cX12_lay 0 = .ok (.bipush 24, 2) := by decide +kernel
theorem dX12_lay_2 : decode cX12_lay 2 = .ok (.istore_n 2, 1) := by decide +kernel
theorem dX12_lay_3 : decode cX12_lay 3 = .ok (.iload_n 2, 1) := by decide +kernel
theorem dX12_lay_4 : decode cX12_lay 4 = .ok (.ifCond .lt 32, 3) := by decide +kernel
theorem dX12_lay_7 : decode cX12_lay 7 = .ok (.aload_n 0, 1) := by decide +kernel
theorem dX12_lay_8 : decode cX12_lay 8 = .ok (.getfield 75, 3) := by decide +kernel
theorem dX12_lay_11 : decode cX12_lay 11 = .ok (.aload_n 0, 1) := by decide +kernel
theorem dX12_lay_12 : decode cX12_lay 12 = .ok (.getfield 146, 3) := by decide +kernel
theorem dX12_lay_15 : decode cX12_lay 15 = .ok (.iload_n 1, 1) := by decide +kernel
theorem dX12_lay_16 : decode cX12_lay 16 = .ok (.iload_n 2, 1) := by decide +kernel
theorem dX12_lay_17 : decode cX12_lay 17 = .ok (.ishr, 1) := by decide +kernel
theorem dX12_lay_18 : decode cX12_lay 18 = .ok (.i2b, 1) := by decide +kernel
theorem dX12_lay_19 : decode cX12_lay 19 = .ok (.bastore, 1) := by decide +kernel
theorem dX12_lay_20 : decode cX12_lay 20 = .ok (.aload_n 0, 1) := by decide +kernel
theorem dX12_lay_21 : decode cX12_lay 21 = .ok (.dup, 1) := by decide +kernel
theorem dX12_lay_22 : decode cX12_lay 22 = .ok (.getfield 146, 3) := by decide +kernel
theorem dX12_lay_25 : decode cX12_lay 25 = .ok (.iconst 1, 1) := by decide +kernel
theorem dX12_lay_26 : decode cX12_lay 26 = .ok (.iadd, 1) := by decide +kernel
theorem dX12_lay_27 : decode cX12_lay 27 = .ok (.putfield 146, 3) := by decide +kernel
theorem dX12_lay_30 : decode cX12_lay 30 = .ok (.iinc 2 (-8), 3) := by decide +kernel
theorem dX12_lay_33 : decode cX12_lay 33 = .ok (.goto (-30), 3) := by decide +kernel
theorem dX12_lay_36 : decode cX12_lay 36 = .ok (.return_, 1) := by decide +kernel

set_option maxRecDepth 100000 in
set_option maxHeartbeats 4000000 in
theorem c_X12_lay (S : Hp) (ad : Nat → Nat) (hW : Wd ad S) (v0 : Int32) (t9 : Nat) (hI_1224_ad133 : hI S 1224 (ad 133) = nI t9) (ht : t9 + 4 ≤ 8000) : Ct 1 yX12_lay cX12_lay 3 none 0 0 [.ref (ad 133), .int v0] S (fun r S' => r = none ∧ S' = (sI (tI (sI (tI (sI (tI (sI (tI S (ad 155) t9 (((v0 >>> (24 &&& 31)).toInt8.toInt32).toInt8.toInt32)) 1224 (ad 133) (nI (t9 + 1))) (ad 155) (t9 + 1) (((v0 >>> (16 &&& 31)).toInt8.toInt32).toInt8.toInt32)) 1224 (ad 133) (nI ((t9 + 1) + 1))) (ad 155) ((t9 + 1) + 1) (((v0 >>> (8 &&& 31)).toInt8.toInt32).toInt8.toInt32)) 1224 (ad 133) (nI (((t9 + 1) + 1) + 1))) (ad 155) (((t9 + 1) + 1) + 1) (((v0 >>> (0 &&& 31)).toInt8.toInt32).toInt8.toInt32)) 1224 (ad 133) (nI ((((t9 + 1) + 1) + 1) + 1)))) := by
  refine ct_of (by decide) (Nat.le_of_ble_eq_true rfl) fun x hn9 C M hm9 => ?_
  have C : CB x RX12 cX12_lay := C
  refine J.eq (lv' := [(0, .ref (ad 133)), (1, .int v0)]) rfl rfl rfl ?_
  refine j_bipush (v := 24) C dX12_lay_0 (by decide) ?_
  refine j_istore_n (lv' := [(2, .int 24), (0, .ref (ad 133)), (1, .int v0)]) C dX12_lay_2 rfl (by rw [hn9]; decide) rfl ?_
  refine j_iload_n C dX12_lay_3 rfl 0 rfl ?_
  refine j_if_lt (tgt := 36) C dX12_lay_4 (by decide) (fun c9 => absurd c9 (by decide)) (fun c9 => ?_)
  refine j_aload_n C dX12_lay_7 rfl 1 rfl ?_
  refine j_getr (f := 1223) (v := (ad 155)) C flX12_75 dX12_lay_8 (wm_133 (S := S) hW) (wk_133 (S := S) hW) (by decide) rfl (wr_1223_133 (S := S) hW) ?_
  refine j_aload_n C dX12_lay_11 rfl 1 rfl ?_
  refine j_geti (f := 1224) (v := nI t9) C flX12_146 dX12_lay_12 (wm_133 (S := S) hW) (wk_133 (S := S) hW) (by decide) (by decide) rfl hI_1224_ad133 ?_
  show J _ _ _ _ _ 15 _
  refine j_iload_n C dX12_lay_15 rfl 2 rfl ?_
  refine j_iload_n C dX12_lay_16 rfl 0 rfl ?_
  refine j_ishr C dX12_lay_17 rfl ?_
  refine j_i2b C dX12_lay_18 rfl ?_
  refine j_bast (j := t9) C dX12_lay_19 (wm_155 (S := S) hW) (wk_155 (S := S) hW) (inr_of (n := 8000) (wl_155 (S := S) hW) (vp_in_nI (by omega) (by omega))) (nI_clamp (by omega)) ?_
  refine j_aload_n C dX12_lay_20 rfl 1 rfl ?_
  refine j_dup C dX12_lay_21 rfl ?_
  refine j_geti (f := 1224) (v := nI t9) C flX12_146 dX12_lay_22 (wm_133 (S := S) hW) (wk_133 (S := S) hW) (by decide) (by decide) rfl hI_1224_ad133 ?_
  show J _ _ _ _ _ 25 _
  refine j_iconst (v := 1) C dX12_lay_25 (by decide) ?_
  refine j_iadd (v := nI (t9 + 1)) C dX12_lay_26 (nI_add t9 1) ?_
  refine j_puti (f := 1224) C flX12_146 (by decide) rfl rfl dX12_lay_27 (wm_133 (S := S) hW) (wk_133 (S := S) hW) rfl ?_
  refine j_iinc (q := 0) (v := 16) (lv' := [(2, .int 16), (0, .ref (ad 133)), (1, .int v0)]) C dX12_lay_30 rfl (by decide) (by rw [hn9]; decide) rfl ?_
  refine j_goto (tgt := 3) C dX12_lay_33 (by decide) ?_
  refine j_iload_n C dX12_lay_3 rfl 0 rfl ?_
  refine j_if_lt (tgt := 36) C dX12_lay_4 (by decide) (fun c9 => absurd c9 (by decide)) (fun c9 => ?_)
  refine j_aload_n C dX12_lay_7 rfl 1 rfl ?_
  show J _ _ _ _ _ 8 _
  refine j_getr (f := 1223) (v := (ad 155)) C flX12_75 dX12_lay_8 (wm_133 (S := S) hW) (wk_133 (S := S) hW) (by decide) rfl (wr_1223_133 (S := S) hW) ?_
  refine j_aload_n C dX12_lay_11 rfl 1 rfl ?_
  refine j_geti (f := 1224) (v := nI (t9 + 1)) C flX12_146 dX12_lay_12 (wm_133 (S := S) hW) (wk_133 (S := S) hW) (by decide) (by decide) rfl (rd_sI (S := (tI S (ad 155) t9 (((v0 >>> (24 &&& 31)).toInt8.toInt32).toInt8.toInt32))) (g := 1224) (a := (ad 133)) (v := nI (t9 + 1))) ?_
  refine j_iload_n C dX12_lay_15 rfl 2 rfl ?_
  refine j_iload_n C dX12_lay_16 rfl 0 rfl ?_
  refine j_ishr C dX12_lay_17 rfl ?_
  refine j_i2b C dX12_lay_18 rfl ?_
  refine j_bast (j := (t9 + 1)) C dX12_lay_19 (wm_155 (S := S) hW) (wk_155 (S := S) hW) (inr_of (n := 8000) (wl_155 (S := S) hW) (vp_in_nI (by omega) (by omega))) (nI_clamp (by omega)) ?_
  show J _ _ _ _ _ 20 _
  obtain ⟨S_1, eS_2⟩ : ∃ S9 : Hp, S9 = (tI (sI (tI S (ad 155) t9 (((v0 >>> (24 &&& 31)).toInt8.toInt32).toInt8.toInt32)) 1224 (ad 133) (nI (t9 + 1))) (ad 155) (t9 + 1) (((v0 >>> (16 &&& 31)).toInt8.toInt32).toInt8.toInt32)) := ⟨_, rfl⟩
  refine J.eq (S' := S_1) eS_2.symm rfl rfl ?_
  have hv_3 : hI S_1 1224 (ad 133) = nI (t9 + 1) := by rw [eS_2]; exact (rd_sI (S := (tI S (ad 155) t9 (((v0 >>> (24 &&& 31)).toInt8.toInt32).toInt8.toInt32))) (g := 1224) (a := (ad 133)) (v := nI (t9 + 1)))
  have hW_4 : Wd ad S_1 := by rw [eS_2]; exact (Wd.tI (Wd.sI (Wd.tI hW)))
  refine j_aload_n C dX12_lay_20 rfl 1 rfl ?_
  refine j_dup C dX12_lay_21 rfl ?_
  refine j_geti (f := 1224) (v := nI (t9 + 1)) C flX12_146 dX12_lay_22 (wm_133 (S := S_1) hW_4) (wk_133 (S := S_1) hW_4) (by decide) (by decide) rfl hv_3 ?_
  refine j_iconst (v := 1) C dX12_lay_25 (by decide) ?_
  refine j_iadd (v := nI ((t9 + 1) + 1)) C dX12_lay_26 (nI_add (t9 + 1) 1) ?_
  refine j_puti (f := 1224) C flX12_146 (by decide) rfl rfl dX12_lay_27 (wm_133 (S := S_1) hW_4) (wk_133 (S := S_1) hW_4) rfl ?_
  refine j_iinc (q := 0) (v := 8) (lv' := [(2, .int 8), (0, .ref (ad 133)), (1, .int v0)]) C dX12_lay_30 rfl (by decide) (by rw [hn9]; decide) rfl ?_
  refine j_goto (tgt := 3) C dX12_lay_33 (by decide) ?_
  show J _ _ _ _ _ 3 _
  refine j_iload_n C dX12_lay_3 rfl 0 rfl ?_
  refine j_if_lt (tgt := 36) C dX12_lay_4 (by decide) (fun c9 => absurd c9 (by decide)) (fun c9 => ?_)
  refine j_aload_n C dX12_lay_7 rfl 1 rfl ?_
  refine j_getr (f := 1223) (v := (ad 155)) C flX12_75 dX12_lay_8 (wm_133 (S := S_1) hW_4) (wk_133 (S := S_1) hW_4) (by decide) rfl (wr_1223_133 (S := S_1) hW_4) ?_
  refine j_aload_n C dX12_lay_11 rfl 1 rfl ?_
  refine j_geti (f := 1224) (v := nI ((t9 + 1) + 1)) C flX12_146 dX12_lay_12 (wm_133 (S := S_1) hW_4) (wk_133 (S := S_1) hW_4) (by decide) (by decide) rfl (rd_sI (S := S_1) (g := 1224) (a := (ad 133)) (v := nI ((t9 + 1) + 1))) ?_
  refine j_iload_n C dX12_lay_15 rfl 2 rfl ?_
  refine j_iload_n C dX12_lay_16 rfl 0 rfl ?_
  show J _ _ _ _ _ 17 _
  refine j_ishr C dX12_lay_17 rfl ?_
  refine j_i2b C dX12_lay_18 rfl ?_
  refine j_bast (j := ((t9 + 1) + 1)) C dX12_lay_19 (wm_155 (S := S_1) hW_4) (wk_155 (S := S_1) hW_4) (inr_of (n := 8000) (wl_155 (S := S_1) hW_4) (vp_in_nI (by omega) (by omega))) (nI_clamp (by omega)) ?_
  refine j_aload_n C dX12_lay_20 rfl 1 rfl ?_
  refine j_dup C dX12_lay_21 rfl ?_
  refine j_geti (f := 1224) (v := nI ((t9 + 1) + 1)) C flX12_146 dX12_lay_22 (wm_133 (S := S_1) hW_4) (wk_133 (S := S_1) hW_4) (by decide) (by decide) rfl (rd_sI (S := S_1) (g := 1224) (a := (ad 133)) (v := nI ((t9 + 1) + 1))) ?_
  refine j_iconst (v := 1) C dX12_lay_25 (by decide) ?_
  refine j_iadd (v := nI (((t9 + 1) + 1) + 1)) C dX12_lay_26 (nI_add ((t9 + 1) + 1) 1) ?_
  show J _ _ _ _ _ 27 _
  refine j_puti (f := 1224) C flX12_146 (by decide) rfl rfl dX12_lay_27 (wm_133 (S := S_1) hW_4) (wk_133 (S := S_1) hW_4) rfl ?_
  obtain ⟨S_5, eS_6⟩ : ∃ S9 : Hp, S9 = (sI (tI (sI S_1 1224 (ad 133) (nI ((t9 + 1) + 1))) (ad 155) ((t9 + 1) + 1) (((v0 >>> (8 &&& 31)).toInt8.toInt32).toInt8.toInt32)) 1224 (ad 133) (nI (((t9 + 1) + 1) + 1))) := ⟨_, rfl⟩
  refine J.eq (S' := S_5) eS_6.symm rfl rfl ?_
  have hv_7 : hI S_5 1224 (ad 133) = nI (((t9 + 1) + 1) + 1) := by rw [eS_6]; exact (rd_sI (S := (tI (sI S_1 1224 (ad 133) (nI ((t9 + 1) + 1))) (ad 155) ((t9 + 1) + 1) (((v0 >>> (8 &&& 31)).toInt8.toInt32).toInt8.toInt32))) (g := 1224) (a := (ad 133)) (v := nI (((t9 + 1) + 1) + 1)))
  have hW_8 : Wd ad S_5 := by rw [eS_6]; exact (Wd.sI (Wd.tI (Wd.sI hW_4)))
  refine j_iinc (q := 0) (v := 0) (lv' := [(2, .int 0), (0, .ref (ad 133)), (1, .int v0)]) C dX12_lay_30 rfl (by decide) (by rw [hn9]; decide) rfl ?_
  refine j_goto (tgt := 3) C dX12_lay_33 (by decide) ?_
  refine j_iload_n C dX12_lay_3 rfl 0 rfl ?_
  refine j_if_lt (tgt := 36) C dX12_lay_4 (by decide) (fun c9 => absurd c9 (by decide)) (fun c9 => ?_)
  refine j_aload_n C dX12_lay_7 rfl 1 rfl ?_
  refine j_getr (f := 1223) (v := (ad 155)) C flX12_75 dX12_lay_8 (wm_133 (S := S_5) hW_8) (wk_133 (S := S_5) hW_8) (by decide) rfl (wr_1223_133 (S := S_5) hW_8) ?_
  refine j_aload_n C dX12_lay_11 rfl 1 rfl ?_
  show J _ _ _ _ _ 12 _
  refine j_geti (f := 1224) (v := nI (((t9 + 1) + 1) + 1)) C flX12_146 dX12_lay_12 (wm_133 (S := S_5) hW_8) (wk_133 (S := S_5) hW_8) (by decide) (by decide) rfl hv_7 ?_
  refine j_iload_n C dX12_lay_15 rfl 2 rfl ?_
  refine j_iload_n C dX12_lay_16 rfl 0 rfl ?_
  refine j_ishr C dX12_lay_17 rfl ?_
  refine j_i2b C dX12_lay_18 rfl ?_
  refine j_bast (j := (((t9 + 1) + 1) + 1)) C dX12_lay_19 (wm_155 (S := S_5) hW_8) (wk_155 (S := S_5) hW_8) (inr_of (n := 8000) (wl_155 (S := S_5) hW_8) (vp_in_nI (by omega) (by omega))) (nI_clamp (by omega)) ?_
  refine j_aload_n C dX12_lay_20 rfl 1 rfl ?_
  refine j_dup C dX12_lay_21 rfl ?_
  show J _ _ _ _ _ 22 _
  refine j_geti (f := 1224) (v := nI (((t9 + 1) + 1) + 1)) C flX12_146 dX12_lay_22 (wm_133 (S := S_5) hW_8) (wk_133 (S := S_5) hW_8) (by decide) (by decide) rfl hv_7 ?_
  refine j_iconst (v := 1) C dX12_lay_25 (by decide) ?_
  refine j_iadd (v := nI ((((t9 + 1) + 1) + 1) + 1)) C dX12_lay_26 (nI_add (((t9 + 1) + 1) + 1) 1) ?_
  refine j_puti (f := 1224) C flX12_146 (by decide) rfl rfl dX12_lay_27 (wm_133 (S := S_5) hW_8) (wk_133 (S := S_5) hW_8) rfl ?_
  refine j_iinc (q := 0) (v := (-8)) (lv' := [(2, .int (-8)), (0, .ref (ad 133)), (1, .int v0)]) C dX12_lay_30 rfl (by decide) (by rw [hn9]; decide) rfl ?_
  refine j_goto (tgt := 3) C dX12_lay_33 (by decide) ?_
  refine j_iload_n C dX12_lay_3 rfl 0 rfl ?_
  refine j_if_lt (tgt := 36) C dX12_lay_4 (by decide) (fun c9 => ?_) (fun c9 => absurd (by decide) c9)
  show J _ _ _ _ _ 36 _
  exact j_vret C M dX12_lay_36 (by decide) (by decide) (by subst eS_6; subst eS_2; exact ⟨rfl, rfl⟩)

theorem dX11_feedNumber_0 : decode cX11_feedNumber 0 = .ok (.bipush 24, 2) := by decide +kernel
theorem dX11_feedNumber_2 : decode cX11_feedNumber 2 = .ok (.istore_n 2, 1) := by decide +kernel
theorem dX11_feedNumber_3 : decode cX11_feedNumber 3 = .ok (.iload_n 2, 1) := by decide +kernel
theorem dX11_feedNumber_4 : decode cX11_feedNumber 4 = .ok (.ifCond .lt 51, 3) := by decide +kernel
theorem dX11_feedNumber_7 : decode cX11_feedNumber 7 = .ok (.aload_n 0, 1) := by decide +kernel
theorem dX11_feedNumber_8 : decode cX11_feedNumber 8 = .ok (.getfield 53, 3) := by decide +kernel
theorem dX11_feedNumber_11 : decode cX11_feedNumber 11 = .ok (.ifCond .lt 38, 3) := by decide +kernel
theorem dX11_feedNumber_14 : decode cX11_feedNumber 14 = .ok (.aload_n 0, 1) := by decide +kernel
theorem dX11_feedNumber_15 : decode cX11_feedNumber 15 = .ok (.getfield 53, 3) := by decide +kernel
theorem dX11_feedNumber_18 : decode cX11_feedNumber 18 = .ok (.aload_n 0, 1) := by decide +kernel
theorem dX11_feedNumber_19 : decode cX11_feedNumber 19 = .ok (.getfield 9, 3) := by decide +kernel
theorem dX11_feedNumber_22 : decode cX11_feedNumber 22 = .ok (.arraylength, 1) := by decide +kernel
theorem dX11_feedNumber_23 : decode cX11_feedNumber 23 = .ok (.if_icmp .ge 26, 3) := by decide +kernel
theorem dX11_feedNumber_26 : decode cX11_feedNumber 26 = .ok (.aload_n 0, 1) := by decide +kernel
theorem dX11_feedNumber_27 : decode cX11_feedNumber 27 = .ok (.getfield 9, 3) := by decide +kernel
theorem dX11_feedNumber_30 : decode cX11_feedNumber 30 = .ok (.aload_n 0, 1) := by decide +kernel
theorem dX11_feedNumber_31 : decode cX11_feedNumber 31 = .ok (.getfield 53, 3) := by decide +kernel
theorem dX11_feedNumber_34 : decode cX11_feedNumber 34 = .ok (.iload_n 1, 1) := by decide +kernel
theorem dX11_feedNumber_35 : decode cX11_feedNumber 35 = .ok (.iload_n 2, 1) := by decide +kernel
theorem dX11_feedNumber_36 : decode cX11_feedNumber 36 = .ok (.ishr, 1) := by decide +kernel
theorem dX11_feedNumber_37 : decode cX11_feedNumber 37 = .ok (.i2b, 1) := by decide +kernel
theorem dX11_feedNumber_38 : decode cX11_feedNumber 38 = .ok (.bastore, 1) := by decide +kernel
theorem dX11_feedNumber_39 : decode cX11_feedNumber 39 = .ok (.aload_n 0, 1) := by decide +kernel
theorem dX11_feedNumber_40 : decode cX11_feedNumber 40 = .ok (.dup, 1) := by decide +kernel
theorem dX11_feedNumber_41 : decode cX11_feedNumber 41 = .ok (.getfield 53, 3) := by decide +kernel
theorem dX11_feedNumber_44 : decode cX11_feedNumber 44 = .ok (.iconst 1, 1) := by decide +kernel
theorem dX11_feedNumber_45 : decode cX11_feedNumber 45 = .ok (.iadd, 1) := by decide +kernel
theorem dX11_feedNumber_46 : decode cX11_feedNumber 46 = .ok (.putfield 53, 3) := by decide +kernel
theorem dX11_feedNumber_49 : decode cX11_feedNumber 49 = .ok (.iinc 2 (-8), 3) := by decide +kernel
theorem dX11_feedNumber_52 : decode cX11_feedNumber 52 = .ok (.goto (-49), 3) := by decide +kernel
theorem dX11_feedNumber_55 : decode cX11_feedNumber 55 = .ok (.return_, 1) := by decide +kernel

set_option maxRecDepth 100000 in
set_option maxHeartbeats 4000000 in
theorem c_X11_feedNumber (S : Hp) (ad : Nat → Nat) (hW : Wd ad S) (v0 : Int32) (t9 : Nat) (hI_1101_ad0 : hI S 1101 (ad 0) = nI t9) (ht : t9 + 4 ≤ 8000) : Ct 1 yX11_feedNumber cX11_feedNumber 3 none 0 0 [.ref (ad 0), .int v0] S (fun r S' => r = none ∧ S' = (sI (tI (sI (tI (sI (tI (sI (tI S (ad 1) t9 (((v0 >>> (24 &&& 31)).toInt8.toInt32).toInt8.toInt32)) 1101 (ad 0) (nI (t9 + 1))) (ad 1) (t9 + 1) (((v0 >>> (16 &&& 31)).toInt8.toInt32).toInt8.toInt32)) 1101 (ad 0) (nI ((t9 + 1) + 1))) (ad 1) ((t9 + 1) + 1) (((v0 >>> (8 &&& 31)).toInt8.toInt32).toInt8.toInt32)) 1101 (ad 0) (nI (((t9 + 1) + 1) + 1))) (ad 1) (((t9 + 1) + 1) + 1) (((v0 >>> (0 &&& 31)).toInt8.toInt32).toInt8.toInt32)) 1101 (ad 0) (nI ((((t9 + 1) + 1) + 1) + 1)))) := by
  refine ct_of (by decide) (Nat.le_of_ble_eq_true rfl) fun x hn9 C M hm9 => ?_
  have C : CB x RX11 cX11_feedNumber := C
  refine J.eq (lv' := [(0, .ref (ad 0)), (1, .int v0)]) rfl rfl rfl ?_
  refine j_bipush (v := 24) C dX11_feedNumber_0 (by decide) ?_
  refine j_istore_n (lv' := [(2, .int 24), (0, .ref (ad 0)), (1, .int v0)]) C dX11_feedNumber_2 rfl (by rw [hn9]; decide) rfl ?_
  refine j_iload_n C dX11_feedNumber_3 rfl 0 rfl ?_
  refine j_if_lt (tgt := 55) C dX11_feedNumber_4 (by decide) (fun c9 => absurd c9 (by decide)) (fun c9 => ?_)
  refine j_aload_n C dX11_feedNumber_7 rfl 1 rfl ?_
  refine j_geti (f := 1101) (v := nI t9) C flX11_53 dX11_feedNumber_8 (wm_0 (S := S) hW) (wk_0 (S := S) hW) (by decide) (by decide) rfl hI_1101_ad0 ?_
  refine j_if_lt (tgt := 49) C dX11_feedNumber_11 (by decide) (fun c_11 => absurd c_11 (nI_pos (by omega))) (fun c_11 => ?_)
  refine j_aload_n C dX11_feedNumber_14 rfl 1 rfl ?_
  show J _ _ _ _ _ 15 _
  refine j_geti (f := 1101) (v := nI t9) C flX11_53 dX11_feedNumber_15 (wm_0 (S := S) hW) (wk_0 (S := S) hW) (by decide) (by decide) rfl hI_1101_ad0 ?_
  refine j_aload_n C dX11_feedNumber_18 rfl 1 rfl ?_
  refine j_getr (f := 1100) (v := (ad 1)) C flX11_9 dX11_feedNumber_19 (wm_0 (S := S) hW) (wk_0 (S := S) hW) (by decide) rfl (wr_1100_0 (S := S) hW) ?_
  refine j_alen (v := 8000) C dX11_feedNumber_22 (wm_1 (S := S) hW) (wk_1 (S := S) hW) (by decide) (by decide) (len_of (n := 8000) (wl_1 (S := S) hW) (by decide)) ?_
  refine j_ic_ge (tgt := 49) C dX11_feedNumber_23 (by decide) (fun c_23 => absurd c_23 (nI_ge (b := 8000) (by omega) (by decide))) (fun c_23 => ?_)
  refine j_aload_n C dX11_feedNumber_26 rfl 1 rfl ?_
  refine j_getr (f := 1100) (v := (ad 1)) C flX11_9 dX11_feedNumber_27 (wm_0 (S := S) hW) (wk_0 (S := S) hW) (by decide) rfl (wr_1100_0 (S := S) hW) ?_
  refine j_aload_n C dX11_feedNumber_30 rfl 1 rfl ?_
  show J _ _ _ _ _ 31 _
  refine j_geti (f := 1101) (v := nI t9) C flX11_53 dX11_feedNumber_31 (wm_0 (S := S) hW) (wk_0 (S := S) hW) (by decide) (by decide) rfl hI_1101_ad0 ?_
  refine j_iload_n C dX11_feedNumber_34 rfl 2 rfl ?_
  refine j_iload_n C dX11_feedNumber_35 rfl 0 rfl ?_
  refine j_ishr C dX11_feedNumber_36 rfl ?_
  refine j_i2b C dX11_feedNumber_37 rfl ?_
  refine j_bast (j := t9) C dX11_feedNumber_38 (wm_1 (S := S) hW) (wk_1 (S := S) hW) (inr_of (n := 8000) (wl_1 (S := S) hW) (vp_in_nI (by omega) (by omega))) (nI_clamp (by omega)) ?_
  refine j_aload_n C dX11_feedNumber_39 rfl 1 rfl ?_
  refine j_dup C dX11_feedNumber_40 rfl ?_
  show J _ _ _ _ _ 41 _
  refine j_geti (f := 1101) (v := nI t9) C flX11_53 dX11_feedNumber_41 (wm_0 (S := S) hW) (wk_0 (S := S) hW) (by decide) (by decide) rfl hI_1101_ad0 ?_
  refine j_iconst (v := 1) C dX11_feedNumber_44 (by decide) ?_
  refine j_iadd (v := nI (t9 + 1)) C dX11_feedNumber_45 (nI_add t9 1) ?_
  refine j_puti (f := 1101) C flX11_53 (by decide) rfl rfl dX11_feedNumber_46 (wm_0 (S := S) hW) (wk_0 (S := S) hW) rfl ?_
  refine j_iinc (q := 0) (v := 16) (lv' := [(2, .int 16), (0, .ref (ad 0)), (1, .int v0)]) C dX11_feedNumber_49 rfl (by decide) (by rw [hn9]; decide) rfl ?_
  refine j_goto (tgt := 3) C dX11_feedNumber_52 (by decide) ?_
  refine j_iload_n C dX11_feedNumber_3 rfl 0 rfl ?_
  refine j_if_lt (tgt := 55) C dX11_feedNumber_4 (by decide) (fun c9 => absurd c9 (by decide)) (fun c9 => ?_)
  show J _ _ _ _ _ 7 _
  refine j_aload_n C dX11_feedNumber_7 rfl 1 rfl ?_
  refine j_geti (f := 1101) (v := nI (t9 + 1)) C flX11_53 dX11_feedNumber_8 (wm_0 (S := S) hW) (wk_0 (S := S) hW) (by decide) (by decide) rfl (rd_sI (S := (tI S (ad 1) t9 (((v0 >>> (24 &&& 31)).toInt8.toInt32).toInt8.toInt32))) (g := 1101) (a := (ad 0)) (v := nI (t9 + 1))) ?_
  refine j_if_lt (tgt := 49) C dX11_feedNumber_11 (by decide) (fun c_11 => absurd c_11 (nI_pos (by omega))) (fun c_11 => ?_)
  refine j_aload_n C dX11_feedNumber_14 rfl 1 rfl ?_
  refine j_geti (f := 1101) (v := nI (t9 + 1)) C flX11_53 dX11_feedNumber_15 (wm_0 (S := S) hW) (wk_0 (S := S) hW) (by decide) (by decide) rfl (rd_sI (S := (tI S (ad 1) t9 (((v0 >>> (24 &&& 31)).toInt8.toInt32).toInt8.toInt32))) (g := 1101) (a := (ad 0)) (v := nI (t9 + 1))) ?_
  refine j_aload_n C dX11_feedNumber_18 rfl 1 rfl ?_
  refine j_getr (f := 1100) (v := (ad 1)) C flX11_9 dX11_feedNumber_19 (wm_0 (S := S) hW) (wk_0 (S := S) hW) (by decide) rfl (wr_1100_0 (S := S) hW) ?_
  refine j_alen (v := 8000) C dX11_feedNumber_22 (wm_1 (S := S) hW) (wk_1 (S := S) hW) (by decide) (by decide) (len_of (n := 8000) (wl_1 (S := S) hW) (by decide)) ?_
  show J _ _ _ _ _ 23 _
  refine j_ic_ge (tgt := 49) C dX11_feedNumber_23 (by decide) (fun c_23 => absurd c_23 (nI_ge (b := 8000) (by omega) (by decide))) (fun c_23 => ?_)
  refine j_aload_n C dX11_feedNumber_26 rfl 1 rfl ?_
  refine j_getr (f := 1100) (v := (ad 1)) C flX11_9 dX11_feedNumber_27 (wm_0 (S := S) hW) (wk_0 (S := S) hW) (by decide) rfl (wr_1100_0 (S := S) hW) ?_
  refine j_aload_n C dX11_feedNumber_30 rfl 1 rfl ?_
  refine j_geti (f := 1101) (v := nI (t9 + 1)) C flX11_53 dX11_feedNumber_31 (wm_0 (S := S) hW) (wk_0 (S := S) hW) (by decide) (by decide) rfl (rd_sI (S := (tI S (ad 1) t9 (((v0 >>> (24 &&& 31)).toInt8.toInt32).toInt8.toInt32))) (g := 1101) (a := (ad 0)) (v := nI (t9 + 1))) ?_
  refine j_iload_n C dX11_feedNumber_34 rfl 2 rfl ?_
  refine j_iload_n C dX11_feedNumber_35 rfl 0 rfl ?_
  refine j_ishr C dX11_feedNumber_36 rfl ?_
  show J _ _ _ _ _ 37 _
  refine j_i2b C dX11_feedNumber_37 rfl ?_
  refine j_bast (j := (t9 + 1)) C dX11_feedNumber_38 (wm_1 (S := S) hW) (wk_1 (S := S) hW) (inr_of (n := 8000) (wl_1 (S := S) hW) (vp_in_nI (by omega) (by omega))) (nI_clamp (by omega)) ?_
  obtain ⟨S_1, eS_2⟩ : ∃ S9 : Hp, S9 = (tI (sI (tI S (ad 1) t9 (((v0 >>> (24 &&& 31)).toInt8.toInt32).toInt8.toInt32)) 1101 (ad 0) (nI (t9 + 1))) (ad 1) (t9 + 1) (((v0 >>> (16 &&& 31)).toInt8.toInt32).toInt8.toInt32)) := ⟨_, rfl⟩
  refine J.eq (S' := S_1) eS_2.symm rfl rfl ?_
  have hv_3 : hI S_1 1101 (ad 0) = nI (t9 + 1) := by rw [eS_2]; exact (rd_sI (S := (tI S (ad 1) t9 (((v0 >>> (24 &&& 31)).toInt8.toInt32).toInt8.toInt32))) (g := 1101) (a := (ad 0)) (v := nI (t9 + 1)))
  have hW_4 : Wd ad S_1 := by rw [eS_2]; exact (Wd.tI (Wd.sI (Wd.tI hW)))
  refine j_aload_n C dX11_feedNumber_39 rfl 1 rfl ?_
  refine j_dup C dX11_feedNumber_40 rfl ?_
  refine j_geti (f := 1101) (v := nI (t9 + 1)) C flX11_53 dX11_feedNumber_41 (wm_0 (S := S_1) hW_4) (wk_0 (S := S_1) hW_4) (by decide) (by decide) rfl hv_3 ?_
  refine j_iconst (v := 1) C dX11_feedNumber_44 (by decide) ?_
  refine j_iadd (v := nI ((t9 + 1) + 1)) C dX11_feedNumber_45 (nI_add (t9 + 1) 1) ?_
  refine j_puti (f := 1101) C flX11_53 (by decide) rfl rfl dX11_feedNumber_46 (wm_0 (S := S_1) hW_4) (wk_0 (S := S_1) hW_4) rfl ?_
  show J _ _ _ _ _ 49 _
  refine j_iinc (q := 0) (v := 8) (lv' := [(2, .int 8), (0, .ref (ad 0)), (1, .int v0)]) C dX11_feedNumber_49 rfl (by decide) (by rw [hn9]; decide) rfl ?_
  refine j_goto (tgt := 3) C dX11_feedNumber_52 (by decide) ?_
  refine j_iload_n C dX11_feedNumber_3 rfl 0 rfl ?_
  refine j_if_lt (tgt := 55) C dX11_feedNumber_4 (by decide) (fun c9 => absurd c9 (by decide)) (fun c9 => ?_)
  refine j_aload_n C dX11_feedNumber_7 rfl 1 rfl ?_
  refine j_geti (f := 1101) (v := nI ((t9 + 1) + 1)) C flX11_53 dX11_feedNumber_8 (wm_0 (S := S_1) hW_4) (wk_0 (S := S_1) hW_4) (by decide) (by decide) rfl (rd_sI (S := S_1) (g := 1101) (a := (ad 0)) (v := nI ((t9 + 1) + 1))) ?_
  refine j_if_lt (tgt := 49) C dX11_feedNumber_11 (by decide) (fun c_11 => absurd c_11 (nI_pos (by omega))) (fun c_11 => ?_)
  refine j_aload_n C dX11_feedNumber_14 rfl 1 rfl ?_
  show J _ _ _ _ _ 15 _
  refine j_geti (f := 1101) (v := nI ((t9 + 1) + 1)) C flX11_53 dX11_feedNumber_15 (wm_0 (S := S_1) hW_4) (wk_0 (S := S_1) hW_4) (by decide) (by decide) rfl (rd_sI (S := S_1) (g := 1101) (a := (ad 0)) (v := nI ((t9 + 1) + 1))) ?_
  refine j_aload_n C dX11_feedNumber_18 rfl 1 rfl ?_
  refine j_getr (f := 1100) (v := (ad 1)) C flX11_9 dX11_feedNumber_19 (wm_0 (S := S_1) hW_4) (wk_0 (S := S_1) hW_4) (by decide) rfl (wr_1100_0 (S := S_1) hW_4) ?_
  refine j_alen (v := 8000) C dX11_feedNumber_22 (wm_1 (S := S_1) hW_4) (wk_1 (S := S_1) hW_4) (by decide) (by decide) (len_of (n := 8000) (wl_1 (S := S_1) hW_4) (by decide)) ?_
  refine j_ic_ge (tgt := 49) C dX11_feedNumber_23 (by decide) (fun c_23 => absurd c_23 (nI_ge (b := 8000) (by omega) (by decide))) (fun c_23 => ?_)
  refine j_aload_n C dX11_feedNumber_26 rfl 1 rfl ?_
  refine j_getr (f := 1100) (v := (ad 1)) C flX11_9 dX11_feedNumber_27 (wm_0 (S := S_1) hW_4) (wk_0 (S := S_1) hW_4) (by decide) rfl (wr_1100_0 (S := S_1) hW_4) ?_
  refine j_aload_n C dX11_feedNumber_30 rfl 1 rfl ?_
  show J _ _ _ _ _ 31 _
  refine j_geti (f := 1101) (v := nI ((t9 + 1) + 1)) C flX11_53 dX11_feedNumber_31 (wm_0 (S := S_1) hW_4) (wk_0 (S := S_1) hW_4) (by decide) (by decide) rfl (rd_sI (S := S_1) (g := 1101) (a := (ad 0)) (v := nI ((t9 + 1) + 1))) ?_
  refine j_iload_n C dX11_feedNumber_34 rfl 2 rfl ?_
  refine j_iload_n C dX11_feedNumber_35 rfl 0 rfl ?_
  refine j_ishr C dX11_feedNumber_36 rfl ?_
  refine j_i2b C dX11_feedNumber_37 rfl ?_
  refine j_bast (j := ((t9 + 1) + 1)) C dX11_feedNumber_38 (wm_1 (S := S_1) hW_4) (wk_1 (S := S_1) hW_4) (inr_of (n := 8000) (wl_1 (S := S_1) hW_4) (vp_in_nI (by omega) (by omega))) (nI_clamp (by omega)) ?_
  refine j_aload_n C dX11_feedNumber_39 rfl 1 rfl ?_
  refine j_dup C dX11_feedNumber_40 rfl ?_
  show J _ _ _ _ _ 41 _
  refine j_geti (f := 1101) (v := nI ((t9 + 1) + 1)) C flX11_53 dX11_feedNumber_41 (wm_0 (S := S_1) hW_4) (wk_0 (S := S_1) hW_4) (by decide) (by decide) rfl (rd_sI (S := S_1) (g := 1101) (a := (ad 0)) (v := nI ((t9 + 1) + 1))) ?_
  refine j_iconst (v := 1) C dX11_feedNumber_44 (by decide) ?_
  refine j_iadd (v := nI (((t9 + 1) + 1) + 1)) C dX11_feedNumber_45 (nI_add ((t9 + 1) + 1) 1) ?_
  refine j_puti (f := 1101) C flX11_53 (by decide) rfl rfl dX11_feedNumber_46 (wm_0 (S := S_1) hW_4) (wk_0 (S := S_1) hW_4) rfl ?_
  obtain ⟨S_5, eS_6⟩ : ∃ S9 : Hp, S9 = (sI (tI (sI S_1 1101 (ad 0) (nI ((t9 + 1) + 1))) (ad 1) ((t9 + 1) + 1) (((v0 >>> (8 &&& 31)).toInt8.toInt32).toInt8.toInt32)) 1101 (ad 0) (nI (((t9 + 1) + 1) + 1))) := ⟨_, rfl⟩
  refine J.eq (S' := S_5) eS_6.symm rfl rfl ?_
  have hv_7 : hI S_5 1101 (ad 0) = nI (((t9 + 1) + 1) + 1) := by rw [eS_6]; exact (rd_sI (S := (tI (sI S_1 1101 (ad 0) (nI ((t9 + 1) + 1))) (ad 1) ((t9 + 1) + 1) (((v0 >>> (8 &&& 31)).toInt8.toInt32).toInt8.toInt32))) (g := 1101) (a := (ad 0)) (v := nI (((t9 + 1) + 1) + 1)))
  have hW_8 : Wd ad S_5 := by rw [eS_6]; exact (Wd.sI (Wd.tI (Wd.sI hW_4)))
  refine j_iinc (q := 0) (v := 0) (lv' := [(2, .int 0), (0, .ref (ad 0)), (1, .int v0)]) C dX11_feedNumber_49 rfl (by decide) (by rw [hn9]; decide) rfl ?_
  refine j_goto (tgt := 3) C dX11_feedNumber_52 (by decide) ?_
  refine j_iload_n C dX11_feedNumber_3 rfl 0 rfl ?_
  refine j_if_lt (tgt := 55) C dX11_feedNumber_4 (by decide) (fun c9 => absurd c9 (by decide)) (fun c9 => ?_)
  show J _ _ _ _ _ 7 _
  refine j_aload_n C dX11_feedNumber_7 rfl 1 rfl ?_
  refine j_geti (f := 1101) (v := nI (((t9 + 1) + 1) + 1)) C flX11_53 dX11_feedNumber_8 (wm_0 (S := S_5) hW_8) (wk_0 (S := S_5) hW_8) (by decide) (by decide) rfl hv_7 ?_
  refine j_if_lt (tgt := 49) C dX11_feedNumber_11 (by decide) (fun c_11 => absurd c_11 (nI_pos (by omega))) (fun c_11 => ?_)
  refine j_aload_n C dX11_feedNumber_14 rfl 1 rfl ?_
  refine j_geti (f := 1101) (v := nI (((t9 + 1) + 1) + 1)) C flX11_53 dX11_feedNumber_15 (wm_0 (S := S_5) hW_8) (wk_0 (S := S_5) hW_8) (by decide) (by decide) rfl hv_7 ?_
  refine j_aload_n C dX11_feedNumber_18 rfl 1 rfl ?_
  refine j_getr (f := 1100) (v := (ad 1)) C flX11_9 dX11_feedNumber_19 (wm_0 (S := S_5) hW_8) (wk_0 (S := S_5) hW_8) (by decide) rfl (wr_1100_0 (S := S_5) hW_8) ?_
  refine j_alen (v := 8000) C dX11_feedNumber_22 (wm_1 (S := S_5) hW_8) (wk_1 (S := S_5) hW_8) (by decide) (by decide) (len_of (n := 8000) (wl_1 (S := S_5) hW_8) (by decide)) ?_
  show J _ _ _ _ _ 23 _
  refine j_ic_ge (tgt := 49) C dX11_feedNumber_23 (by decide) (fun c_23 => absurd c_23 (nI_ge (b := 8000) (by omega) (by decide))) (fun c_23 => ?_)
  refine j_aload_n C dX11_feedNumber_26 rfl 1 rfl ?_
  refine j_getr (f := 1100) (v := (ad 1)) C flX11_9 dX11_feedNumber_27 (wm_0 (S := S_5) hW_8) (wk_0 (S := S_5) hW_8) (by decide) rfl (wr_1100_0 (S := S_5) hW_8) ?_
  refine j_aload_n C dX11_feedNumber_30 rfl 1 rfl ?_
  refine j_geti (f := 1101) (v := nI (((t9 + 1) + 1) + 1)) C flX11_53 dX11_feedNumber_31 (wm_0 (S := S_5) hW_8) (wk_0 (S := S_5) hW_8) (by decide) (by decide) rfl hv_7 ?_
  refine j_iload_n C dX11_feedNumber_34 rfl 2 rfl ?_
  refine j_iload_n C dX11_feedNumber_35 rfl 0 rfl ?_
  refine j_ishr C dX11_feedNumber_36 rfl ?_
  show J _ _ _ _ _ 37 _
  refine j_i2b C dX11_feedNumber_37 rfl ?_
  refine j_bast (j := (((t9 + 1) + 1) + 1)) C dX11_feedNumber_38 (wm_1 (S := S_5) hW_8) (wk_1 (S := S_5) hW_8) (inr_of (n := 8000) (wl_1 (S := S_5) hW_8) (vp_in_nI (by omega) (by omega))) (nI_clamp (by omega)) ?_
  refine j_aload_n C dX11_feedNumber_39 rfl 1 rfl ?_
  refine j_dup C dX11_feedNumber_40 rfl ?_
  refine j_geti (f := 1101) (v := nI (((t9 + 1) + 1) + 1)) C flX11_53 dX11_feedNumber_41 (wm_0 (S := S_5) hW_8) (wk_0 (S := S_5) hW_8) (by decide) (by decide) rfl hv_7 ?_
  refine j_iconst (v := 1) C dX11_feedNumber_44 (by decide) ?_
  refine j_iadd (v := nI ((((t9 + 1) + 1) + 1) + 1)) C dX11_feedNumber_45 (nI_add (((t9 + 1) + 1) + 1) 1) ?_
  refine j_puti (f := 1101) C flX11_53 (by decide) rfl rfl dX11_feedNumber_46 (wm_0 (S := S_5) hW_8) (wk_0 (S := S_5) hW_8) rfl ?_
  show J _ _ _ _ _ 49 _
  refine j_iinc (q := 0) (v := (-8)) (lv' := [(2, .int (-8)), (0, .ref (ad 0)), (1, .int v0)]) C dX11_feedNumber_49 rfl (by decide) (by rw [hn9]; decide) rfl ?_
  refine j_goto (tgt := 3) C dX11_feedNumber_52 (by decide) ?_
  refine j_iload_n C dX11_feedNumber_3 rfl 0 rfl ?_
  refine j_if_lt (tgt := 55) C dX11_feedNumber_4 (by decide) (fun c9 => ?_) (fun c9 => absurd (by decide) c9)
  exact j_vret C M dX11_feedNumber_55 (by decide) (by decide) (by subst eS_6; subst eS_2; exact ⟨rfl, rfl⟩)
