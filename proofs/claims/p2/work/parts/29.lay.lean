theorem dX12_lay_0 : decode cX12_lay 0 = .ok (.bipush 24, 2) := by decide +kernel
theorem dX12_lay_2 : decode cX12_lay 2 = .ok (.istore_n 2, 1) := by decide +kernel
theorem dX12_lay_3 : decode cX12_lay 3 = .ok (.iload_n 2, 1) := by decide +kernel
theorem dX12_lay_4 : decode cX12_lay 4 = .ok (.ifCond .lt 32, 3) := by decide +kernel
theorem dX12_lay_7 : decode cX12_lay 7 = .ok (.aload_n 0, 1) := by decide +kernel
theorem dX12_lay_8 : decode cX12_lay 8 = .ok (.getfield 75, 3) := by decide +kernel
theorem dX12_lay_11 : decode cX12_lay 11 = .ok (.aload_n 0, 1) := by decide +kernel
theorem dX12_lay_12 : decode cX12_lay 12 = .ok (.getfield 146, 3) := by decide +kernel
theorem dX12_lay_15 : decode cX12_lay 15 = .ok (.iload_n 1, 1) := by decide +kernel
theorem dX12_lay_16 : decode cX12_lay 16 = .ok (.iload_n 2, 1) := by decide +kernel
theorem dX12_lay_17 : decode cX12_lay 17 = .ok (.ishr, 1) := by decide +kernel
theorem dX12_lay_18 : decode cX12_lay 18 = .ok (.i2b, 1) := by decide +kernel
theorem dX12_lay_19 : decode cX12_lay 19 = .ok (.bastore, 1) := by decide +kernel
theorem dX12_lay_20 : decode cX12_lay 20 = .ok (.aload_n 0, 1) := by decide +kernel
theorem dX12_lay_21 : decode cX12_lay 21 = .ok (.dup, 1) := by decide +kernel
theorem dX12_lay_22 : decode cX12_lay 22 = .ok (.getfield 146, 3) := by decide +kernel
theorem dX12_lay_25 : decode cX12_lay 25 = .ok (.iconst 1, 1) := by decide +kernel
theorem dX12_lay_26 : decode cX12_lay 26 = .ok (.iadd, 1) := by decide +kernel
theorem dX12_lay_27 : decode cX12_lay 27 = .ok (.putfield 146, 3) := by decide +kernel
theorem dX12_lay_30 : decode cX12_lay 30 = .ok (.iinc 2 (-8), 3) := by decide +kernel
theorem dX12_lay_33 : decode cX12_lay 33 = .ok (.goto (-30), 3) := by decide +kernel
theorem dX12_lay_36 : decode cX12_lay 36 = .ok (.return_, 1) := by decide +kernel

set_option maxRecDepth 100000 in
set_option maxHeartbeats 4000000 in
theorem c_X12_lay (S : Hp) (ad : Nat → Nat) (hW : Wd ad S) (v0 : Int32) (t9 : Nat) (hI_1224_ad133 : hI S 1224 (ad 133) = nI t9) (ht : t9 + 4 ≤ 8000) : Ct 1 yX12_lay cX12_lay 3 none 0 0 [.ref (ad 133), .int v0] S (fun r S' => r = none ∧ S' = (sI (tI (sI (tI (sI (tI (sI (tI S (ad 155) t9 (((v0 >>> (24 &&& 31)).toInt8.toInt32).toInt8.toInt32)) 1224 (ad 133) (nI (t9 + 1))) (ad 155) (t9 + 1) (((v0 >>> (16 &&& 31)).toInt8.toInt32).toInt8.toInt32)) 1224 (ad 133) (nI ((t9 + 1) + 1))) (ad 155) ((t9 + 1) + 1) (((v0 >>> (8 &&& 31)).toInt8.toInt32).toInt8.toInt32)) 1224 (ad 133) (nI (((t9 + 1) + 1) + 1))) (ad 155) (((t9 + 1) + 1) + 1) (((v0 >>> (0 &&& 31)).toInt8.toInt32).toInt8.toInt32)) 1224 (ad 133) (nI ((((t9 + 1) + 1) + 1) + 1)))) := by
  refine ct_of (by decide) (Nat.le_of_ble_eq_true rfl) fun x hn9 C M hm9 => ?_
  have C : CB x RX12 cX12_lay := C
  refine J.eq (lv' := [(0, .ref (ad 133)), (1, .int v0)]) rfl rfl rfl ?_
  refine j_bipush (v := 24) C dX12_lay_0 (by decide) ?_
  refine j_istore_n (lv' := [(2, .int 24), (0, .ref (ad 133)), (1, .int v0)]) C dX12_lay_2 rfl (by rw [hn9]; decide) rfl ?_
  refine j_iload_n C dX12_lay_3 rfl 0 rfl ?_
  refine j_if_lt (tgt := 36) C dX12_lay_4 (by decide) (fun c9 => absurd c9 (by decide)) (fun c9 => ?_)
  refine j_aload_n C dX12_lay_7 rfl 1 rfl ?_
  refine j_getr (f := 1223) (v := (ad 155)) C flX12_75 dX12_lay_8 (wm_133 (S := S) hW) (wk_133 (S := S) hW) (by decide) rfl (wr_1223_133 (S := S) hW) ?_
  refine j_aload_n C dX12_lay_11 rfl 1 rfl ?_
  refine j_geti (f := 1224) (v := nI t9) C flX12_146 dX12_lay_12 (wm_133 (S := S) hW) (wk_133 (S := S) hW) (by decide) (by decide) rfl hI_1224_ad133 ?_
  show J _ _ _ _ _ 15 _
  refine j_iload_n C dX12_lay_15 rfl 2 rfl ?_
  refine j_iload_n C dX12_lay_16 rfl 0 rfl ?_
  refine j_ishr C dX12_lay_17 rfl ?_
  refine j_i2b C dX12_lay_18 rfl ?_
  refine j_bast (j := t9) C dX12_lay_19 (wm_155 (S := S) hW) (wk_155 (S := S) hW) (inr_of (n := 8000) (wl_155 (S := S) hW) (vp_in_nI (by omega) (by omega))) (nI_clamp (by omega)) ?_
  refine j_aload_n C dX12_lay_20 rfl 1 rfl ?_
  refine j_dup C dX12_lay_21 rfl ?_
  refine j_geti (f := 1224) (v := nI t9) C flX12_146 dX12_lay_22 (wm_133 (S := S) hW) (wk_133 (S := S) hW) (by decide) (by decide) rfl hI_1224_ad133 ?_
  show J _ _ _ _ _ 25 _
  refine j_iconst (v := 1) C dX12_lay_25 (by decide) ?_
  refine j_iadd (v := nI (t9 + 1)) C dX12_lay_26 (nI_add t9 1) ?_
  refine j_puti (f := 1224) C flX12_146 (by decide) rfl rfl dX12_lay_27 (wm_133 (S := S) hW) (wk_133 (S := S) hW) rfl ?_
  refine j_iinc (q := 0) (v := 16) (lv' := [(2, .int 16), (0, .ref (ad 133)), (1, .int v0)]) C dX12_lay_30 rfl (by decide) (by rw [hn9]; decide) rfl ?_
  refine j_goto (tgt := 3) C dX12_lay_33 (by decide) ?_
  refine j_iload_n C dX12_lay_3 rfl 0 rfl ?_
  refine j_if_lt (tgt := 36) C dX12_lay_4 (by decide) (fun c9 => absurd c9 (by decide)) (fun c9 => ?_)
  refine j_aload_n C dX12_lay_7 rfl 1 rfl ?_
  show J _ _ _ _ _ 8 _
  refine j_getr (f := 1223) (v := (ad 155)) C flX12_75 dX12_lay_8 (wm_133 (S := S) hW) (wk_133 (S := S) hW) (by decide) rfl (wr_1223_133 (S := S) hW) ?_
  refine j_aload_n C dX12_lay_11 rfl 1 rfl ?_
  refine j_geti (f := 1224) (v := nI (t9 + 1)) C flX12_146 dX12_lay_12 (wm_133 (S := S) hW) (wk_133 (S := S) hW) (by decide) (by decide) rfl (rd_sI (S := (tI S (ad 155) t9 (((v0 >>> (24 &&& 31)).toInt8.toInt32).toInt8.toInt32))) (g := 1224) (a := (ad 133)) (v := nI (t9 + 1))) ?_
  refine j_iload_n C dX12_lay_15 rfl 2 rfl ?_
  refine j_iload_n C dX12_lay_16 rfl 0 rfl ?_
  refine j_ishr C dX12_lay_17 rfl ?_
  refine j_i2b C dX12_lay_18 rfl ?_
  refine j_bast (j := (t9 + 1)) C dX12_lay_19 (wm_155 (S := S) hW) (wk_155 (S := S) hW) (inr_of (n := 8000) (wl_155 (S := S) hW) (vp_in_nI (by omega) (by omega))) (nI_clamp (by omega)) ?_
  show J _ _ _ _ _ 20 _
  obtain ⟨S_1, eS_2⟩ : ∃ S9 : Hp, S9 = (tI (sI (tI S (ad 155) t9 (((v0 >>> (24 &&& 31)).toInt8.toInt32).toInt8.toInt32)) 1224 (ad 133) (nI (t9 + 1))) (ad 155) (t9 + 1) (((v0 >>> (16 &&& 31)).toInt8.toInt32).toInt8.toInt32)) := ⟨_, rfl⟩
  refine J.eq (S' := S_1) eS_2.symm rfl rfl ?_
  have hv_3 : hI S_1 1224 (ad 133) = nI (t9 + 1) := by rw [eS_2]; exact (rd_sI (S := (tI S (ad 155) t9 (((v0 >>> (24 &&& 31)).toInt8.toInt32).toInt8.toInt32))) (g := 1224) (a := (ad 133)) (v := nI (t9 + 1)))
  have hW_4 : Wd ad S_1 := by rw [eS_2]; exact (Wd.tI (Wd.sI (Wd.tI hW)))
  refine j_aload_n C dX12_lay_20 rfl 1 rfl ?_
  refine j_dup C dX12_lay_21 rfl ?_
  refine j_geti (f := 1224) (v := nI (t9 + 1)) C flX12_146 dX12_lay_22 (wm_133 (S := S_1) hW_4) (wk_133 (S := S_1) hW_4) (by decide) (by decide) rfl hv_3 ?_
  refine j_iconst (v := 1) C dX12_lay_25 (by decide) ?_
  refine j_iadd (v := nI ((t9 + 1) + 1)) C dX12_lay_26 (nI_add (t9 + 1) 1) ?_
  refine j_puti (f := 1224) C flX12_146 (by decide) rfl rfl dX12_lay_27 (wm_133 (S := S_1) hW_4) (wk_133 (S := S_1) hW_4) rfl ?_
  refine j_iinc (q := 0) (v := 8) (lv' := [(2, .int 8), (0, .ref (ad 133)), (1, .int v0)]) C dX12_lay_30 rfl (by decide) (by rw [hn9]; decide) rfl ?_
  refine j_goto (tgt := 3) C dX12_lay_33 (by decide) ?_
  show J _ _ _ _ _ 3 _
  refine j_iload_n C dX12_lay_3 rfl 0 rfl ?_
  refine j_if_lt (tgt := 36) C dX12_lay_4 (by decide) (fun c9 => absurd c9 (by decide)) (fun c9 => ?_)
  refine j_aload_n C dX12_lay_7 rfl 1 rfl ?_
  refine j_getr (f := 1223) (v := (ad 155)) C flX12_75 dX12_lay_8 (wm_133 (S := S_1) hW_4) (wk_133 (S := S_1) hW_4) (by decide) rfl (wr_1223_133 (S := S_1) hW_4) ?_
  refine j_aload_n C dX12_lay_11 rfl 1 rfl ?_
  refine j_geti (f := 1224) (v := nI ((t9 + 1) + 1)) C flX12_146 dX12_lay_12 (wm_133 (S := S_1) hW_4) (wk_133 (S := S_1) hW_4) (by decide) (by decide) rfl (rd_sI (S := S_1) (g := 1224) (a := (ad 133)) (v := nI ((t9 + 1) + 1))) ?_
  refine j_iload_n C dX12_lay_15 rfl 2 rfl ?_
  refine j_iload_n C dX12_lay_16 rfl 0 rfl ?_
  show J _ _ _ _ _ 17 _
  refine j_ishr C dX12_lay_17 rfl ?_
  refine j_i2b C dX12_lay_18 rfl ?_
  refine j_bast (j := ((t9 + 1) + 1)) C dX12_lay_19 (wm_155 (S := S_1) hW_4) (wk_155 (S := S_1) hW_4) (inr_of (n := 8000) (wl_155 (S := S_1) hW_4) (vp_in_nI (by omega) (by omega))) (nI_clamp (by omega)) ?_
  refine j_aload_n C dX12_lay_20 rfl 1 rfl ?_
  refine j_dup C dX12_lay_21 rfl ?_
  refine j_geti (f := 1224) (v := nI ((t9 + 1) + 1)) C flX12_146 dX12_lay_22 (wm_133 (S := S_1) hW_4) (wk_133 (S := S_1) hW_4) (by decide) (by decide) rfl (rd_sI (S := S_1) (g := 1224) (a := (ad 133)) (v := nI ((t9 + 1) + 1))) ?_
  refine j_iconst (v := 1) C dX12_lay_25 (by decide) ?_
  refine j_iadd (v := nI (((t9 + 1) + 1) + 1)) C dX12_lay_26 (nI_add ((t9 + 1) + 1) 1) ?_
  show J _ _ _ _ _ 27 _
  refine j_puti (f := 1224) C flX12_146 (by decide) rfl rfl dX12_lay_27 (wm_133 (S := S_1) hW_4) (wk_133 (S := S_1) hW_4) rfl ?_
  obtain ⟨S_5, eS_6⟩ : ∃ S9 : Hp, S9 = (sI (tI (sI S_1 1224 (ad 133) (nI ((t9 + 1) + 1))) (ad 155) ((t9 + 1) + 1) (((v0 >>> (8 &&& 31)).toInt8.toInt32).toInt8.toInt32)) 1224 (ad 133) (nI (((t9 + 1) + 1) + 1))) := ⟨_, rfl⟩
  refine J.eq (S' := S_5) eS_6.symm rfl rfl ?_
  have hv_7 : hI S_5 1224 (ad 133) = nI (((t9 + 1) + 1) + 1) := by rw [eS_6]; exact (rd_sI (S := (tI (sI S_1 1224 (ad 133) (nI ((t9 + 1) + 1))) (ad 155) ((t9 + 1) + 1) (((v0 >>> (8 &&& 31)).toInt8.toInt32).toInt8.toInt32))) (g := 1224) (a := (ad 133)) (v := nI (((t9 + 1) + 1) + 1)))
  have hW_8 : Wd ad S_5 := by rw [eS_6]; exact (Wd.sI (Wd.tI (Wd.sI hW_4)))
  refine j_iinc (q := 0) (v := 0) (lv' := [(2, .int 0), (0, .ref (ad 133)), (1, .int v0)]) C dX12_lay_30 rfl (by decide) (by rw [hn9]; decide) rfl ?_
  refine j_goto (tgt := 3) C dX12_lay_33 (by decide) ?_
  refine j_iload_n C dX12_lay_3 rfl 0 rfl ?_
  refine j_if_lt (tgt := 36) C dX12_lay_4 (by decide) (fun c9 => absurd c9 (by decide)) (fun c9 => ?_)
  refine j_aload_n C dX12_lay_7 rfl 1 rfl ?_
  refine j_getr (f := 1223) (v := (ad 155)) C flX12_75 dX12_lay_8 (wm_133 (S := S_5) hW_8) (wk_133 (S := S_5) hW_8) (by decide) rfl (wr_1223_133 (S := S_5) hW_8) ?_
  refine j_aload_n C dX12_lay_11 rfl 1 rfl ?_
  show J _ _ _ _ _ 12 _
  refine j_geti (f := 1224) (v := nI (((t9 + 1) + 1) + 1)) C flX12_146 dX12_lay_12 (wm_133 (S := S_5) hW_8) (wk_133 (S := S_5) hW_8) (by decide) (by decide) rfl hv_7 ?_
  refine j_iload_n C dX12_lay_15 rfl 2 rfl ?_
  refine j_iload_n C dX12_lay_16 rfl 0 rfl ?_
  refine j_ishr C dX12_lay_17 rfl ?_
  refine j_i2b C dX12_lay_18 rfl ?_
  refine j_bast (j := (((t9 + 1) + 1) + 1)) C dX12_lay_19 (wm_155 (S := S_5) hW_8) (wk_155 (S := S_5) hW_8) (inr_of (n := 8000) (wl_155 (S := S_5) hW_8) (vp_in_nI (by omega) (by omega))) (nI_clamp (by omega)) ?_
  refine j_aload_n C dX12_lay_20 rfl 1 rfl ?_
  refine j_dup C dX12_lay_21 rfl ?_
  show J _ _ _ _ _ 22 _
  refine j_geti (f := 1224) (v := nI (((t9 + 1) + 1) + 1)) C flX12_146 dX12_lay_22 (wm_133 (S := S_5) hW_8) (wk_133 (S := S_5) hW_8) (by decide) (by decide) rfl hv_7 ?_
  refine j_iconst (v := 1) C dX12_lay_25 (by decide) ?_
  refine j_iadd (v := nI ((((t9 + 1) + 1) + 1) + 1)) C dX12_lay_26 (nI_add (((t9 + 1) + 1) + 1) 1) ?_
  refine j_puti (f := 1224) C flX12_146 (by decide) rfl rfl dX12_lay_27 (wm_133 (S := S_5) hW_8) (wk_133 (S := S_5) hW_8) rfl ?_
  refine j_iinc (q := 0) (v := (-8)) (lv' := [(2, .int (-8)), (0, .ref (ad 133)), (1, .int v0)]) C dX12_lay_30 rfl (by decide) (by rw [hn9]; decide) rfl ?_
  refine j_goto (tgt := 3) C dX12_lay_33 (by decide) ?_
  refine j_iload_n C dX12_lay_3 rfl 0 rfl ?_
  refine j_if_lt (tgt := 36) C dX12_lay_4 (by decide) (fun c9 => ?_) (fun c9 => absurd (by decide) c9)
  show J _ _ _ _ _ 36 _
  exact j_vret C M dX12_lay_36 (by decide) (by decide) (by subst eS_6; subst eS_2; exact ⟨rfl, rfl⟩)
