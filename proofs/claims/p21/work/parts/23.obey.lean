theorem dX9_moveAcross_0 : decode cX9_moveAcross 0 = .ok (.aload_n 0, 1) := by decide +kernel
theorem dX9_moveAcross_1 : decode cX9_moveAcross 1 = .ok (.getfield 57, 3) := by decide +kernel
theorem dX9_moveAcross_4 : decode cX9_moveAcross 4 = .ok (.getfield 129, 3) := by decide +kernel
theorem dX9_moveAcross_7 : decode cX9_moveAcross 7 = .ok (.aload_n 0, 1) := by decide +kernel
theorem dX9_moveAcross_8 : decode cX9_moveAcross 8 = .ok (.getfield 82, 3) := by decide +kernel
theorem dX9_moveAcross_11 : decode cX9_moveAcross 11 = .ok (.getfield 450, 3) := by decide +kernel
theorem dX9_moveAcross_14 : decode cX9_moveAcross 14 = .ok (.ifCond .eq 19, 3) := by decide +kernel
theorem dX9_moveAcross_17 : decode cX9_moveAcross 17 = .ok (.aload_n 0, 1) := by decide +kernel
theorem dX9_moveAcross_18 : decode cX9_moveAcross 18 = .ok (.getfield 57, 3) := by decide +kernel
theorem dX9_moveAcross_21 : decode cX9_moveAcross 21 = .ok (.getfield 129, 3) := by decide +kernel
theorem dX9_moveAcross_24 : decode cX9_moveAcross 24 = .ok (.getfield 133, 3) := by decide +kernel
theorem dX9_moveAcross_27 : decode cX9_moveAcross 27 = .ok (.i2l, 1) := by decide +kernel
theorem dX9_moveAcross_28 : decode cX9_moveAcross 28 = .ok (.lload_n 1, 1) := by decide +kernel
theorem dX9_moveAcross_29 : decode cX9_moveAcross 29 = .ok (.ladd, 1) := by decide +kernel
theorem dX9_moveAcross_30 : decode cX9_moveAcross 30 = .ok (.goto 4, 3) := by decide +kernel
theorem dX9_moveAcross_33 : decode cX9_moveAcross 33 = .ok (.lload_n 1, 1) := by decide +kernel
theorem dX9_moveAcross_34 : decode cX9_moveAcross 34 = .ok (.invokevirtual 246, 3) := by decide +kernel
theorem dX9_moveAcross_37 : decode cX9_moveAcross 37 = .ok (.return_, 1) := by decide +kernel

set_option maxRecDepth 100000 in
set_option maxHeartbeats 4000000 in
theorem c_X9_moveAcross (S : Hp) (ad : Nat → Nat) (hW : Wd ad S) (hI_507_ad35 : hI S 507 (ad 35) = 0) (hR_913_ad6 : hR S 913 (ad 6) = some (ad 35)) (hI_700_ad27 : hI S 700 (ad 27) = 0) (hI_701_ad27 : hI S 701 (ad 27) = 0) (u9 : Nat) (hu : u9 ≤ 19200) : Ct 3 yX9_moveAcross cX9_moveAcross 3 none 0 0 [.ref (ad 6), .long (lN u9)] S (fun r S' => r = none ∧ S' = (sI S 706 (ad 27) (nI u9))) := by
  refine ct_of (by decide) (Nat.le_of_ble_eq_true rfl) fun x hn9 C M hm9 => ?_
  have C : CB x RX9 cX9_moveAcross := C
  refine J.eq (lv' := [(0, .ref (ad 6)), (1, .long (lN u9))]) rfl rfl rfl ?_
  refine j_aload_n C dX9_moveAcross_0 rfl 0 rfl ?_
  refine j_getr (f := 909) (v := (ad 26)) C flX9_57 dX9_moveAcross_1 (wm_6 (S := S) hW) (wk_6 (S := S) hW) (by decide) rfl (wr_909_6 (S := S) hW) ?_
  refine j_getr (f := 100) (v := (ad 27)) C flX9_129 dX9_moveAcross_4 (wm_26 (S := S) hW) (wk_26 (S := S) hW) (by decide) rfl (wr_100_26 (S := S) hW) ?_
  refine j_aload_n C dX9_moveAcross_7 rfl 0 rfl ?_
  refine j_getr (f := 913) (v := (ad 35)) C flX9_82 dX9_moveAcross_8 (wm_6 (S := S) hW) (wk_6 (S := S) hW) (by decide) rfl hR_913_ad6 ?_
  refine j_geti (f := 507) (v := 0) C flX9_450 dX9_moveAcross_11 (wm_35 (S := S) hW) (wk_35 (S := S) hW) (by decide) (by decide) rfl hI_507_ad35 ?_
  refine j_if_eq (tgt := 33) C dX9_moveAcross_14 (by decide) (fun c9 => ?_) (fun c9 => absurd (by decide) c9)
  refine j_lload_n C dX9_moveAcross_33 rfl 1 rfl ?_
  show J _ _ _ _ _ 34 _
  refine j_callV (ci := 7) C [.long (lN u9)] [] mlX9_246 mcX7_moveX (c_mvX0 S (ad 27) (wm_27 (S := S) hW) (wk_27 (S := S) hW) hI_700_ad27 hI_701_ad27 u9 (by omega)) (wm_27 (S := S) hW) (wk_27 (S := S) hW) rfl (M.rm (by decide) (by decide) (Nat.le_of_ble_eq_true rfl) (Nat.le_of_ble_eq_true rfl)) rfl rfl (Nat.le_of_ble_eq_true rfl) dX9_moveAcross_34 (fun r_1 S_2 hp_3 => ?_)
  obtain ⟨rfl, e_4⟩ := hp_3
  refine J.eq (S' := (sI S 706 (ad 27) (nI u9))) (st' := []) (lv' := [(0, .ref (ad 6)), (1, .long (lN u9))]) e_4 rfl rfl ?_
  exact j_vret C M dX9_moveAcross_37 (Nat.le_of_ble_eq_true rfl) (Nat.le_of_ble_eq_true rfl) ⟨rfl, rfl⟩

theorem dX9_moveDown_0 : decode cX9_moveDown 0 = .ok (.aload_n 0, 1) := by decide +kernel
theorem dX9_moveDown_1 : decode cX9_moveDown 1 = .ok (.getfield 57, 3) := by decide +kernel
theorem dX9_moveDown_4 : decode cX9_moveDown 4 = .ok (.getfield 129, 3) := by decide +kernel
theorem dX9_moveDown_7 : decode cX9_moveDown 7 = .ok (.aload_n 0, 1) := by decide +kernel
theorem dX9_moveDown_8 : decode cX9_moveDown 8 = .ok (.getfield 82, 3) := by decide +kernel
theorem dX9_moveDown_11 : decode cX9_moveDown 11 = .ok (.getfield 450, 3) := by decide +kernel
theorem dX9_moveDown_14 : decode cX9_moveDown 14 = .ok (.ifCond .eq 19, 3) := by decide +kernel
theorem dX9_moveDown_17 : decode cX9_moveDown 17 = .ok (.aload_n 0, 1) := by decide +kernel
theorem dX9_moveDown_18 : decode cX9_moveDown 18 = .ok (.getfield 57, 3) := by decide +kernel
theorem dX9_moveDown_21 : decode cX9_moveDown 21 = .ok (.getfield 129, 3) := by decide +kernel
theorem dX9_moveDown_24 : decode cX9_moveDown 24 = .ok (.getfield 138, 3) := by decide +kernel
theorem dX9_moveDown_27 : decode cX9_moveDown 27 = .ok (.i2l, 1) := by decide +kernel
theorem dX9_moveDown_28 : decode cX9_moveDown 28 = .ok (.lload_n 1, 1) := by decide +kernel
theorem dX9_moveDown_29 : decode cX9_moveDown 29 = .ok (.ladd, 1) := by decide +kernel
theorem dX9_moveDown_30 : decode cX9_moveDown 30 = .ok (.goto 7, 3) := by decide +kernel
theorem dX9_moveDown_33 : decode cX9_moveDown 33 = .ok (.iload_n 3, 1) := by decide +kernel
theorem dX9_moveDown_34 : decode cX9_moveDown 34 = .ok (.i2l, 1) := by decide +kernel
theorem dX9_moveDown_35 : decode cX9_moveDown 35 = .ok (.lload_n 1, 1) := by decide +kernel
theorem dX9_moveDown_36 : decode cX9_moveDown 36 = .ok (.ladd, 1) := by decide +kernel
theorem dX9_moveDown_37 : decode cX9_moveDown 37 = .ok (.invokevirtual 286, 3) := by decide +kernel
theorem dX9_moveDown_40 : decode cX9_moveDown 40 = .ok (.return_, 1) := by decide +kernel

set_option maxRecDepth 100000 in
set_option maxHeartbeats 4000000 in
theorem c_X9_moveDown (S : Hp) (ad : Nat → Nat) (hW : Wd ad S) (hI_507_ad35 : hI S 507 (ad 35) = 0) (hR_913_ad6 : hR S 913 (ad 6) = some (ad 35)) (hI_700_ad27 : hI S 700 (ad 27) = 0) (hI_701_ad27 : hI S 701 (ad 27) = 0) (u9 : Nat) (hu : u9 ≤ 23040) : Ct 3 yX9_moveDown cX9_moveDown 4 none 0 0 [.ref (ad 6), .long (lN u9), .int 0] S (fun r S' => r = none ∧ S' = (sI S 707 (ad 27) (nI u9))) := by
  refine ct_of (by decide) (Nat.le_of_ble_eq_true rfl) fun x hn9 C M hm9 => ?_
  have C : CB x RX9 cX9_moveDown := C
  refine J.eq (lv' := [(0, .ref (ad 6)), (1, .long (lN u9)), (3, .int 0)]) rfl rfl rfl ?_
  refine j_aload_n C dX9_moveDown_0 rfl 0 rfl ?_
  refine j_getr (f := 909) (v := (ad 26)) C flX9_57 dX9_moveDown_1 (wm_6 (S := S) hW) (wk_6 (S := S) hW) (by decide) rfl (wr_909_6 (S := S) hW) ?_
  refine j_getr (f := 100) (v := (ad 27)) C flX9_129 dX9_moveDown_4 (wm_26 (S := S) hW) (wk_26 (S := S) hW) (by decide) rfl (wr_100_26 (S := S) hW) ?_
  refine j_aload_n C dX9_moveDown_7 rfl 0 rfl ?_
  refine j_getr (f := 913) (v := (ad 35)) C flX9_82 dX9_moveDown_8 (wm_6 (S := S) hW) (wk_6 (S := S) hW) (by decide) rfl hR_913_ad6 ?_
  refine j_geti (f := 507) (v := 0) C flX9_450 dX9_moveDown_11 (wm_35 (S := S) hW) (wk_35 (S := S) hW) (by decide) (by decide) rfl hI_507_ad35 ?_
  refine j_if_eq (tgt := 33) C dX9_moveDown_14 (by decide) (fun c9 => ?_) (fun c9 => absurd (by decide) c9)
  refine j_iload_n C dX9_moveDown_33 rfl 2 rfl ?_
  show J _ _ _ _ _ 34 _
  refine j_i2l (v := 0) C dX9_moveDown_34 (by decide) ?_
  refine j_lload_n C dX9_moveDown_35 rfl 1 rfl ?_
  refine j_ladd (v := lN u9) C dX9_moveDown_36 ((lN_add 0 u9).trans (congrArg lN (Nat.zero_add u9))) ?_
  refine j_callV (ci := 7) C [.long (lN u9)] [] mlX9_286 mcX7_moveY (c_mvY0 S (ad 27) (wm_27 (S := S) hW) (wk_27 (S := S) hW) hI_700_ad27 hI_701_ad27 u9 (by omega)) (wm_27 (S := S) hW) (wk_27 (S := S) hW) rfl (M.rm (by decide) (by decide) (Nat.le_of_ble_eq_true rfl) (Nat.le_of_ble_eq_true rfl)) rfl rfl (Nat.le_of_ble_eq_true rfl) dX9_moveDown_37 (fun r_1 S_2 hp_3 => ?_)
  obtain ⟨rfl, e_4⟩ := hp_3
  refine J.eq (S' := (sI S 707 (ad 27) (nI u9))) (st' := []) (lv' := [(0, .ref (ad 6)), (1, .long (lN u9)), (3, .int 0)]) e_4 rfl rfl ?_
  exact j_vret C M dX9_moveDown_40 (Nat.le_of_ble_eq_true rfl) (Nat.le_of_ble_eq_true rfl) ⟨rfl, rfl⟩

theorem dX9_dotPlaceField_0 : decode cX9_dotPlaceField 0 = .ok (.aload_n 0, 1) := by decide +kernel
theorem dX9_dotPlaceField_1 : decode cX9_dotPlaceField 1 = .ok (.getfield 82, 3) := by decide +kernel
theorem dX9_dotPlaceField_4 : decode cX9_dotPlaceField 4 = .ok (.getfield 327, 3) := by decide +kernel
theorem dX9_dotPlaceField_7 : decode cX9_dotPlaceField 7 = .ok (.bipush 88, 2) := by decide +kernel
theorem dX9_dotPlaceField_9 : decode cX9_dotPlaceField 9 = .ok (.if_icmp .ne 19, 3) := by decide +kernel
theorem dX9_dotPlaceField_12 : decode cX9_dotPlaceField 12 = .ok (.aload_n 0, 1) := by decide +kernel
theorem dX9_dotPlaceField_13 : decode cX9_dotPlaceField 13 = .ok (.aload_n 0, 1) := by decide +kernel
theorem dX9_dotPlaceField_14 : decode cX9_dotPlaceField 14 = .ok (.getfield 82, 3) := by decide +kernel
theorem dX9_dotPlaceField_17 : decode cX9_dotPlaceField 17 = .ok (.bipush 96, 2) := by decide +kernel
theorem dX9_dotPlaceField_19 : decode cX9_dotPlaceField 19 = .ok (.invokevirtual 431, 3) := by decide +kernel
theorem dX9_dotPlaceField_22 : decode cX9_dotPlaceField 22 = .ok (.invokevirtual 437, 3) := by decide +kernel
theorem dX9_dotPlaceField_25 : decode cX9_dotPlaceField 25 = .ok (.goto 84, 3) := by decide +kernel
theorem dX9_dotPlaceField_28 : decode cX9_dotPlaceField 28 = .ok (.aload_n 0, 1) := by decide +kernel
theorem dX9_dotPlaceField_29 : decode cX9_dotPlaceField 29 = .ok (.getfield 82, 3) := by decide +kernel
theorem dX9_dotPlaceField_32 : decode cX9_dotPlaceField 32 = .ok (.getfield 327, 3) := by decide +kernel
theorem dX9_dotPlaceField_35 : decode cX9_dotPlaceField 35 = .ok (.bipush 89, 2) := by decide +kernel
theorem dX9_dotPlaceField_37 : decode cX9_dotPlaceField 37 = .ok (.if_icmp .ne 20, 3) := by decide +kernel
theorem dX9_dotPlaceField_40 : decode cX9_dotPlaceField 40 = .ok (.aload_n 0, 1) := by decide +kernel
theorem dX9_dotPlaceField_41 : decode cX9_dotPlaceField 41 = .ok (.aload_n 0, 1) := by decide +kernel
theorem dX9_dotPlaceField_42 : decode cX9_dotPlaceField 42 = .ok (.getfield 82, 3) := by decide +kernel
theorem dX9_dotPlaceField_45 : decode cX9_dotPlaceField 45 = .ok (.bipush 96, 2) := by decide +kernel
theorem dX9_dotPlaceField_47 : decode cX9_dotPlaceField 47 = .ok (.invokevirtual 431, 3) := by decide +kernel
theorem dX9_dotPlaceField_50 : decode cX9_dotPlaceField 50 = .ok (.iconst 0, 1) := by decide +kernel
theorem dX9_dotPlaceField_51 : decode cX9_dotPlaceField 51 = .ok (.invokevirtual 440, 3) := by decide +kernel
theorem dX9_dotPlaceField_54 : decode cX9_dotPlaceField 54 = .ok (.goto 55, 3) := by decide +kernel
theorem dX9_dotPlaceField_57 : decode cX9_dotPlaceField 57 = .ok (.aload_n 0, 1) := by decide +kernel
theorem dX9_dotPlaceField_58 : decode cX9_dotPlaceField 58 = .ok (.getfield 82, 3) := by decide +kernel
theorem dX9_dotPlaceField_61 : decode cX9_dotPlaceField 61 = .ok (.getfield 327, 3) := by decide +kernel
theorem dX9_dotPlaceField_64 : decode cX9_dotPlaceField 64 = .ok (.bipush 82, 2) := by decide +kernel
theorem dX9_dotPlaceField_66 : decode cX9_dotPlaceField 66 = .ok (.if_icmp .ne 43, 3) := by decide +kernel
theorem dX9_dotPlaceField_69 : decode cX9_dotPlaceField 69 = .ok (.aload_n 0, 1) := by decide +kernel
theorem dX9_dotPlaceField_70 : decode cX9_dotPlaceField 70 = .ok (.getfield 57, 3) := by decide +kernel
theorem dX9_dotPlaceField_73 : decode cX9_dotPlaceField 73 = .ok (.aload_n 0, 1) := by decide +kernel
theorem dX9_dotPlaceField_74 : decode cX9_dotPlaceField 74 = .ok (.getfield 57, 3) := by decide +kernel
theorem dX9_dotPlaceField_77 : decode cX9_dotPlaceField 77 = .ok (.getfield 129, 3) := by decide +kernel
theorem dX9_dotPlaceField_80 : decode cX9_dotPlaceField 80 = .ok (.getfield 133, 3) := by decide +kernel
theorem dX9_dotPlaceField_83 : decode cX9_dotPlaceField 83 = .ok (.bipush 96, 2) := by decide +kernel
theorem dX9_dotPlaceField_85 : decode cX9_dotPlaceField 85 = .ok (.idiv, 1) := by decide +kernel
theorem dX9_dotPlaceField_86 : decode cX9_dotPlaceField 86 = .ok (.putfield 453, 3) := by decide +kernel
theorem dX9_dotPlaceField_89 : decode cX9_dotPlaceField 89 = .ok (.aload_n 0, 1) := by decide +kernel
theorem dX9_dotPlaceField_90 : decode cX9_dotPlaceField 90 = .ok (.getfield 57, 3) := by decide +kernel
theorem dX9_dotPlaceField_93 : decode cX9_dotPlaceField 93 = .ok (.aload_n 0, 1) := by decide +kernel
theorem dX9_dotPlaceField_94 : decode cX9_dotPlaceField 94 = .ok (.getfield 57, 3) := by decide +kernel
theorem dX9_dotPlaceField_97 : decode cX9_dotPlaceField 97 = .ok (.getfield 129, 3) := by decide +kernel
theorem dX9_dotPlaceField_100 : decode cX9_dotPlaceField 100 = .ok (.getfield 138, 3) := by decide +kernel
theorem dX9_dotPlaceField_103 : decode cX9_dotPlaceField 103 = .ok (.bipush 96, 2) := by decide +kernel
theorem dX9_dotPlaceField_105 : decode cX9_dotPlaceField 105 = .ok (.idiv, 1) := by decide +kernel
theorem dX9_dotPlaceField_106 : decode cX9_dotPlaceField 106 = .ok (.putfield 456, 3) := by decide +kernel
theorem dX9_dotPlaceField_109 : decode cX9_dotPlaceField 109 = .ok (.return_, 1) := by decide +kernel

set_option maxRecDepth 100000 in
set_option maxHeartbeats 4000000 in
theorem c_dpX (S : Hp) (ad : Nat → Nat) (hW : Wd ad S) (hI_507_ad35 : hI S 507 (ad 35) = 0) (hR_913_ad6 : hR S 913 (ad 6) = some (ad 35)) (hI_700_ad27 : hI S 700 (ad 27) = 0) (hI_701_ad27 : hI S 701 (ad 27) = 0) (v9 : Nat) (hI_508_ad35 : hI S 508 (ad 35) = 0) (hI_509_ad35 : hI S 509 (ad 35) = nI v9) (hI_510_ad35 : hI S 510 (ad 35) = 0) (hv : v9 < 100) (hI_505_ad35 : hI S 505 (ad 35) = 88) : Ct 4 yX9_dotPlaceField cX9_dotPlaceField 1 none 0 0 [.ref (ad 6)] S (fun r S' => r = none ∧ S' = (sI S 706 (ad 27) (nI (v9 * 96)))) := by
  refine ct_of (by decide) (Nat.le_of_ble_eq_true rfl) fun x hn9 C M hm9 => ?_
  have C : CB x RX9 cX9_dotPlaceField := C
  refine J.eq (lv' := [(0, .ref (ad 6))]) rfl rfl rfl ?_
  refine j_aload_n C dX9_dotPlaceField_0 rfl 0 rfl ?_
  refine j_getr (f := 913) (v := (ad 35)) C flX9_82 dX9_dotPlaceField_1 (wm_6 (S := S) hW) (wk_6 (S := S) hW) (by decide) rfl hR_913_ad6 ?_
  refine j_geti (f := 505) (v := 88) C flX9_327 dX9_dotPlaceField_4 (wm_35 (S := S) hW) (wk_35 (S := S) hW) (by decide) (by decide) rfl hI_505_ad35 ?_
  refine j_bipush (v := 88) C dX9_dotPlaceField_7 (by decide) ?_
  refine j_ic_ne (tgt := 28) C dX9_dotPlaceField_9 (by decide) (fun c9 => absurd c9 (by decide)) (fun c9 => ?_)
  refine j_aload_n C dX9_dotPlaceField_12 rfl 0 rfl ?_
  refine j_aload_n C dX9_dotPlaceField_13 rfl 0 rfl ?_
  refine j_getr (f := 913) (v := (ad 35)) C flX9_82 dX9_dotPlaceField_14 (wm_6 (S := S) hW) (wk_6 (S := S) hW) (by decide) rfl hR_913_ad6 ?_
  show J _ _ _ _ _ 17 _
  refine j_bipush (v := 96) C dX9_dotPlaceField_17 (by decide) ?_
  refine j_callV (ci := 5) C [.int 96] [.ref (ad 6)] mlX9_431 mcX5_units (c_X5_units S ad hW v9 hI_508_ad35 hI_509_ad35 hI_510_ad35 (by omega)) (wm_35 (S := S) hW) (wk_35 (S := S) hW) rfl (M.rm (by decide) (by decide) (Nat.le_of_ble_eq_true rfl) (Nat.le_of_ble_eq_true rfl)) rfl rfl (Nat.le_of_ble_eq_true rfl) dX9_dotPlaceField_19 (fun r_1 S_2 hp_3 => ?_)
  obtain ⟨rfl, e_4⟩ := hp_3
  refine J.eq (S' := S) (st' := [.long (lN (v9 * 96)), .ref (ad 6)]) (lv' := [(0, .ref (ad 6))]) e_4 rfl rfl ?_
  refine j_callV (ci := 9) C [.long (lN (v9 * 96))] [] mlX9_437 mcX9_moveAcross (c_X9_moveAcross S ad hW hI_507_ad35 hR_913_ad6 hI_700_ad27 hI_701_ad27 (v9 * 96) (by omega)) (wm_6 (S := S) hW) (wk_6 (S := S) hW) rfl (M.rm (by decide) (by decide) (Nat.le_of_ble_eq_true rfl) (Nat.le_of_ble_eq_true rfl)) rfl rfl (Nat.le_of_ble_eq_true rfl) dX9_dotPlaceField_22 (fun r_5 S_6 hp_7 => ?_)
  obtain ⟨rfl, e_8⟩ := hp_7
  refine J.eq (S' := (sI S 706 (ad 27) (nI (v9 * 96)))) (st' := []) (lv' := [(0, .ref (ad 6))]) e_8 rfl rfl ?_
  refine j_goto (tgt := 109) C dX9_dotPlaceField_25 (by decide) ?_
  exact j_vret C M dX9_dotPlaceField_109 (Nat.le_of_ble_eq_true rfl) (Nat.le_of_ble_eq_true rfl) ⟨rfl, rfl⟩

set_option maxRecDepth 100000 in
set_option maxHeartbeats 4000000 in
theorem c_dpY (S : Hp) (ad : Nat → Nat) (hW : Wd ad S) (hI_507_ad35 : hI S 507 (ad 35) = 0) (hR_913_ad6 : hR S 913 (ad 6) = some (ad 35)) (hI_700_ad27 : hI S 700 (ad 27) = 0) (hI_701_ad27 : hI S 701 (ad 27) = 0) (v9 : Nat) (hI_508_ad35 : hI S 508 (ad 35) = 0) (hI_509_ad35 : hI S 509 (ad 35) = nI v9) (hI_510_ad35 : hI S 510 (ad 35) = 0) (hv : v9 < 100) (hI_505_ad35 : hI S 505 (ad 35) = 89) : Ct 4 yX9_dotPlaceField cX9_dotPlaceField 1 none 0 0 [.ref (ad 6)] S (fun r S' => r = none ∧ S' = (sI S 707 (ad 27) (nI (v9 * 96)))) := by
  refine ct_of (by decide) (Nat.le_of_ble_eq_true rfl) fun x hn9 C M hm9 => ?_
  have C : CB x RX9 cX9_dotPlaceField := C
  refine J.eq (lv' := [(0, .ref (ad 6))]) rfl rfl rfl ?_
  refine j_aload_n C dX9_dotPlaceField_0 rfl 0 rfl ?_
  refine j_getr (f := 913) (v := (ad 35)) C flX9_82 dX9_dotPlaceField_1 (wm_6 (S := S) hW) (wk_6 (S := S) hW) (by decide) rfl hR_913_ad6 ?_
  refine j_geti (f := 505) (v := 89) C flX9_327 dX9_dotPlaceField_4 (wm_35 (S := S) hW) (wk_35 (S := S) hW) (by decide) (by decide) rfl hI_505_ad35 ?_
  refine j_bipush (v := 88) C dX9_dotPlaceField_7 (by decide) ?_
  refine j_ic_ne (tgt := 28) C dX9_dotPlaceField_9 (by decide) (fun c9 => ?_) (fun c9 => absurd c9 (by decide))
  refine j_aload_n C dX9_dotPlaceField_28 rfl 0 rfl ?_
  refine j_getr (f := 913) (v := (ad 35)) C flX9_82 dX9_dotPlaceField_29 (wm_6 (S := S) hW) (wk_6 (S := S) hW) (by decide) rfl hR_913_ad6 ?_
  refine j_geti (f := 505) (v := 89) C flX9_327 dX9_dotPlaceField_32 (wm_35 (S := S) hW) (wk_35 (S := S) hW) (by decide) (by decide) rfl hI_505_ad35 ?_
  show J _ _ _ _ _ 35 _
  refine j_bipush (v := 89) C dX9_dotPlaceField_35 (by decide) ?_
  refine j_ic_ne (tgt := 57) C dX9_dotPlaceField_37 (by decide) (fun c9 => absurd c9 (by decide)) (fun c9 => ?_)
  refine j_aload_n C dX9_dotPlaceField_40 rfl 0 rfl ?_
  refine j_aload_n C dX9_dotPlaceField_41 rfl 0 rfl ?_
  refine j_getr (f := 913) (v := (ad 35)) C flX9_82 dX9_dotPlaceField_42 (wm_6 (S := S) hW) (wk_6 (S := S) hW) (by decide) rfl hR_913_ad6 ?_
  refine j_bipush (v := 96) C dX9_dotPlaceField_45 (by decide) ?_
  refine j_callV (ci := 5) C [.int 96] [.ref (ad 6)] mlX9_431 mcX5_units (c_X5_units S ad hW v9 hI_508_ad35 hI_509_ad35 hI_510_ad35 (by omega)) (wm_35 (S := S) hW) (wk_35 (S := S) hW) rfl (M.rm (by decide) (by decide) (Nat.le_of_ble_eq_true rfl) (Nat.le_of_ble_eq_true rfl)) rfl rfl (Nat.le_of_ble_eq_true rfl) dX9_dotPlaceField_47 (fun r_1 S_2 hp_3 => ?_)
  obtain ⟨rfl, e_4⟩ := hp_3
  refine J.eq (S' := S) (st' := [.long (lN (v9 * 96)), .ref (ad 6)]) (lv' := [(0, .ref (ad 6))]) e_4 rfl rfl ?_
  refine j_iconst (v := 0) C dX9_dotPlaceField_50 (by decide) ?_
  show J _ _ _ _ _ 51 _
  refine j_callV (ci := 9) C [.long (lN (v9 * 96)), .int 0] [] mlX9_440 mcX9_moveDown (c_X9_moveDown S ad hW hI_507_ad35 hR_913_ad6 hI_700_ad27 hI_701_ad27 (v9 * 96) (by omega)) (wm_6 (S := S) hW) (wk_6 (S := S) hW) rfl (M.rm (by decide) (by decide) (Nat.le_of_ble_eq_true rfl) (Nat.le_of_ble_eq_true rfl)) rfl rfl (Nat.le_of_ble_eq_true rfl) dX9_dotPlaceField_51 (fun r_5 S_6 hp_7 => ?_)
  obtain ⟨rfl, e_8⟩ := hp_7
  refine J.eq (S' := (sI S 707 (ad 27) (nI (v9 * 96)))) (st' := []) (lv' := [(0, .ref (ad 6))]) e_8 rfl rfl ?_
  refine j_goto (tgt := 109) C dX9_dotPlaceField_54 (by decide) ?_
  exact j_vret C M dX9_dotPlaceField_109 (Nat.le_of_ble_eq_true rfl) (Nat.le_of_ble_eq_true rfl) ⟨rfl, rfl⟩

theorem dX9_inkField_0 : decode cX9_inkField 0 = .ok (.iload_n 1, 1) := by decide +kernel
theorem dX9_inkField_1 : decode cX9_inkField 1 = .ok (.ifCond .eq 8, 3) := by decide +kernel
theorem dX9_inkField_4 : decode cX9_inkField 4 = .ok (.iload_n 1, 1) := by decide +kernel
theorem dX9_inkField_5 : decode cX9_inkField 5 = .ok (.iconst 1, 1) := by decide +kernel
theorem dX9_inkField_6 : decode cX9_inkField 6 = .ok (.if_icmp .ne 7, 3) := by decide +kernel
theorem dX9_inkField_9 : decode cX9_inkField 9 = .ok (.iconst 1, 1) := by decide +kernel
theorem dX9_inkField_10 : decode cX9_inkField 10 = .ok (.goto 4, 3) := by decide +kernel
theorem dX9_inkField_13 : decode cX9_inkField 13 = .ok (.iconst 0, 1) := by decide +kernel
theorem dX9_inkField_14 : decode cX9_inkField 14 = .ok (.istore_n 2, 1) := by decide +kernel
theorem dX9_inkField_15 : decode cX9_inkField 15 = .ok (.aload_n 0, 1) := by decide +kernel
theorem dX9_inkField_16 : decode cX9_inkField 16 = .ok (.getfield 82, 3) := by decide +kernel
theorem dX9_inkField_19 : decode cX9_inkField 19 = .ok (.getfield 327, 3) := by decide +kernel
theorem dX9_inkField_22 : decode cX9_inkField 22 = .ok (.bipush 78, 2) := by decide +kernel
theorem dX9_inkField_24 : decode cX9_inkField 24 = .ok (.if_icmp .ne 27, 3) := by decide +kernel
theorem dX9_inkField_27 : decode cX9_inkField 27 = .ok (.iload_n 2, 1) := by decide +kernel
theorem dX9_inkField_28 : decode cX9_inkField 28 = .ok (.ifCond .eq 23, 3) := by decide +kernel
theorem dX9_inkField_31 : decode cX9_inkField 31 = .ok (.aload_n 0, 1) := by decide +kernel
theorem dX9_inkField_32 : decode cX9_inkField 32 = .ok (.getfield 57, 3) := by decide +kernel
theorem dX9_inkField_35 : decode cX9_inkField 35 = .ok (.iload_n 1, 1) := by decide +kernel
theorem dX9_inkField_36 : decode cX9_inkField 36 = .ok (.iconst 1, 1) := by decide +kernel
theorem dX9_inkField_37 : decode cX9_inkField 37 = .ok (.if_icmp .ne 7, 3) := by decide +kernel
theorem dX9_inkField_40 : decode cX9_inkField 40 = .ok (.iconst 1, 1) := by decide +kernel
theorem dX9_inkField_41 : decode cX9_inkField 41 = .ok (.goto 4, 3) := by decide +kernel
theorem dX9_inkField_44 : decode cX9_inkField 44 = .ok (.iconst 0, 1) := by decide +kernel
theorem dX9_inkField_45 : decode cX9_inkField 45 = .ok (.putfield 646, 3) := by decide +kernel
theorem dX9_inkField_48 : decode cX9_inkField 48 = .ok (.goto 64, 3) := by decide +kernel
theorem dX9_inkField_51 : decode cX9_inkField 51 = .ok (.aload_n 0, 1) := by decide +kernel
theorem dX9_inkField_52 : decode cX9_inkField 52 = .ok (.getfield 82, 3) := by decide +kernel
theorem dX9_inkField_55 : decode cX9_inkField 55 = .ok (.getfield 327, 3) := by decide +kernel
theorem dX9_inkField_58 : decode cX9_inkField 58 = .ok (.bipush 79, 2) := by decide +kernel
theorem dX9_inkField_60 : decode cX9_inkField 60 = .ok (.if_icmp .ne 27, 3) := by decide +kernel
theorem dX9_inkField_63 : decode cX9_inkField 63 = .ok (.iload_n 2, 1) := by decide +kernel
theorem dX9_inkField_64 : decode cX9_inkField 64 = .ok (.ifCond .eq 23, 3) := by decide +kernel
theorem dX9_inkField_67 : decode cX9_inkField 67 = .ok (.aload_n 0, 1) := by decide +kernel
theorem dX9_inkField_68 : decode cX9_inkField 68 = .ok (.getfield 57, 3) := by decide +kernel
theorem dX9_inkField_71 : decode cX9_inkField 71 = .ok (.iload_n 1, 1) := by decide +kernel
theorem dX9_inkField_72 : decode cX9_inkField 72 = .ok (.iconst 1, 1) := by decide +kernel
theorem dX9_inkField_73 : decode cX9_inkField 73 = .ok (.if_icmp .ne 7, 3) := by decide +kernel
theorem dX9_inkField_76 : decode cX9_inkField 76 = .ok (.iconst 1, 1) := by decide +kernel
theorem dX9_inkField_77 : decode cX9_inkField 77 = .ok (.goto 4, 3) := by decide +kernel
theorem dX9_inkField_80 : decode cX9_inkField 80 = .ok (.iconst 0, 1) := by decide +kernel
theorem dX9_inkField_81 : decode cX9_inkField 81 = .ok (.putfield 649, 3) := by decide +kernel
theorem dX9_inkField_84 : decode cX9_inkField 84 = .ok (.goto 28, 3) := by decide +kernel
theorem dX9_inkField_87 : decode cX9_inkField 87 = .ok (.aload_n 0, 1) := by decide +kernel
theorem dX9_inkField_88 : decode cX9_inkField 88 = .ok (.getfield 82, 3) := by decide +kernel
theorem dX9_inkField_91 : decode cX9_inkField 91 = .ok (.getfield 327, 3) := by decide +kernel
theorem dX9_inkField_94 : decode cX9_inkField 94 = .ok (.bipush 84, 2) := by decide +kernel
theorem dX9_inkField_96 : decode cX9_inkField 96 = .ok (.if_icmp .ne 16, 3) := by decide +kernel
theorem dX9_inkField_99 : decode cX9_inkField 99 = .ok (.aload_n 0, 1) := by decide +kernel
theorem dX9_inkField_100 : decode cX9_inkField 100 = .ok (.aload_n 0, 1) := by decide +kernel
theorem dX9_inkField_101 : decode cX9_inkField 101 = .ok (.getfield 57, 3) := by decide +kernel
theorem dX9_inkField_104 : decode cX9_inkField 104 = .ok (.getfield 539, 3) := by decide +kernel
theorem dX9_inkField_107 : decode cX9_inkField 107 = .ok (.iload_n 1, 1) := by decide +kernel
theorem dX9_inkField_108 : decode cX9_inkField 108 = .ok (.invokevirtual 610, 3) := by decide +kernel
theorem dX9_inkField_111 : decode cX9_inkField 111 = .ok (.pop, 1) := by decide +kernel
theorem dX9_inkField_112 : decode cX9_inkField 112 = .ok (.return_, 1) := by decide +kernel

set_option maxRecDepth 100000 in
set_option maxHeartbeats 4000000 in
theorem c_ik0 (S : Hp) (ad : Nat → Nat) (hW : Wd ad S) (hR_913_ad6 : hR S 913 (ad 6) = some (ad 35)) (hI_505_ad35 : hI S 505 (ad 35) = 79) : Ct 4 yX9_inkField cX9_inkField 3 none 0 0 [.ref (ad 6), .int 0] S (fun r S' => r = none ∧ S' = (sI S 111 (ad 26) 0)) := by
  refine ct_of (by decide) (Nat.le_of_ble_eq_true rfl) fun x hn9 C M hm9 => ?_
  have C : CB x RX9 cX9_inkField := C
  refine J.eq (lv' := [(0, .ref (ad 6)), (1, .int 0)]) rfl rfl rfl ?_
  refine j_iload_n C dX9_inkField_0 rfl 1 rfl ?_
  refine j_if_eq (tgt := 9) C dX9_inkField_1 (by decide) (fun c9 => ?_) (fun c9 => absurd (by decide) c9)
  refine j_iconst (v := 1) C dX9_inkField_9 (by decide) ?_
  refine j_goto (tgt := 14) C dX9_inkField_10 (by decide) ?_
  refine j_istore_n (lv' := [(2, .int 1), (0, .ref (ad 6)), (1, .int 0)]) C dX9_inkField_14 rfl (by rw [hn9]; decide) rfl ?_
  refine j_aload_n C dX9_inkField_15 rfl 1 rfl ?_
  refine j_getr (f := 913) (v := (ad 35)) C flX9_82 dX9_inkField_16 (wm_6 (S := S) hW) (wk_6 (S := S) hW) (by decide) rfl hR_913_ad6 ?_
  refine j_geti (f := 505) (v := 79) C flX9_327 dX9_inkField_19 (wm_35 (S := S) hW) (wk_35 (S := S) hW) (by decide) (by decide) rfl hI_505_ad35 ?_
  show J _ _ _ _ _ 22 _
  refine j_bipush (v := 78) C dX9_inkField_22 (by decide) ?_
  refine j_ic_ne (tgt := 51) C dX9_inkField_24 (by decide) (fun c9 => ?_) (fun c9 => absurd c9 (by decide))
  refine j_aload_n C dX9_inkField_51 rfl 1 rfl ?_
  refine j_getr (f := 913) (v := (ad 35)) C flX9_82 dX9_inkField_52 (wm_6 (S := S) hW) (wk_6 (S := S) hW) (by decide) rfl hR_913_ad6 ?_
  refine j_geti (f := 505) (v := 79) C flX9_327 dX9_inkField_55 (wm_35 (S := S) hW) (wk_35 (S := S) hW) (by decide) (by decide) rfl hI_505_ad35 ?_
  refine j_bipush (v := 79) C dX9_inkField_58 (by decide) ?_
  refine j_ic_ne (tgt := 87) C dX9_inkField_60 (by decide) (fun c9 => absurd c9 (by decide)) (fun c9 => ?_)
  refine j_iload_n C dX9_inkField_63 rfl 0 rfl ?_
  show J _ _ _ _ _ 64 _
  refine j_if_eq (tgt := 87) C dX9_inkField_64 (by decide) (fun c9 => absurd c9 (by decide)) (fun c9 => ?_)
  refine j_aload_n C dX9_inkField_67 rfl 1 rfl ?_
  refine j_getr (f := 909) (v := (ad 26)) C flX9_57 dX9_inkField_68 (wm_6 (S := S) hW) (wk_6 (S := S) hW) (by decide) rfl (wr_909_6 (S := S) hW) ?_
  refine j_iload_n C dX9_inkField_71 rfl 2 rfl ?_
  refine j_iconst (v := 1) C dX9_inkField_72 (by decide) ?_
  refine j_ic_ne (tgt := 80) C dX9_inkField_73 (by decide) (fun c9 => ?_) (fun c9 => absurd c9 (by decide))
  refine j_iconst (v := 0) C dX9_inkField_80 (by decide) ?_
  refine j_putz (f := 111) C flX9_649 (by decide) rfl rfl (by decide) dX9_inkField_81 (wm_26 (S := S) hW) (wk_26 (S := S) hW) rfl ?_
  show J _ _ _ _ _ 84 _
  refine j_goto (tgt := 112) C dX9_inkField_84 (by decide) ?_
  exact j_vret C M dX9_inkField_112 (by decide) (by decide) ⟨rfl, rfl⟩

set_option maxRecDepth 100000 in
set_option maxHeartbeats 4000000 in
theorem c_ik1 (S : Hp) (ad : Nat → Nat) (hW : Wd ad S) (hR_913_ad6 : hR S 913 (ad 6) = some (ad 35)) (hI_505_ad35 : hI S 505 (ad 35) = 79) : Ct 4 yX9_inkField cX9_inkField 3 none 0 0 [.ref (ad 6), .int 1] S (fun r S' => r = none ∧ S' = (sI S 111 (ad 26) 1)) := by
  refine ct_of (by decide) (Nat.le_of_ble_eq_true rfl) fun x hn9 C M hm9 => ?_
  have C : CB x RX9 cX9_inkField := C
  refine J.eq (lv' := [(0, .ref (ad 6)), (1, .int 1)]) rfl rfl rfl ?_
  refine j_iload_n C dX9_inkField_0 rfl 1 rfl ?_
  refine j_if_eq (tgt := 9) C dX9_inkField_1 (by decide) (fun c9 => absurd c9 (by decide)) (fun c9 => ?_)
  refine j_iload_n C dX9_inkField_4 rfl 1 rfl ?_
  refine j_iconst (v := 1) C dX9_inkField_5 (by decide) ?_
  refine j_ic_ne (tgt := 13) C dX9_inkField_6 (by decide) (fun c9 => absurd c9 (by decide)) (fun c9 => ?_)
  refine j_iconst (v := 1) C dX9_inkField_9 (by decide) ?_
  refine j_goto (tgt := 14) C dX9_inkField_10 (by decide) ?_
  refine j_istore_n (lv' := [(2, .int 1), (0, .ref (ad 6)), (1, .int 1)]) C dX9_inkField_14 rfl (by rw [hn9]; decide) rfl ?_
  show J _ _ _ _ _ 15 _
  refine j_aload_n C dX9_inkField_15 rfl 1 rfl ?_
  refine j_getr (f := 913) (v := (ad 35)) C flX9_82 dX9_inkField_16 (wm_6 (S := S) hW) (wk_6 (S := S) hW) (by decide) rfl hR_913_ad6 ?_
  refine j_geti (f := 505) (v := 79) C flX9_327 dX9_inkField_19 (wm_35 (S := S) hW) (wk_35 (S := S) hW) (by decide) (by decide) rfl hI_505_ad35 ?_
  refine j_bipush (v := 78) C dX9_inkField_22 (by decide) ?_
  refine j_ic_ne (tgt := 51) C dX9_inkField_24 (by decide) (fun c9 => ?_) (fun c9 => absurd c9 (by decide))
  refine j_aload_n C dX9_inkField_51 rfl 1 rfl ?_
  refine j_getr (f := 913) (v := (ad 35)) C flX9_82 dX9_inkField_52 (wm_6 (S := S) hW) (wk_6 (S := S) hW) (by decide) rfl hR_913_ad6 ?_
  refine j_geti (f := 505) (v := 79) C flX9_327 dX9_inkField_55 (wm_35 (S := S) hW) (wk_35 (S := S) hW) (by decide) (by decide) rfl hI_505_ad35 ?_
  show J _ _ _ _ _ 58 _
  refine j_bipush (v := 79) C dX9_inkField_58 (by decide) ?_
  refine j_ic_ne (tgt := 87) C dX9_inkField_60 (by decide) (fun c9 => absurd c9 (by decide)) (fun c9 => ?_)
  refine j_iload_n C dX9_inkField_63 rfl 0 rfl ?_
  refine j_if_eq (tgt := 87) C dX9_inkField_64 (by decide) (fun c9 => absurd c9 (by decide)) (fun c9 => ?_)
  refine j_aload_n C dX9_inkField_67 rfl 1 rfl ?_
  refine j_getr (f := 909) (v := (ad 26)) C flX9_57 dX9_inkField_68 (wm_6 (S := S) hW) (wk_6 (S := S) hW) (by decide) rfl (wr_909_6 (S := S) hW) ?_
  refine j_iload_n C dX9_inkField_71 rfl 2 rfl ?_
  refine j_iconst (v := 1) C dX9_inkField_72 (by decide) ?_
  show J _ _ _ _ _ 73 _
  refine j_ic_ne (tgt := 80) C dX9_inkField_73 (by decide) (fun c9 => absurd c9 (by decide)) (fun c9 => ?_)
  refine j_iconst (v := 1) C dX9_inkField_76 (by decide) ?_
  refine j_goto (tgt := 81) C dX9_inkField_77 (by decide) ?_
  refine j_putz (f := 111) C flX9_649 (by decide) rfl rfl (by decide) dX9_inkField_81 (wm_26 (S := S) hW) (wk_26 (S := S) hW) rfl ?_
  refine j_goto (tgt := 112) C dX9_inkField_84 (by decide) ?_
  exact j_vret C M dX9_inkField_112 (by decide) (by decide) ⟨rfl, rfl⟩

theorem c_ik (S : Hp) (ad : Nat → Nat) (hW : Wd ad S) (c : Bool) (h1 : hR S 913 (ad 6) = some (ad 35)) (h2 : hI S 505 (ad 35) = 79) : Ct 4 yX9_inkField cX9_inkField 3 none 0 0 [.ref (ad 6), .int (cI c)] S (fun r S' => r = none ∧ S' = sI S 111 (ad 26) (cI c)) := by
  cases c
  · exact c_ik0 S ad hW h1 h2
  · exact c_ik1 S ad hW h1 h2

theorem dX9_controlField_0 : decode cX9_controlField 0 = .ok (.aload_n 0, 1) := by decide +kernel
theorem dX9_controlField_1 : decode cX9_controlField 1 = .ok (.getfield 82, 3) := by decide +kernel
theorem dX9_controlField_4 : decode cX9_controlField 4 = .ok (.getfield 327, 3) := by decide +kernel
theorem dX9_controlField_7 : decode cX9_controlField 7 = .ok (.tableswitch 309 65 87 #[209, 234, 309, 105, 136, 168, 176, 259, 309, 309, 309, 309, 309, 309, 309, 301, 201, 309, 309, 309, 309, 280, 187], 105) := by decide +kernel
theorem dX9_controlField_112 : decode cX9_controlField 112 = .ok (.aload_n 0, 1) := by decide +kernel
theorem dX9_controlField_113 : decode cX9_controlField 113 = .ok (.getfield 57, 3) := by decide +kernel
theorem dX9_controlField_116 : decode cX9_controlField 116 = .ok (.iload_n 1, 1) := by decide +kernel
theorem dX9_controlField_117 : decode cX9_controlField 117 = .ok (.ifCond .lt 13, 3) := by decide +kernel
theorem dX9_controlField_120 : decode cX9_controlField 120 = .ok (.iload_n 1, 1) := by decide +kernel
theorem dX9_controlField_121 : decode cX9_controlField 121 = .ok (.bipush 16, 2) := by decide +kernel
theorem dX9_controlField_123 : decode cX9_controlField 123 = .ok (.if_icmp .ge 7, 3) := by decide +kernel
theorem dX9_controlField_126 : decode cX9_controlField 126 = .ok (.iload_n 1, 1) := by decide +kernel
theorem dX9_controlField_127 : decode cX9_controlField 127 = .ok (.goto 10, 3) := by decide +kernel
theorem dX9_controlField_130 : decode cX9_controlField 130 = .ok (.aload_n 0, 1) := by decide +kernel
theorem dX9_controlField_131 : decode cX9_controlField 131 = .ok (.getfield 57, 3) := by decide +kernel
theorem dX9_controlField_134 : decode cX9_controlField 134 = .ok (.getfield 399, 3) := by decide +kernel
theorem dX9_controlField_137 : decode cX9_controlField 137 = .ok (.putfield 399, 3) := by decide +kernel
theorem dX9_controlField_140 : decode cX9_controlField 140 = .ok (.goto 176, 3) := by decide +kernel
theorem dX9_controlField_143 : decode cX9_controlField 143 = .ok (.aload_n 0, 1) := by decide +kernel
theorem dX9_controlField_144 : decode cX9_controlField 144 = .ok (.getfield 57, 3) := by decide +kernel
theorem dX9_controlField_147 : decode cX9_controlField 147 = .ok (.iload_n 1, 1) := by decide +kernel
theorem dX9_controlField_148 : decode cX9_controlField 148 = .ok (.ifCond .lt 14, 3) := by decide +kernel
theorem dX9_controlField_151 : decode cX9_controlField 151 = .ok (.iload_n 1, 1) := by decide +kernel
theorem dX9_controlField_152 : decode cX9_controlField 152 = .ok (.sipush 256, 3) := by decide +kernel
theorem dX9_controlField_155 : decode cX9_controlField 155 = .ok (.if_icmp .ge 7, 3) := by decide +kernel
theorem dX9_controlField_158 : decode cX9_controlField 158 = .ok (.iload_n 1, 1) := by decide +kernel
theorem dX9_controlField_159 : decode cX9_controlField 159 = .ok (.goto 10, 3) := by decide +kernel
theorem dX9_controlField_162 : decode cX9_controlField 162 = .ok (.aload_n 0, 1) := by decide +kernel
theorem dX9_controlField_163 : decode cX9_controlField 163 = .ok (.getfield 57, 3) := by decide +kernel
theorem dX9_controlField_166 : decode cX9_controlField 166 = .ok (.getfield 402, 3) := by decide +kernel
theorem dX9_controlField_169 : decode cX9_controlField 169 = .ok (.putfield 402, 3) := by decide +kernel
theorem dX9_controlField_172 : decode cX9_controlField 172 = .ok (.goto 144, 3) := by decide +kernel
theorem dX9_controlField_175 : decode cX9_controlField 175 = .ok (.aload_n 0, 1) := by decide +kernel
theorem dX9_controlField_176 : decode cX9_controlField 176 = .ok (.iload_n 1, 1) := by decide +kernel
theorem dX9_controlField_177 : decode cX9_controlField 177 = .ok (.invokevirtual 584, 3) := by decide +kernel
theorem dX9_controlField_180 : decode cX9_controlField 180 = .ok (.goto 136, 3) := by decide +kernel
theorem dX9_controlField_183 : decode cX9_controlField 183 = .ok (.aload_n 0, 1) := by decide +kernel
theorem dX9_controlField_184 : decode cX9_controlField 184 = .ok (.getfield 57, 3) := by decide +kernel
theorem dX9_controlField_187 : decode cX9_controlField 187 = .ok (.iload_n 1, 1) := by decide +kernel
theorem dX9_controlField_188 : decode cX9_controlField 188 = .ok (.putfield 587, 3) := by decide +kernel
theorem dX9_controlField_191 : decode cX9_controlField 191 = .ok (.goto 125, 3) := by decide +kernel
theorem dX9_controlField_194 : decode cX9_controlField 194 = .ok (.aload_n 0, 1) := by decide +kernel
theorem dX9_controlField_195 : decode cX9_controlField 195 = .ok (.aload_n 0, 1) := by decide +kernel
theorem dX9_controlField_196 : decode cX9_controlField 196 = .ok (.getfield 57, 3) := by decide +kernel
theorem dX9_controlField_199 : decode cX9_controlField 199 = .ok (.getfield 587, 3) := by decide +kernel
theorem dX9_controlField_202 : decode cX9_controlField 202 = .ok (.invokevirtual 590, 3) := by decide +kernel
theorem dX9_controlField_205 : decode cX9_controlField 205 = .ok (.goto 111, 3) := by decide +kernel
theorem dX9_controlField_208 : decode cX9_controlField 208 = .ok (.aload_n 0, 1) := by decide +kernel
theorem dX9_controlField_209 : decode cX9_controlField 209 = .ok (.iload_n 1, 1) := by decide +kernel
theorem dX9_controlField_210 : decode cX9_controlField 210 = .ok (.invokevirtual 593, 3) := by decide +kernel
theorem dX9_controlField_213 : decode cX9_controlField 213 = .ok (.goto 103, 3) := by decide +kernel
theorem dX9_controlField_216 : decode cX9_controlField 216 = .ok (.aload_n 0, 1) := by decide +kernel
theorem dX9_controlField_217 : decode cX9_controlField 217 = .ok (.getfield 57, 3) := by decide +kernel
theorem dX9_controlField_220 : decode cX9_controlField 220 = .ok (.iload_n 1, 1) := by decide +kernel
theorem dX9_controlField_221 : decode cX9_controlField 221 = .ok (.ifCond .lt 7, 3) := by decide +kernel
theorem dX9_controlField_224 : decode cX9_controlField 224 = .ok (.iload_n 1, 1) := by decide +kernel
theorem dX9_controlField_225 : decode cX9_controlField 225 = .ok (.goto 10, 3) := by decide +kernel
theorem dX9_controlField_228 : decode cX9_controlField 228 = .ok (.aload_n 0, 1) := by decide +kernel
theorem dX9_controlField_229 : decode cX9_controlField 229 = .ok (.getfield 57, 3) := by decide +kernel
theorem dX9_controlField_232 : decode cX9_controlField 232 = .ok (.getfield 596, 3) := by decide +kernel
theorem dX9_controlField_235 : decode cX9_controlField 235 = .ok (.putfield 596, 3) := by decide +kernel
theorem dX9_controlField_238 : decode cX9_controlField 238 = .ok (.goto 78, 3) := by decide +kernel
theorem dX9_controlField_241 : decode cX9_controlField 241 = .ok (.aload_n 0, 1) := by decide +kernel
theorem dX9_controlField_242 : decode cX9_controlField 242 = .ok (.getfield 57, 3) := by decide +kernel
theorem dX9_controlField_245 : decode cX9_controlField 245 = .ok (.iload_n 1, 1) := by decide +kernel
theorem dX9_controlField_246 : decode cX9_controlField 246 = .ok (.ifCond .lt 7, 3) := by decide +kernel
theorem dX9_controlField_249 : decode cX9_controlField 249 = .ok (.iload_n 1, 1) := by decide +kernel
theorem dX9_controlField_250 : decode cX9_controlField 250 = .ok (.goto 10, 3) := by decide +kernel
theorem dX9_controlField_253 : decode cX9_controlField 253 = .ok (.aload_n 0, 1) := by decide +kernel
theorem dX9_controlField_254 : decode cX9_controlField 254 = .ok (.getfield 57, 3) := by decide +kernel
theorem dX9_controlField_257 : decode cX9_controlField 257 = .ok (.getfield 599, 3) := by decide +kernel
theorem dX9_controlField_260 : decode cX9_controlField 260 = .ok (.putfield 599, 3) := by decide +kernel
theorem dX9_controlField_263 : decode cX9_controlField 263 = .ok (.goto 53, 3) := by decide +kernel
theorem dX9_controlField_266 : decode cX9_controlField 266 = .ok (.aload_n 0, 1) := by decide +kernel
theorem dX9_controlField_267 : decode cX9_controlField 267 = .ok (.getfield 57, 3) := by decide +kernel
theorem dX9_controlField_270 : decode cX9_controlField 270 = .ok (.aload_n 0, 1) := by decide +kernel
theorem dX9_controlField_271 : decode cX9_controlField 271 = .ok (.aload_n 0, 1) := by decide +kernel
theorem dX9_controlField_272 : decode cX9_controlField 272 = .ok (.getfield 57, 3) := by decide +kernel
theorem dX9_controlField_275 : decode cX9_controlField 275 = .ok (.getfield 596, 3) := by decide +kernel
theorem dX9_controlField_278 : decode cX9_controlField 278 = .ok (.invokevirtual 602, 3) := by decide +kernel
theorem dX9_controlField_281 : decode cX9_controlField 281 = .ok (.putfield 596, 3) := by decide +kernel
theorem dX9_controlField_284 : decode cX9_controlField 284 = .ok (.goto 32, 3) := by decide +kernel
theorem dX9_controlField_287 : decode cX9_controlField 287 = .ok (.aload_n 0, 1) := by decide +kernel
theorem dX9_controlField_288 : decode cX9_controlField 288 = .ok (.getfield 57, 3) := by decide +kernel
theorem dX9_controlField_291 : decode cX9_controlField 291 = .ok (.aload_n 0, 1) := by decide +kernel
theorem dX9_controlField_292 : decode cX9_controlField 292 = .ok (.aload_n 0, 1) := by decide +kernel
theorem dX9_controlField_293 : decode cX9_controlField 293 = .ok (.getfield 57, 3) := by decide +kernel
theorem dX9_controlField_296 : decode cX9_controlField 296 = .ok (.getfield 599, 3) := by decide +kernel
theorem dX9_controlField_299 : decode cX9_controlField 299 = .ok (.invokevirtual 602, 3) := by decide +kernel
theorem dX9_controlField_302 : decode cX9_controlField 302 = .ok (.putfield 599, 3) := by decide +kernel
theorem dX9_controlField_305 : decode cX9_controlField 305 = .ok (.goto 11, 3) := by decide +kernel
theorem dX9_controlField_308 : decode cX9_controlField 308 = .ok (.aload_n 0, 1) := by decide +kernel
theorem dX9_controlField_309 : decode cX9_controlField 309 = .ok (.iload_n 1, 1) := by decide +kernel
theorem dX9_controlField_310 : decode cX9_controlField 310 = .ok (.invokevirtual 605, 3) := by decide +kernel
theorem dX9_controlField_313 : decode cX9_controlField 313 = .ok (.goto 3, 3) := by decide +kernel
theorem dX9_controlField_316 : decode cX9_controlField 316 = .ok (.return_, 1) := by decide +kernel

set_option maxRecDepth 100000 in
set_option maxHeartbeats 4000000 in
theorem c_cf65 (S : Hp) (ad : Nat → Nat) (hW : Wd ad S) (hR_913_ad6 : hR S 913 (ad 6) = some (ad 35)) (hI_505_ad35 : hI S 505 (ad 35) = 65) (v9 : Nat) (hv : v9 < 100) : Ct 6 yX9_controlField cX9_controlField 2 none 0 0 [.ref (ad 6), .int (nI v9)] S (fun r S' => r = none ∧ S' = (sI S 114 (ad 26) (nI v9))) := by
  refine ct_of (by decide) (Nat.le_of_ble_eq_true rfl) fun x hn9 C M hm9 => ?_
  have C : CB x RX9 cX9_controlField := C
  refine J.eq (lv' := [(0, .ref (ad 6)), (1, .int (nI v9))]) rfl rfl rfl ?_
  refine j_aload_n C dX9_controlField_0 rfl 0 rfl ?_
  refine j_getr (f := 913) (v := (ad 35)) C flX9_82 dX9_controlField_1 (wm_6 (S := S) hW) (wk_6 (S := S) hW) (by decide) rfl hR_913_ad6 ?_
  refine j_geti (f := 505) (v := 65) C flX9_327 dX9_controlField_4 (wm_35 (S := S) hW) (wk_35 (S := S) hW) (by decide) (by decide) rfl hI_505_ad35 ?_
  refine j_tabIn (off := 209) (tgt := 216) C dX9_controlField_7 (by decide) (by decide) (by decide) (by decide) ?_
  refine j_aload_n C dX9_controlField_216 rfl 0 rfl ?_
  refine j_getr (f := 909) (v := (ad 26)) C flX9_57 dX9_controlField_217 (wm_6 (S := S) hW) (wk_6 (S := S) hW) (by decide) rfl (wr_909_6 (S := S) hW) ?_
  refine j_iload_n C dX9_controlField_220 rfl 1 rfl ?_
  refine j_if_lt (tgt := 228) C dX9_controlField_221 (by decide) (fun c_221 => absurd c_221 (nI_pos (by omega))) (fun c_221 => ?_)
  show J _ _ _ _ _ 224 _
  refine j_iload_n C dX9_controlField_224 rfl 1 rfl ?_
  refine j_goto (tgt := 235) C dX9_controlField_225 (by decide) ?_
  refine j_puti (f := 114) C flX9_596 (by decide) rfl rfl dX9_controlField_235 (wm_26 (S := S) hW) (wk_26 (S := S) hW) rfl ?_
  refine j_goto (tgt := 316) C dX9_controlField_238 (by decide) ?_
  exact j_vret C M dX9_controlField_316 (by decide) (by decide) ⟨rfl, rfl⟩

set_option maxRecDepth 100000 in
set_option maxHeartbeats 4000000 in
theorem c_cf66 (S : Hp) (ad : Nat → Nat) (hW : Wd ad S) (hR_913_ad6 : hR S 913 (ad 6) = some (ad 35)) (hI_505_ad35 : hI S 505 (ad 35) = 66) (v9 : Nat) (hv : v9 < 100) : Ct 6 yX9_controlField cX9_controlField 2 none 0 0 [.ref (ad 6), .int (nI v9)] S (fun r S' => r = none ∧ S' = (sI S 115 (ad 26) (nI v9))) := by
  refine ct_of (by decide) (Nat.le_of_ble_eq_true rfl) fun x hn9 C M hm9 => ?_
  have C : CB x RX9 cX9_controlField := C
  refine J.eq (lv' := [(0, .ref (ad 6)), (1, .int (nI v9))]) rfl rfl rfl ?_
  refine j_aload_n C dX9_controlField_0 rfl 0 rfl ?_
  refine j_getr (f := 913) (v := (ad 35)) C flX9_82 dX9_controlField_1 (wm_6 (S := S) hW) (wk_6 (S := S) hW) (by decide) rfl hR_913_ad6 ?_
  refine j_geti (f := 505) (v := 66) C flX9_327 dX9_controlField_4 (wm_35 (S := S) hW) (wk_35 (S := S) hW) (by decide) (by decide) rfl hI_505_ad35 ?_
  refine j_tabIn (off := 234) (tgt := 241) C dX9_controlField_7 (by decide) (by decide) (by decide) (by decide) ?_
  refine j_aload_n C dX9_controlField_241 rfl 0 rfl ?_
  refine j_getr (f := 909) (v := (ad 26)) C flX9_57 dX9_controlField_242 (wm_6 (S := S) hW) (wk_6 (S := S) hW) (by decide) rfl (wr_909_6 (S := S) hW) ?_
  refine j_iload_n C dX9_controlField_245 rfl 1 rfl ?_
  refine j_if_lt (tgt := 253) C dX9_controlField_246 (by decide) (fun c_246 => absurd c_246 (nI_pos (by omega))) (fun c_246 => ?_)
  show J _ _ _ _ _ 249 _
  refine j_iload_n C dX9_controlField_249 rfl 1 rfl ?_
  refine j_goto (tgt := 260) C dX9_controlField_250 (by decide) ?_
  refine j_puti (f := 115) C flX9_599 (by decide) rfl rfl dX9_controlField_260 (wm_26 (S := S) hW) (wk_26 (S := S) hW) rfl ?_
  refine j_goto (tgt := 316) C dX9_controlField_263 (by decide) ?_
  exact j_vret C M dX9_controlField_316 (by decide) (by decide) ⟨rfl, rfl⟩

set_option maxRecDepth 100000 in
set_option maxHeartbeats 4000000 in
theorem c_cf71 (S : Hp) (ad : Nat → Nat) (hW : Wd ad S) (hR_913_ad6 : hR S 913 (ad 6) = some (ad 35)) (hI_505_ad35 : hI S 505 (ad 35) = 71) (v9 : Nat) (hv : v9 < 100) : Ct 6 yX9_controlField cX9_controlField 2 none 0 0 [.ref (ad 6), .int (nI v9)] S (fun r S' => r = none ∧ S' = (sI S 118 (ad 26) (nI v9))) := by
  refine ct_of (by decide) (Nat.le_of_ble_eq_true rfl) fun x hn9 C M hm9 => ?_
  have C : CB x RX9 cX9_controlField := C
  refine J.eq (lv' := [(0, .ref (ad 6)), (1, .int (nI v9))]) rfl rfl rfl ?_
  refine j_aload_n C dX9_controlField_0 rfl 0 rfl ?_
  refine j_getr (f := 913) (v := (ad 35)) C flX9_82 dX9_controlField_1 (wm_6 (S := S) hW) (wk_6 (S := S) hW) (by decide) rfl hR_913_ad6 ?_
  refine j_geti (f := 505) (v := 71) C flX9_327 dX9_controlField_4 (wm_35 (S := S) hW) (wk_35 (S := S) hW) (by decide) (by decide) rfl hI_505_ad35 ?_
  refine j_tabIn (off := 176) (tgt := 183) C dX9_controlField_7 (by decide) (by decide) (by decide) (by decide) ?_
  refine j_aload_n C dX9_controlField_183 rfl 0 rfl ?_
  refine j_getr (f := 909) (v := (ad 26)) C flX9_57 dX9_controlField_184 (wm_6 (S := S) hW) (wk_6 (S := S) hW) (by decide) rfl (wr_909_6 (S := S) hW) ?_
  refine j_iload_n C dX9_controlField_187 rfl 1 rfl ?_
  refine j_puti (f := 118) C flX9_587 (by decide) rfl rfl dX9_controlField_188 (wm_26 (S := S) hW) (wk_26 (S := S) hW) rfl ?_
  show J _ _ _ _ _ 191 _
  refine j_goto (tgt := 316) C dX9_controlField_191 (by decide) ?_
  exact j_vret C M dX9_controlField_316 (by decide) (by decide) ⟨rfl, rfl⟩

set_option maxRecDepth 100000 in
set_option maxHeartbeats 4000000 in
theorem c_cfP0 (S : Hp) (ad : Nat → Nat) (hW : Wd ad S) (xu : Nat) (yu : Nat) (bw : Nat) (bh : Nat) (cv : Nat) (mk : Nat) (gn : Nat) (pn : Nat) (po : Bool) (P : Nat → Nat → Bool) (hI_700_ad27 : hI S 700 (ad 27) = 0) (hI_701_ad27 : hI S 701 (ad 27) = 0) (hI_706_ad27 : hI S 706 (ad 27) = nI xu) (hI_707_ad27 : hI S 707 (ad 27) = nI yu) (hI_2_ad12 : hI S 2 (ad 12) = nI mk) (hI_3_ad12 : hI S 3 (ad 12) = nI mk) (hI_4_ad12 : hI S 4 (ad 12) = nI cv) (hI_916_ad6 : hI S 916 (ad 6) = nI gn) (hI_5_ad12 : hI S 5 (ad 12) = 0) (hI_603_ad5 : hI S 603 (ad 5) = 0) (hI_110_ad26 : hI S 110 (ad 26) = 0) (hI_111_ad26 : hI S 111 (ad 26) = cI po) (hI_112_ad26 : hI S 112 (ad 26) = 0) (hI_113_ad26 : hI S 113 (ad 26) = 0) (hI_114_ad26 : hI S 114 (ad 26) = nI bw) (hI_115_ad26 : hI S 115 (ad 26) = nI bh) (hI_118_ad26 : hI S 118 (ad 26) = nI pn) (hcv : CVP (aI S (ad 13)) P) (h1 : 1 ≤ pn) (h2 : pn ≤ 100) (hx : xu / 96 + bw ≤ 200) (hy : yu / 96 + bh ≤ 240) (hw : 0 < bw) (hh : 0 < bh) (hc : cv + bw * bh ≤ 5000000) (hm : mk < 2000) (hg : gn ≤ 60000) (hxu : xu < 100000) (hyu : yu < 100000) (hR_913_ad6 : hR S 913 (ad 6) = some (ad 35)) (hI_505_ad35 : hI S 505 (ad 35) = 80) : Ct 6 yX9_controlField cX9_controlField 2 none 0 0 [.ref (ad 6), .int 0] S (fun r S' => r = none ∧ Fm (fun f9 b9 => (f9 = 1000 ∧ b9 = (ad 24)) ∨ (f9 = 1001 ∧ b9 = (ad 24)) ∨ (f9 = 1002 ∧ b9 = (ad 24)) ∨ (f9 = 2 ∧ b9 = (ad 12)) ∨ (f9 = 3 ∧ b9 = (ad 12)) ∨ (f9 = 4 ∧ b9 = (ad 12)) ∨ (f9 = 6 ∧ b9 = (ad 12)) ∨ (f9 = 7 ∧ b9 = (ad 12)) ∨ (f9 = 8 ∧ b9 = (ad 12)) ∨ (f9 = 9 ∧ b9 = (ad 12)) ∨ (f9 = 11 ∧ b9 = (ad 12)) ∨ (f9 = 12 ∧ b9 = (ad 12)) ∨ (f9 = 13 ∧ b9 = (ad 12)) ∨ (f9 = 14 ∧ b9 = (ad 12))) (fun f9 b9 => (f9 = 10 ∧ b9 = (ad 12))) (fun b9 => b9 = (ad 25) ∨ b9 = (ad 14) ∨ b9 = (ad 13)) S S' ∧ hI S' 2 (ad 12) = nI (mk + 1) ∧ hI S' 3 (ad 12) = nI (mk + 1) ∧ hI S' 4 (ad 12) = nI (cv + bw * bh) ∧ CVP (aI S' (ad 13)) (boxP 0 pn po (xu / 96) (yu / 96) bw bh P)) := by
  refine ct_of (by decide) (Nat.le_of_ble_eq_true rfl) fun x hn9 C M hm9 => ?_
  have C : CB x RX9 cX9_controlField := C
  refine J.eq (lv' := [(0, .ref (ad 6)), (1, .int 0)]) rfl rfl rfl ?_
  refine j_aload_n C dX9_controlField_0 rfl 0 rfl ?_
  refine j_getr (f := 913) (v := (ad 35)) C flX9_82 dX9_controlField_1 (wm_6 (S := S) hW) (wk_6 (S := S) hW) (by decide) rfl hR_913_ad6 ?_
  refine j_geti (f := 505) (v := 80) C flX9_327 dX9_controlField_4 (wm_35 (S := S) hW) (wk_35 (S := S) hW) (by decide) (by decide) rfl hI_505_ad35 ?_
  refine j_tabIn (off := 301) (tgt := 308) C dX9_controlField_7 (by decide) (by decide) (by decide) (by decide) ?_
  refine j_aload_n C dX9_controlField_308 rfl 0 rfl ?_
  refine j_iload_n C dX9_controlField_309 rfl 1 rfl ?_
  refine j_callV (ci := 9) C [.int 0] [] mlX9_605 mcX9_box (c_box0 S ad hW xu yu bw bh cv mk gn pn po P hI_700_ad27 hI_701_ad27 hI_706_ad27 hI_707_ad27 hI_2_ad12 hI_3_ad12 hI_4_ad12 hI_916_ad6 hI_5_ad12 hI_603_ad5 hI_110_ad26 hI_111_ad26 hI_112_ad26 hI_113_ad26 hI_114_ad26 hI_115_ad26 hI_118_ad26 hcv h1 h2 hx hy hw hh hc hm hg hxu hyu) (wm_6 (S := S) hW) (wk_6 (S := S) hW) rfl (M.rm (by decide) (by decide) (Nat.le_of_ble_eq_true rfl) (Nat.le_of_ble_eq_true rfl)) rfl rfl (Nat.le_of_ble_eq_true rfl) dX9_controlField_310 (fun r_5 S_6 hp_7 => ?_)
  obtain ⟨rfl, hf_8, e_1, e_2, e_3, x_4⟩ := hp_7
  refine J.eq (st' := []) rfl rfl rfl ?_
  have hv_9 : hI S_6 110 (ad 26) = 0 := hf_8.fi (wm_26 (S := S) hW) (fun h9 => h9.elim (fun q9 => absurd q9.1 (by decide)) (fun h9 => h9.elim (fun q9 => absurd q9.1 (by decide)) (fun h9 => h9.elim (fun q9 => absurd q9.1 (by decide)) (fun h9 => h9.elim (fun q9 => absurd q9.1 (by decide)) (fun h9 => h9.elim (fun q9 => absurd q9.1 (by decide)) (fun h9 => h9.elim (fun q9 => absurd q9.1 (by decide)) (fun h9 => h9.elim (fun q9 => absurd q9.1 (by decide)) (fun h9 => h9.elim (fun q9 => absurd q9.1 (by decide)) (fun h9 => h9.elim (fun q9 => absurd q9.1 (by decide)) (fun h9 => h9.elim (fun q9 => absurd q9.1 (by decide)) (fun h9 => h9.elim (fun q9 => absurd q9.1 (by decide)) (fun h9 => h9.elim (fun q9 => absurd q9.1 (by decide)) (fun h9 => h9.elim (fun q9 => absurd q9.1 (by decide)) (fun q9 => absurd q9.1 (by decide))))))))))))))) hI_110_ad26
  have hv_10 : hI S_6 111 (ad 26) = cI po := hf_8.fi (wm_26 (S := S) hW) (fun h9 => h9.elim (fun q9 => absurd q9.1 (by decide)) (fun h9 => h9.elim (fun q9 => absurd q9.1 (by decide)) (fun h9 => h9.elim (fun q9 => absurd q9.1 (by decide)) (fun h9 => h9.elim (fun q9 => absurd q9.1 (by decide)) (fun h9 => h9.elim (fun q9 => absurd q9.1 (by decide)) (fun h9 => h9.elim (fun q9 => absurd q9.1 (by decide)) (fun h9 => h9.elim (fun q9 => absurd q9.1 (by decide)) (fun h9 => h9.elim (fun q9 => absurd q9.1 (by decide)) (fun h9 => h9.elim (fun q9 => absurd q9.1 (by decide)) (fun h9 => h9.elim (fun q9 => absurd q9.1 (by decide)) (fun h9 => h9.elim (fun q9 => absurd q9.1 (by decide)) (fun h9 => h9.elim (fun q9 => absurd q9.1 (by decide)) (fun h9 => h9.elim (fun q9 => absurd q9.1 (by decide)) (fun q9 => absurd q9.1 (by decide))))))))))))))) hI_111_ad26
  have hv_11 : hI S_6 112 (ad 26) = 0 := hf_8.fi (wm_26 (S := S) hW) (fun h9 => h9.elim (fun q9 => absurd q9.1 (by decide)) (fun h9 => h9.elim (fun q9 => absurd q9.1 (by decide)) (fun h9 => h9.elim (fun q9 => absurd q9.1 (by decide)) (fun h9 => h9.elim (fun q9 => absurd q9.1 (by decide)) (fun h9 => h9.elim (fun q9 => absurd q9.1 (by decide)) (fun h9 => h9.elim (fun q9 => absurd q9.1 (by decide)) (fun h9 => h9.elim (fun q9 => absurd q9.1 (by decide)) (fun h9 => h9.elim (fun q9 => absurd q9.1 (by decide)) (fun h9 => h9.elim (fun q9 => absurd q9.1 (by decide)) (fun h9 => h9.elim (fun q9 => absurd q9.1 (by decide)) (fun h9 => h9.elim (fun q9 => absurd q9.1 (by decide)) (fun h9 => h9.elim (fun q9 => absurd q9.1 (by decide)) (fun h9 => h9.elim (fun q9 => absurd q9.1 (by decide)) (fun q9 => absurd q9.1 (by decide))))))))))))))) hI_112_ad26
  have hv_12 : hI S_6 113 (ad 26) = 0 := hf_8.fi (wm_26 (S := S) hW) (fun h9 => h9.elim (fun q9 => absurd q9.1 (by decide)) (fun h9 => h9.elim (fun q9 => absurd q9.1 (by decide)) (fun h9 => h9.elim (fun q9 => absurd q9.1 (by decide)) (fun h9 => h9.elim (fun q9 => absurd q9.1 (by decide)) (fun h9 => h9.elim (fun q9 => absurd q9.1 (by decide)) (fun h9 => h9.elim (fun q9 => absurd q9.1 (by decide)) (fun h9 => h9.elim (fun q9 => absurd q9.1 (by decide)) (fun h9 => h9.elim (fun q9 => absurd q9.1 (by decide)) (fun h9 => h9.elim (fun q9 => absurd q9.1 (by decide)) (fun h9 => h9.elim (fun q9 => absurd q9.1 (by decide)) (fun h9 => h9.elim (fun q9 => absurd q9.1 (by decide)) (fun h9 => h9.elim (fun q9 => absurd q9.1 (by decide)) (fun h9 => h9.elim (fun q9 => absurd q9.1 (by decide)) (fun q9 => absurd q9.1 (by decide))))))))))))))) hI_113_ad26
  have hv_13 : hI S_6 114 (ad 26) = nI bw := hf_8.fi (wm_26 (S := S) hW) (fun h9 => h9.elim (fun q9 => absurd q9.1 (by decide)) (fun h9 => h9.elim (fun q9 => absurd q9.1 (by decide)) (fun h9 => h9.elim (fun q9 => absurd q9.1 (by decide)) (fun h9 => h9.elim (fun q9 => absurd q9.1 (by decide)) (fun h9 => h9.elim (fun q9 => absurd q9.1 (by decide)) (fun h9 => h9.elim (fun q9 => absurd q9.1 (by decide)) (fun h9 => h9.elim (fun q9 => absurd q9.1 (by decide)) (fun h9 => h9.elim (fun q9 => absurd q9.1 (by decide)) (fun h9 => h9.elim (fun q9 => absurd q9.1 (by decide)) (fun h9 => h9.elim (fun q9 => absurd q9.1 (by decide)) (fun h9 => h9.elim (fun q9 => absurd q9.1 (by decide)) (fun h9 => h9.elim (fun q9 => absurd q9.1 (by decide)) (fun h9 => h9.elim (fun q9 => absurd q9.1 (by decide)) (fun q9 => absurd q9.1 (by decide))))))))))))))) hI_114_ad26
  have hv_14 : hI S_6 115 (ad 26) = nI bh := hf_8.fi (wm_26 (S := S) hW) (fun h9 => h9.elim (fun q9 => absurd q9.1 (by decide)) (fun h9 => h9.elim (fun q9 => absurd q9.1 (by decide)) (fun h9 => h9.elim (fun q9 => absurd q9.1 (by decide)) (fun h9 => h9.elim (fun q9 => absurd q9.1 (by decide)) (fun h9 => h9.elim (fun q9 => absurd q9.1 (by decide)) (fun h9 => h9.elim (fun q9 => absurd q9.1 (by decide)) (fun h9 => h9.elim (fun q9 => absurd q9.1 (by decide)) (fun h9 => h9.elim (fun q9 => absurd q9.1 (by decide)) (fun h9 => h9.elim (fun q9 => absurd q9.1 (by decide)) (fun h9 => h9.elim (fun q9 => absurd q9.1 (by decide)) (fun h9 => h9.elim (fun q9 => absurd q9.1 (by decide)) (fun h9 => h9.elim (fun q9 => absurd q9.1 (by decide)) (fun h9 => h9.elim (fun q9 => absurd q9.1 (by decide)) (fun q9 => absurd q9.1 (by decide))))))))))))))) hI_115_ad26
  have hv_15 : hI S_6 118 (ad 26) = nI pn := hf_8.fi (wm_26 (S := S) hW) (fun h9 => h9.elim (fun q9 => absurd q9.1 (by decide)) (fun h9 => h9.elim (fun q9 => absurd q9.1 (by decide)) (fun h9 => h9.elim (fun q9 => absurd q9.1 (by decide)) (fun h9 => h9.elim (fun q9 => absurd q9.1 (by decide)) (fun h9 => h9.elim (fun q9 => absurd q9.1 (by decide)) (fun h9 => h9.elim (fun q9 => absurd q9.1 (by decide)) (fun h9 => h9.elim (fun q9 => absurd q9.1 (by decide)) (fun h9 => h9.elim (fun q9 => absurd q9.1 (by decide)) (fun h9 => h9.elim (fun q9 => absurd q9.1 (by decide)) (fun h9 => h9.elim (fun q9 => absurd q9.1 (by decide)) (fun h9 => h9.elim (fun q9 => absurd q9.1 (by decide)) (fun h9 => h9.elim (fun q9 => absurd q9.1 (by decide)) (fun h9 => h9.elim (fun q9 => absurd q9.1 (by decide)) (fun q9 => absurd q9.1 (by decide))))))))))))))) hI_118_ad26
  have hv_16 : hI S_6 5 (ad 12) = 0 := hf_8.fi (wm_12 (S := S) hW) (fun h9 => h9.elim (fun q9 => absurd q9.1 (by decide)) (fun h9 => h9.elim (fun q9 => absurd q9.1 (by decide)) (fun h9 => h9.elim (fun q9 => absurd q9.1 (by decide)) (fun h9 => h9.elim (fun q9 => absurd q9.1 (by decide)) (fun h9 => h9.elim (fun q9 => absurd q9.1 (by decide)) (fun h9 => h9.elim (fun q9 => absurd q9.1 (by decide)) (fun h9 => h9.elim (fun q9 => absurd q9.1 (by decide)) (fun h9 => h9.elim (fun q9 => absurd q9.1 (by decide)) (fun h9 => h9.elim (fun q9 => absurd q9.1 (by decide)) (fun h9 => h9.elim (fun q9 => absurd q9.1 (by decide)) (fun h9 => h9.elim (fun q9 => absurd q9.1 (by decide)) (fun h9 => h9.elim (fun q9 => absurd q9.1 (by decide)) (fun h9 => h9.elim (fun q9 => absurd q9.1 (by decide)) (fun q9 => absurd q9.1 (by decide))))))))))))))) hI_5_ad12
  have hv_17 : hI S_6 505 (ad 35) = 80 := hf_8.fi (wm_35 (S := S) hW) (fun h9 => h9.elim (fun q9 => absurd q9.1 (by decide)) (fun h9 => h9.elim (fun q9 => absurd q9.1 (by decide)) (fun h9 => h9.elim (fun q9 => absurd q9.1 (by decide)) (fun h9 => h9.elim (fun q9 => absurd q9.1 (by decide)) (fun h9 => h9.elim (fun q9 => absurd q9.1 (by decide)) (fun h9 => h9.elim (fun q9 => absurd q9.1 (by decide)) (fun h9 => h9.elim (fun q9 => absurd q9.1 (by decide)) (fun h9 => h9.elim (fun q9 => absurd q9.1 (by decide)) (fun h9 => h9.elim (fun q9 => absurd q9.1 (by decide)) (fun h9 => h9.elim (fun q9 => absurd q9.1 (by decide)) (fun h9 => h9.elim (fun q9 => absurd q9.1 (by decide)) (fun h9 => h9.elim (fun q9 => absurd q9.1 (by decide)) (fun h9 => h9.elim (fun q9 => absurd q9.1 (by decide)) (fun q9 => absurd q9.1 (by decide))))))))))))))) hI_505_ad35
  have hv_18 : hI S_6 603 (ad 5) = 0 := hf_8.fi (wm_5 (S := S) hW) (fun h9 => h9.elim (fun q9 => absurd q9.1 (by decide)) (fun h9 => h9.elim (fun q9 => absurd q9.1 (by decide)) (fun h9 => h9.elim (fun q9 => absurd q9.1 (by decide)) (fun h9 => h9.elim (fun q9 => absurd q9.1 (by decide)) (fun h9 => h9.elim (fun q9 => absurd q9.1 (by decide)) (fun h9 => h9.elim (fun q9 => absurd q9.1 (by decide)) (fun h9 => h9.elim (fun q9 => absurd q9.1 (by decide)) (fun h9 => h9.elim (fun q9 => absurd q9.1 (by decide)) (fun h9 => h9.elim (fun q9 => absurd q9.1 (by decide)) (fun h9 => h9.elim (fun q9 => absurd q9.1 (by decide)) (fun h9 => h9.elim (fun q9 => absurd q9.1 (by decide)) (fun h9 => h9.elim (fun q9 => absurd q9.1 (by decide)) (fun h9 => h9.elim (fun q9 => absurd q9.1 (by decide)) (fun q9 => absurd q9.1 (by decide))))))))))))))) hI_603_ad5
  have hv_19 : hI S_6 700 (ad 27) = 0 := hf_8.fi (wm_27 (S := S) hW) (fun h9 => h9.elim (fun q9 => absurd q9.1 (by decide)) (fun h9 => h9.elim (fun q9 => absurd q9.1 (by decide)) (fun h9 => h9.elim (fun q9 => absurd q9.1 (by decide)) (fun h9 => h9.elim (fun q9 => absurd q9.1 (by decide)) (fun h9 => h9.elim (fun q9 => absurd q9.1 (by decide)) (fun h9 => h9.elim (fun q9 => absurd q9.1 (by decide)) (fun h9 => h9.elim (fun q9 => absurd q9.1 (by decide)) (fun h9 => h9.elim (fun q9 => absurd q9.1 (by decide)) (fun h9 => h9.elim (fun q9 => absurd q9.1 (by decide)) (fun h9 => h9.elim (fun q9 => absurd q9.1 (by decide)) (fun h9 => h9.elim (fun q9 => absurd q9.1 (by decide)) (fun h9 => h9.elim (fun q9 => absurd q9.1 (by decide)) (fun h9 => h9.elim (fun q9 => absurd q9.1 (by decide)) (fun q9 => absurd q9.1 (by decide))))))))))))))) hI_700_ad27
  have hv_20 : hI S_6 701 (ad 27) = 0 := hf_8.fi (wm_27 (S := S) hW) (fun h9 => h9.elim (fun q9 => absurd q9.1 (by decide)) (fun h9 => h9.elim (fun q9 => absurd q9.1 (by decide)) (fun h9 => h9.elim (fun q9 => absurd q9.1 (by decide)) (fun h9 => h9.elim (fun q9 => absurd q9.1 (by decide)) (fun h9 => h9.elim (fun q9 => absurd q9.1 (by decide)) (fun h9 => h9.elim (fun q9 => absurd q9.1 (by decide)) (fun h9 => h9.elim (fun q9 => absurd q9.1 (by decide)) (fun h9 => h9.elim (fun q9 => absurd q9.1 (by decide)) (fun h9 => h9.elim (fun q9 => absurd q9.1 (by decide)) (fun h9 => h9.elim (fun q9 => absurd q9.1 (by decide)) (fun h9 => h9.elim (fun q9 => absurd q9.1 (by decide)) (fun h9 => h9.elim (fun q9 => absurd q9.1 (by decide)) (fun h9 => h9.elim (fun q9 => absurd q9.1 (by decide)) (fun q9 => absurd q9.1 (by decide))))))))))))))) hI_701_ad27
  have hv_21 : hI S_6 706 (ad 27) = nI xu := hf_8.fi (wm_27 (S := S) hW) (fun h9 => h9.elim (fun q9 => absurd q9.1 (by decide)) (fun h9 => h9.elim (fun q9 => absurd q9.1 (by decide)) (fun h9 => h9.elim (fun q9 => absurd q9.1 (by decide)) (fun h9 => h9.elim (fun q9 => absurd q9.1 (by decide)) (fun h9 => h9.elim (fun q9 => absurd q9.1 (by decide)) (fun h9 => h9.elim (fun q9 => absurd q9.1 (by decide)) (fun h9 => h9.elim (fun q9 => absurd q9.1 (by decide)) (fun h9 => h9.elim (fun q9 => absurd q9.1 (by decide)) (fun h9 => h9.elim (fun q9 => absurd q9.1 (by decide)) (fun h9 => h9.elim (fun q9 => absurd q9.1 (by decide)) (fun h9 => h9.elim (fun q9 => absurd q9.1 (by decide)) (fun h9 => h9.elim (fun q9 => absurd q9.1 (by decide)) (fun h9 => h9.elim (fun q9 => absurd q9.1 (by decide)) (fun q9 => absurd q9.1 (by decide))))))))))))))) hI_706_ad27
  have hv_22 : hI S_6 707 (ad 27) = nI yu := hf_8.fi (wm_27 (S := S) hW) (fun h9 => h9.elim (fun q9 => absurd q9.1 (by decide)) (fun h9 => h9.elim (fun q9 => absurd q9.1 (by decide)) (fun h9 => h9.elim (fun q9 => absurd q9.1 (by decide)) (fun h9 => h9.elim (fun q9 => absurd q9.1 (by decide)) (fun h9 => h9.elim (fun q9 => absurd q9.1 (by decide)) (fun h9 => h9.elim (fun q9 => absurd q9.1 (by decide)) (fun h9 => h9.elim (fun q9 => absurd q9.1 (by decide)) (fun h9 => h9.elim (fun q9 => absurd q9.1 (by decide)) (fun h9 => h9.elim (fun q9 => absurd q9.1 (by decide)) (fun h9 => h9.elim (fun q9 => absurd q9.1 (by decide)) (fun h9 => h9.elim (fun q9 => absurd q9.1 (by decide)) (fun h9 => h9.elim (fun q9 => absurd q9.1 (by decide)) (fun h9 => h9.elim (fun q9 => absurd q9.1 (by decide)) (fun q9 => absurd q9.1 (by decide))))))))))))))) hI_707_ad27
  have hv_23 : hI S_6 916 (ad 6) = nI gn := hf_8.fi (wm_6 (S := S) hW) (fun h9 => h9.elim (fun q9 => absurd q9.1 (by decide)) (fun h9 => h9.elim (fun q9 => absurd q9.1 (by decide)) (fun h9 => h9.elim (fun q9 => absurd q9.1 (by decide)) (fun h9 => h9.elim (fun q9 => absurd q9.1 (by decide)) (fun h9 => h9.elim (fun q9 => absurd q9.1 (by decide)) (fun h9 => h9.elim (fun q9 => absurd q9.1 (by decide)) (fun h9 => h9.elim (fun q9 => absurd q9.1 (by decide)) (fun h9 => h9.elim (fun q9 => absurd q9.1 (by decide)) (fun h9 => h9.elim (fun q9 => absurd q9.1 (by decide)) (fun h9 => h9.elim (fun q9 => absurd q9.1 (by decide)) (fun h9 => h9.elim (fun q9 => absurd q9.1 (by decide)) (fun h9 => h9.elim (fun q9 => absurd q9.1 (by decide)) (fun h9 => h9.elim (fun q9 => absurd q9.1 (by decide)) (fun q9 => absurd q9.1 (by decide))))))))))))))) hI_916_ad6
  have hv_24 : hR S_6 913 (ad 6) = (some (ad 35)) := hf_8.fr (wm_6 (S := S) hW) (fun q9 => absurd q9.1 (by decide)) hR_913_ad6
  have hf_25 : Fm (fun f9 b9 => (f9 = 1000 ∧ b9 = (ad 24)) ∨ (f9 = 1001 ∧ b9 = (ad 24)) ∨ (f9 = 1002 ∧ b9 = (ad 24)) ∨ (f9 = 2 ∧ b9 = (ad 12)) ∨ (f9 = 3 ∧ b9 = (ad 12)) ∨ (f9 = 4 ∧ b9 = (ad 12)) ∨ (f9 = 6 ∧ b9 = (ad 12)) ∨ (f9 = 7 ∧ b9 = (ad 12)) ∨ (f9 = 8 ∧ b9 = (ad 12)) ∨ (f9 = 9 ∧ b9 = (ad 12)) ∨ (f9 = 11 ∧ b9 = (ad 12)) ∨ (f9 = 12 ∧ b9 = (ad 12)) ∨ (f9 = 13 ∧ b9 = (ad 12)) ∨ (f9 = 14 ∧ b9 = (ad 12))) (fun f9 b9 => (f9 = 10 ∧ b9 = (ad 12))) (fun b9 => b9 = (ad 25) ∨ b9 = (ad 14) ∨ b9 = (ad 13)) S S_6 := (Fm.refl (WI := (fun f9 b9 => (f9 = 1000 ∧ b9 = (ad 24)) ∨ (f9 = 1001 ∧ b9 = (ad 24)) ∨ (f9 = 1002 ∧ b9 = (ad 24)) ∨ (f9 = 2 ∧ b9 = (ad 12)) ∨ (f9 = 3 ∧ b9 = (ad 12)) ∨ (f9 = 4 ∧ b9 = (ad 12)) ∨ (f9 = 6 ∧ b9 = (ad 12)) ∨ (f9 = 7 ∧ b9 = (ad 12)) ∨ (f9 = 8 ∧ b9 = (ad 12)) ∨ (f9 = 9 ∧ b9 = (ad 12)) ∨ (f9 = 11 ∧ b9 = (ad 12)) ∨ (f9 = 12 ∧ b9 = (ad 12)) ∨ (f9 = 13 ∧ b9 = (ad 12)) ∨ (f9 = 14 ∧ b9 = (ad 12)))) (WR := (fun f9 b9 => (f9 = 10 ∧ b9 = (ad 12)))) (WA := (fun b9 => b9 = (ad 25) ∨ b9 = (ad 14) ∨ b9 = (ad 13)))).then hf_8 (fun a9 ha9 => ⟨(fun f9 h9 => (fun h9 => h9.elim (fun h8 => (Or.inl h8)) (fun h9 => h9.elim (fun h8 => (Or.inr (Or.inl h8))) (fun h9 => h9.elim (fun h8 => (Or.inr (Or.inr (Or.inl h8)))) (fun h9 => h9.elim (fun h8 => (Or.inr (Or.inr (Or.inr (Or.inl h8))))) (fun h9 => h9.elim (fun h8 => (Or.inr (Or.inr (Or.inr (Or.inr (Or.inl h8)))))) (fun h9 => h9.elim (fun h8 => (Or.inr (Or.inr (Or.inr (Or.inr (Or.inr (Or.inl h8))))))) (fun h9 => h9.elim (fun h8 => (Or.inr (Or.inr (Or.inr (Or.inr (Or.inr (Or.inr (Or.inl h8)))))))) (fun h9 => h9.elim (fun h8 => (Or.inr (Or.inr (Or.inr (Or.inr (Or.inr (Or.inr (Or.inr (Or.inl h8))))))))) (fun h9 => h9.elim (fun h8 => (Or.inr (Or.inr (Or.inr (Or.inr (Or.inr (Or.inr (Or.inr (Or.inr (Or.inl h8)))))))))) (fun h9 => h9.elim (fun h8 => (Or.inr (Or.inr (Or.inr (Or.inr (Or.inr (Or.inr (Or.inr (Or.inr (Or.inr (Or.inl h8))))))))))) (fun h9 => h9.elim (fun h8 => (Or.inr (Or.inr (Or.inr (Or.inr (Or.inr (Or.inr (Or.inr (Or.inr (Or.inr (Or.inr (Or.inl h8)))))))))))) (fun h9 => h9.elim (fun h8 => (Or.inr (Or.inr (Or.inr (Or.inr (Or.inr (Or.inr (Or.inr (Or.inr (Or.inr (Or.inr (Or.inr (Or.inl h8))))))))))))) (fun h9 => h9.elim (fun h8 => (Or.inr (Or.inr (Or.inr (Or.inr (Or.inr (Or.inr (Or.inr (Or.inr (Or.inr (Or.inr (Or.inr (Or.inr (Or.inl h8)))))))))))))) (fun h8 => (Or.inr (Or.inr (Or.inr (Or.inr (Or.inr (Or.inr (Or.inr (Or.inr (Or.inr (Or.inr (Or.inr (Or.inr (Or.inr h8))))))))))))))))))))))))))) h9), (fun f9 h9 => (fun h8 => h8) h9), (fun h9 => (fun h9 => h9.elim (fun h8 => (Or.inl h8)) (fun h9 => h9.elim (fun h8 => (Or.inr (Or.inl h8))) (fun h8 => (Or.inr (Or.inr h8))))) h9)⟩)
  have hW_26 : Wd ad S_6 := hW.fm hf_8 (by intro p9 hp9 h9; obtain ⟨e1, e2⟩ := h9 <;> exact wp_dyn p9 hp9 (by rw [e1]; decide)) (by intro p9 hp9; simp only [wqL, List.mem_cons, List.not_mem_nil, or_false] at hp9; rcases hp9 with rfl | rfl <;> intro h9 <;> rcases h9 with h9 | h9 | h9 <;> exact absurd h9 (wn hW (by decide) (by decide) (by decide)))
  refine j_goto (tgt := 316) C dX9_controlField_313 (by decide) ?_
  show J _ _ _ _ _ 316 _
  exact j_vret C M dX9_controlField_316 (Nat.le_of_ble_eq_true rfl) (Nat.le_of_ble_eq_true rfl) ⟨rfl, hf_25, e_1, e_2, e_3, x_4⟩

set_option maxRecDepth 100000 in
set_option maxHeartbeats 4000000 in
theorem c_cfP1 (S : Hp) (ad : Nat → Nat) (hW : Wd ad S) (xu : Nat) (yu : Nat) (bw : Nat) (bh : Nat) (cv : Nat) (mk : Nat) (gn : Nat) (pn : Nat) (po : Bool) (P : Nat → Nat → Bool) (hI_700_ad27 : hI S 700 (ad 27) = 0) (hI_701_ad27 : hI S 701 (ad 27) = 0) (hI_706_ad27 : hI S 706 (ad 27) = nI xu) (hI_707_ad27 : hI S 707 (ad 27) = nI yu) (hI_2_ad12 : hI S 2 (ad 12) = nI mk) (hI_3_ad12 : hI S 3 (ad 12) = nI mk) (hI_4_ad12 : hI S 4 (ad 12) = nI cv) (hI_916_ad6 : hI S 916 (ad 6) = nI gn) (hI_5_ad12 : hI S 5 (ad 12) = 0) (hI_603_ad5 : hI S 603 (ad 5) = 0) (hI_110_ad26 : hI S 110 (ad 26) = 0) (hI_111_ad26 : hI S 111 (ad 26) = cI po) (hI_112_ad26 : hI S 112 (ad 26) = 0) (hI_113_ad26 : hI S 113 (ad 26) = 0) (hI_114_ad26 : hI S 114 (ad 26) = nI bw) (hI_115_ad26 : hI S 115 (ad 26) = nI bh) (hI_118_ad26 : hI S 118 (ad 26) = nI pn) (hcv : CVP (aI S (ad 13)) P) (h1 : 1 ≤ pn) (h2 : pn ≤ 100) (hx : xu / 96 + bw ≤ 200) (hy : yu / 96 + bh ≤ 240) (hw : 0 < bw) (hh : 0 < bh) (hc : cv + bw * bh ≤ 5000000) (hm : mk < 2000) (hg : gn ≤ 60000) (hxu : xu < 100000) (hyu : yu < 100000) (hR_913_ad6 : hR S 913 (ad 6) = some (ad 35)) (hI_505_ad35 : hI S 505 (ad 35) = 80) : Ct 6 yX9_controlField cX9_controlField 2 none 0 0 [.ref (ad 6), .int 1] S (fun r S' => r = none ∧ Fm (fun f9 b9 => (f9 = 1000 ∧ b9 = (ad 24)) ∨ (f9 = 1001 ∧ b9 = (ad 24)) ∨ (f9 = 1002 ∧ b9 = (ad 24)) ∨ (f9 = 2 ∧ b9 = (ad 12)) ∨ (f9 = 3 ∧ b9 = (ad 12)) ∨ (f9 = 4 ∧ b9 = (ad 12)) ∨ (f9 = 6 ∧ b9 = (ad 12)) ∨ (f9 = 7 ∧ b9 = (ad 12)) ∨ (f9 = 8 ∧ b9 = (ad 12)) ∨ (f9 = 9 ∧ b9 = (ad 12)) ∨ (f9 = 11 ∧ b9 = (ad 12)) ∨ (f9 = 12 ∧ b9 = (ad 12)) ∨ (f9 = 13 ∧ b9 = (ad 12)) ∨ (f9 = 14 ∧ b9 = (ad 12))) (fun f9 b9 => (f9 = 10 ∧ b9 = (ad 12))) (fun b9 => b9 = (ad 25) ∨ b9 = (ad 14) ∨ b9 = (ad 13)) S S' ∧ hI S' 2 (ad 12) = nI (mk + 1) ∧ hI S' 3 (ad 12) = nI (mk + 1) ∧ hI S' 4 (ad 12) = nI (cv + bw * bh) ∧ CVP (aI S' (ad 13)) (boxP 1 pn po (xu / 96) (yu / 96) bw bh P)) := by
  refine ct_of (by decide) (Nat.le_of_ble_eq_true rfl) fun x hn9 C M hm9 => ?_
  have C : CB x RX9 cX9_controlField := C
  refine J.eq (lv' := [(0, .ref (ad 6)), (1, .int 1)]) rfl rfl rfl ?_
  refine j_aload_n C dX9_controlField_0 rfl 0 rfl ?_
  refine j_getr (f := 913) (v := (ad 35)) C flX9_82 dX9_controlField_1 (wm_6 (S := S) hW) (wk_6 (S := S) hW) (by decide) rfl hR_913_ad6 ?_
  refine j_geti (f := 505) (v := 80) C flX9_327 dX9_controlField_4 (wm_35 (S := S) hW) (wk_35 (S := S) hW) (by decide) (by decide) rfl hI_505_ad35 ?_
  refine j_tabIn (off := 301) (tgt := 308) C dX9_controlField_7 (by decide) (by decide) (by decide) (by decide) ?_
  refine j_aload_n C dX9_controlField_308 rfl 0 rfl ?_
  refine j_iload_n C dX9_controlField_309 rfl 1 rfl ?_
  refine j_callV (ci := 9) C [.int 1] [] mlX9_605 mcX9_box (c_box1 S ad hW xu yu bw bh cv mk gn pn po P hI_700_ad27 hI_701_ad27 hI_706_ad27 hI_707_ad27 hI_2_ad12 hI_3_ad12 hI_4_ad12 hI_916_ad6 hI_5_ad12 hI_603_ad5 hI_110_ad26 hI_111_ad26 hI_112_ad26 hI_113_ad26 hI_114_ad26 hI_115_ad26 hI_118_ad26 hcv h1 h2 hx hy hw hh hc hm hg hxu hyu) (wm_6 (S := S) hW) (wk_6 (S := S) hW) rfl (M.rm (by decide) (by decide) (Nat.le_of_ble_eq_true rfl) (Nat.le_of_ble_eq_true rfl)) rfl rfl (Nat.le_of_ble_eq_true rfl) dX9_controlField_310 (fun r_5 S_6 hp_7 => ?_)
  obtain ⟨rfl, hf_8, e_1, e_2, e_3, x_4⟩ := hp_7
  refine J.eq (st' := []) rfl rfl rfl ?_
  have hv_9 : hI S_6 110 (ad 26) = 0 := hf_8.fi (wm_26 (S := S) hW) (fun h9 => h9.elim (fun q9 => absurd q9.1 (by decide)) (fun h9 => h9.elim (fun q9 => absurd q9.1 (by decide)) (fun h9 => h9.elim (fun q9 => absurd q9.1 (by decide)) (fun h9 => h9.elim (fun q9 => absurd q9.1 (by decide)) (fun h9 => h9.elim (fun q9 => absurd q9.1 (by decide)) (fun h9 => h9.elim (fun q9 => absurd q9.1 (by decide)) (fun h9 => h9.elim (fun q9 => absurd q9.1 (by decide)) (fun h9 => h9.elim (fun q9 => absurd q9.1 (by decide)) (fun h9 => h9.elim (fun q9 => absurd q9.1 (by decide)) (fun h9 => h9.elim (fun q9 => absurd q9.1 (by decide)) (fun h9 => h9.elim (fun q9 => absurd q9.1 (by decide)) (fun h9 => h9.elim (fun q9 => absurd q9.1 (by decide)) (fun h9 => h9.elim (fun q9 => absurd q9.1 (by decide)) (fun q9 => absurd q9.1 (by decide))))))))))))))) hI_110_ad26
  have hv_10 : hI S_6 111 (ad 26) = cI po := hf_8.fi (wm_26 (S := S) hW) (fun h9 => h9.elim (fun q9 => absurd q9.1 (by decide)) (fun h9 => h9.elim (fun q9 => absurd q9.1 (by decide)) (fun h9 => h9.elim (fun q9 => absurd q9.1 (by decide)) (fun h9 => h9.elim (fun q9 => absurd q9.1 (by decide)) (fun h9 => h9.elim (fun q9 => absurd q9.1 (by decide)) (fun h9 => h9.elim (fun q9 => absurd q9.1 (by decide)) (fun h9 => h9.elim (fun q9 => absurd q9.1 (by decide)) (fun h9 => h9.elim (fun q9 => absurd q9.1 (by decide)) (fun h9 => h9.elim (fun q9 => absurd q9.1 (by decide)) (fun h9 => h9.elim (fun q9 => absurd q9.1 (by decide)) (fun h9 => h9.elim (fun q9 => absurd q9.1 (by decide)) (fun h9 => h9.elim (fun q9 => absurd q9.1 (by decide)) (fun h9 => h9.elim (fun q9 => absurd q9.1 (by decide)) (fun q9 => absurd q9.1 (by decide))))))))))))))) hI_111_ad26
  have hv_11 : hI S_6 112 (ad 26) = 0 := hf_8.fi (wm_26 (S := S) hW) (fun h9 => h9.elim (fun q9 => absurd q9.1 (by decide)) (fun h9 => h9.elim (fun q9 => absurd q9.1 (by decide)) (fun h9 => h9.elim (fun q9 => absurd q9.1 (by decide)) (fun h9 => h9.elim (fun q9 => absurd q9.1 (by decide)) (fun h9 => h9.elim (fun q9 => absurd q9.1 (by decide)) (fun h9 => h9.elim (fun q9 => absurd q9.1 (by decide)) (fun h9 => h9.elim (fun q9 => absurd q9.1 (by decide)) (fun h9 => h9.elim (fun q9 => absurd q9.1 (by decide)) (fun h9 => h9.elim (fun q9 => absurd q9.1 (by decide)) (fun h9 => h9.elim (fun q9 => absurd q9.1 (by decide)) (fun h9 => h9.elim (fun q9 => absurd q9.1 (by decide)) (fun h9 => h9.elim (fun q9 => absurd q9.1 (by decide)) (fun h9 => h9.elim (fun q9 => absurd q9.1 (by decide)) (fun q9 => absurd q9.1 (by decide))))))))))))))) hI_112_ad26
  have hv_12 : hI S_6 113 (ad 26) = 0 := hf_8.fi (wm_26 (S := S) hW) (fun h9 => h9.elim (fun q9 => absurd q9.1 (by decide)) (fun h9 => h9.elim (fun q9 => absurd q9.1 (by decide)) (fun h9 => h9.elim (fun q9 => absurd q9.1 (by decide)) (fun h9 => h9.elim (fun q9 => absurd q9.1 (by decide)) (fun h9 => h9.elim (fun q9 => absurd q9.1 (by decide)) (fun h9 => h9.elim (fun q9 => absurd q9.1 (by decide)) (fun h9 => h9.elim (fun q9 => absurd q9.1 (by decide)) (fun h9 => h9.elim (fun q9 => absurd q9.1 (by decide)) (fun h9 => h9.elim (fun q9 => absurd q9.1 (by decide)) (fun h9 => h9.elim (fun q9 => absurd q9.1 (by decide)) (fun h9 => h9.elim (fun q9 => absurd q9.1 (by decide)) (fun h9 => h9.elim (fun q9 => absurd q9.1 (by decide)) (fun h9 => h9.elim (fun q9 => absurd q9.1 (by decide)) (fun q9 => absurd q9.1 (by decide))))))))))))))) hI_113_ad26
  have hv_13 : hI S_6 114 (ad 26) = nI bw := hf_8.fi (wm_26 (S := S) hW) (fun h9 => h9.elim (fun q9 => absurd q9.1 (by decide)) (fun h9 => h9.elim (fun q9 => absurd q9.1 (by decide)) (fun h9 => h9.elim (fun q9 => absurd q9.1 (by decide)) (fun h9 => h9.elim (fun q9 => absurd q9.1 (by decide)) (fun h9 => h9.elim (fun q9 => absurd q9.1 (by decide)) (fun h9 => h9.elim (fun q9 => absurd q9.1 (by decide)) (fun h9 => h9.elim (fun q9 => absurd q9.1 (by decide)) (fun h9 => h9.elim (fun q9 => absurd q9.1 (by decide)) (fun h9 => h9.elim (fun q9 => absurd q9.1 (by decide)) (fun h9 => h9.elim (fun q9 => absurd q9.1 (by decide)) (fun h9 => h9.elim (fun q9 => absurd q9.1 (by decide)) (fun h9 => h9.elim (fun q9 => absurd q9.1 (by decide)) (fun h9 => h9.elim (fun q9 => absurd q9.1 (by decide)) (fun q9 => absurd q9.1 (by decide))))))))))))))) hI_114_ad26
  have hv_14 : hI S_6 115 (ad 26) = nI bh := hf_8.fi (wm_26 (S := S) hW) (fun h9 => h9.elim (fun q9 => absurd q9.1 (by decide)) (fun h9 => h9.elim (fun q9 => absurd q9.1 (by decide)) (fun h9 => h9.elim (fun q9 => absurd q9.1 (by decide)) (fun h9 => h9.elim (fun q9 => absurd q9.1 (by decide)) (fun h9 => h9.elim (fun q9 => absurd q9.1 (by decide)) (fun h9 => h9.elim (fun q9 => absurd q9.1 (by decide)) (fun h9 => h9.elim (fun q9 => absurd q9.1 (by decide)) (fun h9 => h9.elim (fun q9 => absurd q9.1 (by decide)) (fun h9 => h9.elim (fun q9 => absurd q9.1 (by decide)) (fun h9 => h9.elim (fun q9 => absurd q9.1 (by decide)) (fun h9 => h9.elim (fun q9 => absurd q9.1 (by decide)) (fun h9 => h9.elim (fun q9 => absurd q9.1 (by decide)) (fun h9 => h9.elim (fun q9 => absurd q9.1 (by decide)) (fun q9 => absurd q9.1 (by decide))))))))))))))) hI_115_ad26
  have hv_15 : hI S_6 118 (ad 26) = nI pn := hf_8.fi (wm_26 (S := S) hW) (fun h9 => h9.elim (fun q9 => absurd q9.1 (by decide)) (fun h9 => h9.elim (fun q9 => absurd q9.1 (by decide)) (fun h9 => h9.elim (fun q9 => absurd q9.1 (by decide)) (fun h9 => h9.elim (fun q9 => absurd q9.1 (by decide)) (fun h9 => h9.elim (fun q9 => absurd q9.1 (by decide)) (fun h9 => h9.elim (fun q9 => absurd q9.1 (by decide)) (fun h9 => h9.elim (fun q9 => absurd q9.1 (by decide)) (fun h9 => h9.elim (fun q9 => absurd q9.1 (by decide)) (fun h9 => h9.elim (fun q9 => absurd q9.1 (by decide)) (fun h9 => h9.elim (fun q9 => absurd q9.1 (by decide)) (fun h9 => h9.elim (fun q9 => absurd q9.1 (by decide)) (fun h9 => h9.elim (fun q9 => absurd q9.1 (by decide)) (fun h9 => h9.elim (fun q9 => absurd q9.1 (by decide)) (fun q9 => absurd q9.1 (by decide))))))))))))))) hI_118_ad26
  have hv_16 : hI S_6 5 (ad 12) = 0 := hf_8.fi (wm_12 (S := S) hW) (fun h9 => h9.elim (fun q9 => absurd q9.1 (by decide)) (fun h9 => h9.elim (fun q9 => absurd q9.1 (by decide)) (fun h9 => h9.elim (fun q9 => absurd q9.1 (by decide)) (fun h9 => h9.elim (fun q9 => absurd q9.1 (by decide)) (fun h9 => h9.elim (fun q9 => absurd q9.1 (by decide)) (fun h9 => h9.elim (fun q9 => absurd q9.1 (by decide)) (fun h9 => h9.elim (fun q9 => absurd q9.1 (by decide)) (fun h9 => h9.elim (fun q9 => absurd q9.1 (by decide)) (fun h9 => h9.elim (fun q9 => absurd q9.1 (by decide)) (fun h9 => h9.elim (fun q9 => absurd q9.1 (by decide)) (fun h9 => h9.elim (fun q9 => absurd q9.1 (by decide)) (fun h9 => h9.elim (fun q9 => absurd q9.1 (by decide)) (fun h9 => h9.elim (fun q9 => absurd q9.1 (by decide)) (fun q9 => absurd q9.1 (by decide))))))))))))))) hI_5_ad12
  have hv_17 : hI S_6 505 (ad 35) = 80 := hf_8.fi (wm_35 (S := S) hW) (fun h9 => h9.elim (fun q9 => absurd q9.1 (by decide)) (fun h9 => h9.elim (fun q9 => absurd q9.1 (by decide)) (fun h9 => h9.elim (fun q9 => absurd q9.1 (by decide)) (fun h9 => h9.elim (fun q9 => absurd q9.1 (by decide)) (fun h9 => h9.elim (fun q9 => absurd q9.1 (by decide)) (fun h9 => h9.elim (fun q9 => absurd q9.1 (by decide)) (fun h9 => h9.elim (fun q9 => absurd q9.1 (by decide)) (fun h9 => h9.elim (fun q9 => absurd q9.1 (by decide)) (fun h9 => h9.elim (fun q9 => absurd q9.1 (by decide)) (fun h9 => h9.elim (fun q9 => absurd q9.1 (by decide)) (fun h9 => h9.elim (fun q9 => absurd q9.1 (by decide)) (fun h9 => h9.elim (fun q9 => absurd q9.1 (by decide)) (fun h9 => h9.elim (fun q9 => absurd q9.1 (by decide)) (fun q9 => absurd q9.1 (by decide))))))))))))))) hI_505_ad35
  have hv_18 : hI S_6 603 (ad 5) = 0 := hf_8.fi (wm_5 (S := S) hW) (fun h9 => h9.elim (fun q9 => absurd q9.1 (by decide)) (fun h9 => h9.elim (fun q9 => absurd q9.1 (by decide)) (fun h9 => h9.elim (fun q9 => absurd q9.1 (by decide)) (fun h9 => h9.elim (fun q9 => absurd q9.1 (by decide)) (fun h9 => h9.elim (fun q9 => absurd q9.1 (by decide)) (fun h9 => h9.elim (fun q9 => absurd q9.1 (by decide)) (fun h9 => h9.elim (fun q9 => absurd q9.1 (by decide)) (fun h9 => h9.elim (fun q9 => absurd q9.1 (by decide)) (fun h9 => h9.elim (fun q9 => absurd q9.1 (by decide)) (fun h9 => h9.elim (fun q9 => absurd q9.1 (by decide)) (fun h9 => h9.elim (fun q9 => absurd q9.1 (by decide)) (fun h9 => h9.elim (fun q9 => absurd q9.1 (by decide)) (fun h9 => h9.elim (fun q9 => absurd q9.1 (by decide)) (fun q9 => absurd q9.1 (by decide))))))))))))))) hI_603_ad5
  have hv_19 : hI S_6 700 (ad 27) = 0 := hf_8.fi (wm_27 (S := S) hW) (fun h9 => h9.elim (fun q9 => absurd q9.1 (by decide)) (fun h9 => h9.elim (fun q9 => absurd q9.1 (by decide)) (fun h9 => h9.elim (fun q9 => absurd q9.1 (by decide)) (fun h9 => h9.elim (fun q9 => absurd q9.1 (by decide)) (fun h9 => h9.elim (fun q9 => absurd q9.1 (by decide)) (fun h9 => h9.elim (fun q9 => absurd q9.1 (by decide)) (fun h9 => h9.elim (fun q9 => absurd q9.1 (by decide)) (fun h9 => h9.elim (fun q9 => absurd q9.1 (by decide)) (fun h9 => h9.elim (fun q9 => absurd q9.1 (by decide)) (fun h9 => h9.elim (fun q9 => absurd q9.1 (by decide)) (fun h9 => h9.elim (fun q9 => absurd q9.1 (by decide)) (fun h9 => h9.elim (fun q9 => absurd q9.1 (by decide)) (fun h9 => h9.elim (fun q9 => absurd q9.1 (by decide)) (fun q9 => absurd q9.1 (by decide))))))))))))))) hI_700_ad27
  have hv_20 : hI S_6 701 (ad 27) = 0 := hf_8.fi (wm_27 (S := S) hW) (fun h9 => h9.elim (fun q9 => absurd q9.1 (by decide)) (fun h9 => h9.elim (fun q9 => absurd q9.1 (by decide)) (fun h9 => h9.elim (fun q9 => absurd q9.1 (by decide)) (fun h9 => h9.elim (fun q9 => absurd q9.1 (by decide)) (fun h9 => h9.elim (fun q9 => absurd q9.1 (by decide)) (fun h9 => h9.elim (fun q9 => absurd q9.1 (by decide)) (fun h9 => h9.elim (fun q9 => absurd q9.1 (by decide)) (fun h9 => h9.elim (fun q9 => absurd q9.1 (by decide)) (fun h9 => h9.elim (fun q9 => absurd q9.1 (by decide)) (fun h9 => h9.elim (fun q9 => absurd q9.1 (by decide)) (fun h9 => h9.elim (fun q9 => absurd q9.1 (by decide)) (fun h9 => h9.elim (fun q9 => absurd q9.1 (by decide)) (fun h9 => h9.elim (fun q9 => absurd q9.1 (by decide)) (fun q9 => absurd q9.1 (by decide))))))))))))))) hI_701_ad27
  have hv_21 : hI S_6 706 (ad 27) = nI xu := hf_8.fi (wm_27 (S := S) hW) (fun h9 => h9.elim (fun q9 => absurd q9.1 (by decide)) (fun h9 => h9.elim (fun q9 => absurd q9.1 (by decide)) (fun h9 => h9.elim (fun q9 => absurd q9.1 (by decide)) (fun h9 => h9.elim (fun q9 => absurd q9.1 (by decide)) (fun h9 => h9.elim (fun q9 => absurd q9.1 (by decide)) (fun h9 => h9.elim (fun q9 => absurd q9.1 (by decide)) (fun h9 => h9.elim (fun q9 => absurd q9.1 (by decide)) (fun h9 => h9.elim (fun q9 => absurd q9.1 (by decide)) (fun h9 => h9.elim (fun q9 => absurd q9.1 (by decide)) (fun h9 => h9.elim (fun q9 => absurd q9.1 (by decide)) (fun h9 => h9.elim (fun q9 => absurd q9.1 (by decide)) (fun h9 => h9.elim (fun q9 => absurd q9.1 (by decide)) (fun h9 => h9.elim (fun q9 => absurd q9.1 (by decide)) (fun q9 => absurd q9.1 (by decide))))))))))))))) hI_706_ad27
  have hv_22 : hI S_6 707 (ad 27) = nI yu := hf_8.fi (wm_27 (S := S) hW) (fun h9 => h9.elim (fun q9 => absurd q9.1 (by decide)) (fun h9 => h9.elim (fun q9 => absurd q9.1 (by decide)) (fun h9 => h9.elim (fun q9 => absurd q9.1 (by decide)) (fun h9 => h9.elim (fun q9 => absurd q9.1 (by decide)) (fun h9 => h9.elim (fun q9 => absurd q9.1 (by decide)) (fun h9 => h9.elim (fun q9 => absurd q9.1 (by decide)) (fun h9 => h9.elim (fun q9 => absurd q9.1 (by decide)) (fun h9 => h9.elim (fun q9 => absurd q9.1 (by decide)) (fun h9 => h9.elim (fun q9 => absurd q9.1 (by decide)) (fun h9 => h9.elim (fun q9 => absurd q9.1 (by decide)) (fun h9 => h9.elim (fun q9 => absurd q9.1 (by decide)) (fun h9 => h9.elim (fun q9 => absurd q9.1 (by decide)) (fun h9 => h9.elim (fun q9 => absurd q9.1 (by decide)) (fun q9 => absurd q9.1 (by decide))))))))))))))) hI_707_ad27
  have hv_23 : hI S_6 916 (ad 6) = nI gn := hf_8.fi (wm_6 (S := S) hW) (fun h9 => h9.elim (fun q9 => absurd q9.1 (by decide)) (fun h9 => h9.elim (fun q9 => absurd q9.1 (by decide)) (fun h9 => h9.elim (fun q9 => absurd q9.1 (by decide)) (fun h9 => h9.elim (fun q9 => absurd q9.1 (by decide)) (fun h9 => h9.elim (fun q9 => absurd q9.1 (by decide)) (fun h9 => h9.elim (fun q9 => absurd q9.1 (by decide)) (fun h9 => h9.elim (fun q9 => absurd q9.1 (by decide)) (fun h9 => h9.elim (fun q9 => absurd q9.1 (by decide)) (fun h9 => h9.elim (fun q9 => absurd q9.1 (by decide)) (fun h9 => h9.elim (fun q9 => absurd q9.1 (by decide)) (fun h9 => h9.elim (fun q9 => absurd q9.1 (by decide)) (fun h9 => h9.elim (fun q9 => absurd q9.1 (by decide)) (fun h9 => h9.elim (fun q9 => absurd q9.1 (by decide)) (fun q9 => absurd q9.1 (by decide))))))))))))))) hI_916_ad6
  have hv_24 : hR S_6 913 (ad 6) = (some (ad 35)) := hf_8.fr (wm_6 (S := S) hW) (fun q9 => absurd q9.1 (by decide)) hR_913_ad6
  have hf_25 : Fm (fun f9 b9 => (f9 = 1000 ∧ b9 = (ad 24)) ∨ (f9 = 1001 ∧ b9 = (ad 24)) ∨ (f9 = 1002 ∧ b9 = (ad 24)) ∨ (f9 = 2 ∧ b9 = (ad 12)) ∨ (f9 = 3 ∧ b9 = (ad 12)) ∨ (f9 = 4 ∧ b9 = (ad 12)) ∨ (f9 = 6 ∧ b9 = (ad 12)) ∨ (f9 = 7 ∧ b9 = (ad 12)) ∨ (f9 = 8 ∧ b9 = (ad 12)) ∨ (f9 = 9 ∧ b9 = (ad 12)) ∨ (f9 = 11 ∧ b9 = (ad 12)) ∨ (f9 = 12 ∧ b9 = (ad 12)) ∨ (f9 = 13 ∧ b9 = (ad 12)) ∨ (f9 = 14 ∧ b9 = (ad 12))) (fun f9 b9 => (f9 = 10 ∧ b9 = (ad 12))) (fun b9 => b9 = (ad 25) ∨ b9 = (ad 14) ∨ b9 = (ad 13)) S S_6 := (Fm.refl (WI := (fun f9 b9 => (f9 = 1000 ∧ b9 = (ad 24)) ∨ (f9 = 1001 ∧ b9 = (ad 24)) ∨ (f9 = 1002 ∧ b9 = (ad 24)) ∨ (f9 = 2 ∧ b9 = (ad 12)) ∨ (f9 = 3 ∧ b9 = (ad 12)) ∨ (f9 = 4 ∧ b9 = (ad 12)) ∨ (f9 = 6 ∧ b9 = (ad 12)) ∨ (f9 = 7 ∧ b9 = (ad 12)) ∨ (f9 = 8 ∧ b9 = (ad 12)) ∨ (f9 = 9 ∧ b9 = (ad 12)) ∨ (f9 = 11 ∧ b9 = (ad 12)) ∨ (f9 = 12 ∧ b9 = (ad 12)) ∨ (f9 = 13 ∧ b9 = (ad 12)) ∨ (f9 = 14 ∧ b9 = (ad 12)))) (WR := (fun f9 b9 => (f9 = 10 ∧ b9 = (ad 12)))) (WA := (fun b9 => b9 = (ad 25) ∨ b9 = (ad 14) ∨ b9 = (ad 13)))).then hf_8 (fun a9 ha9 => ⟨(fun f9 h9 => (fun h9 => h9.elim (fun h8 => (Or.inl h8)) (fun h9 => h9.elim (fun h8 => (Or.inr (Or.inl h8))) (fun h9 => h9.elim (fun h8 => (Or.inr (Or.inr (Or.inl h8)))) (fun h9 => h9.elim (fun h8 => (Or.inr (Or.inr (Or.inr (Or.inl h8))))) (fun h9 => h9.elim (fun h8 => (Or.inr (Or.inr (Or.inr (Or.inr (Or.inl h8)))))) (fun h9 => h9.elim (fun h8 => (Or.inr (Or.inr (Or.inr (Or.inr (Or.inr (Or.inl h8))))))) (fun h9 => h9.elim (fun h8 => (Or.inr (Or.inr (Or.inr (Or.inr (Or.inr (Or.inr (Or.inl h8)))))))) (fun h9 => h9.elim (fun h8 => (Or.inr (Or.inr (Or.inr (Or.inr (Or.inr (Or.inr (Or.inr (Or.inl h8))))))))) (fun h9 => h9.elim (fun h8 => (Or.inr (Or.inr (Or.inr (Or.inr (Or.inr (Or.inr (Or.inr (Or.inr (Or.inl h8)))))))))) (fun h9 => h9.elim (fun h8 => (Or.inr (Or.inr (Or.inr (Or.inr (Or.inr (Or.inr (Or.inr (Or.inr (Or.inr (Or.inl h8))))))))))) (fun h9 => h9.elim (fun h8 => (Or.inr (Or.inr (Or.inr (Or.inr (Or.inr (Or.inr (Or.inr (Or.inr (Or.inr (Or.inr (Or.inl h8)))))))))))) (fun h9 => h9.elim (fun h8 => (Or.inr (Or.inr (Or.inr (Or.inr (Or.inr (Or.inr (Or.inr (Or.inr (Or.inr (Or.inr (Or.inr (Or.inl h8))))))))))))) (fun h9 => h9.elim (fun h8 => (Or.inr (Or.inr (Or.inr (Or.inr (Or.inr (Or.inr (Or.inr (Or.inr (Or.inr (Or.inr (Or.inr (Or.inr (Or.inl h8)))))))))))))) (fun h8 => (Or.inr (Or.inr (Or.inr (Or.inr (Or.inr (Or.inr (Or.inr (Or.inr (Or.inr (Or.inr (Or.inr (Or.inr (Or.inr h8))))))))))))))))))))))))))) h9), (fun f9 h9 => (fun h8 => h8) h9), (fun h9 => (fun h9 => h9.elim (fun h8 => (Or.inl h8)) (fun h9 => h9.elim (fun h8 => (Or.inr (Or.inl h8))) (fun h8 => (Or.inr (Or.inr h8))))) h9)⟩)
  have hW_26 : Wd ad S_6 := hW.fm hf_8 (by intro p9 hp9 h9; obtain ⟨e1, e2⟩ := h9 <;> exact wp_dyn p9 hp9 (by rw [e1]; decide)) (by intro p9 hp9; simp only [wqL, List.mem_cons, List.not_mem_nil, or_false] at hp9; rcases hp9 with rfl | rfl <;> intro h9 <;> rcases h9 with h9 | h9 | h9 <;> exact absurd h9 (wn hW (by decide) (by decide) (by decide)))
  refine j_goto (tgt := 316) C dX9_controlField_313 (by decide) ?_
  show J _ _ _ _ _ 316 _
  exact j_vret C M dX9_controlField_316 (Nat.le_of_ble_eq_true rfl) (Nat.le_of_ble_eq_true rfl) ⟨rfl, hf_25, e_1, e_2, e_3, x_4⟩

set_option maxRecDepth 100000 in
set_option maxHeartbeats 4000000 in
theorem c_cfP2 (S : Hp) (ad : Nat → Nat) (hW : Wd ad S) (xu : Nat) (yu : Nat) (bw : Nat) (bh : Nat) (cv : Nat) (mk : Nat) (gn : Nat) (pn : Nat) (po : Bool) (P : Nat → Nat → Bool) (hI_700_ad27 : hI S 700 (ad 27) = 0) (hI_701_ad27 : hI S 701 (ad 27) = 0) (hI_706_ad27 : hI S 706 (ad 27) = nI xu) (hI_707_ad27 : hI S 707 (ad 27) = nI yu) (hI_2_ad12 : hI S 2 (ad 12) = nI mk) (hI_3_ad12 : hI S 3 (ad 12) = nI mk) (hI_4_ad12 : hI S 4 (ad 12) = nI cv) (hI_916_ad6 : hI S 916 (ad 6) = nI gn) (hI_5_ad12 : hI S 5 (ad 12) = 0) (hI_603_ad5 : hI S 603 (ad 5) = 0) (hI_110_ad26 : hI S 110 (ad 26) = 0) (hI_111_ad26 : hI S 111 (ad 26) = cI po) (hI_112_ad26 : hI S 112 (ad 26) = 0) (hI_113_ad26 : hI S 113 (ad 26) = 0) (hI_114_ad26 : hI S 114 (ad 26) = nI bw) (hI_115_ad26 : hI S 115 (ad 26) = nI bh) (hI_118_ad26 : hI S 118 (ad 26) = nI pn) (hcv : CVP (aI S (ad 13)) P) (h1 : 1 ≤ pn) (h2 : pn ≤ 100) (hx : xu / 96 + bw ≤ 200) (hy : yu / 96 + bh ≤ 240) (hw : 0 < bw) (hh : 0 < bh) (hc : cv + bw * bh ≤ 5000000) (hm : mk < 2000) (hg : gn ≤ 60000) (hxu : xu < 100000) (hyu : yu < 100000) (hR_913_ad6 : hR S 913 (ad 6) = some (ad 35)) (hI_505_ad35 : hI S 505 (ad 35) = 80) : Ct 6 yX9_controlField cX9_controlField 2 none 0 0 [.ref (ad 6), .int 2] S (fun r S' => r = none ∧ Fm (fun f9 b9 => (f9 = 1000 ∧ b9 = (ad 24)) ∨ (f9 = 1001 ∧ b9 = (ad 24)) ∨ (f9 = 1002 ∧ b9 = (ad 24)) ∨ (f9 = 2 ∧ b9 = (ad 12)) ∨ (f9 = 3 ∧ b9 = (ad 12)) ∨ (f9 = 4 ∧ b9 = (ad 12)) ∨ (f9 = 6 ∧ b9 = (ad 12)) ∨ (f9 = 7 ∧ b9 = (ad 12)) ∨ (f9 = 8 ∧ b9 = (ad 12)) ∨ (f9 = 9 ∧ b9 = (ad 12)) ∨ (f9 = 11 ∧ b9 = (ad 12)) ∨ (f9 = 12 ∧ b9 = (ad 12)) ∨ (f9 = 13 ∧ b9 = (ad 12)) ∨ (f9 = 14 ∧ b9 = (ad 12))) (fun f9 b9 => (f9 = 10 ∧ b9 = (ad 12))) (fun b9 => b9 = (ad 25) ∨ b9 = (ad 14) ∨ b9 = (ad 13)) S S' ∧ hI S' 2 (ad 12) = nI (mk + 1) ∧ hI S' 3 (ad 12) = nI (mk + 1) ∧ hI S' 4 (ad 12) = nI (cv + bw * bh) ∧ CVP (aI S' (ad 13)) (boxP 2 pn po (xu / 96) (yu / 96) bw bh P)) := by
  refine ct_of (by decide) (Nat.le_of_ble_eq_true rfl) fun x hn9 C M hm9 => ?_
  have C : CB x RX9 cX9_controlField := C
  refine J.eq (lv' := [(0, .ref (ad 6)), (1, .int 2)]) rfl rfl rfl ?_
  refine j_aload_n C dX9_controlField_0 rfl 0 rfl ?_
  refine j_getr (f := 913) (v := (ad 35)) C flX9_82 dX9_controlField_1 (wm_6 (S := S) hW) (wk_6 (S := S) hW) (by decide) rfl hR_913_ad6 ?_
  refine j_geti (f := 505) (v := 80) C flX9_327 dX9_controlField_4 (wm_35 (S := S) hW) (wk_35 (S := S) hW) (by decide) (by decide) rfl hI_505_ad35 ?_
  refine j_tabIn (off := 301) (tgt := 308) C dX9_controlField_7 (by decide) (by decide) (by decide) (by decide) ?_
  refine j_aload_n C dX9_controlField_308 rfl 0 rfl ?_
  refine j_iload_n C dX9_controlField_309 rfl 1 rfl ?_
  refine j_callV (ci := 9) C [.int 2] [] mlX9_605 mcX9_box (c_box2 S ad hW xu yu bw bh cv mk gn pn po P hI_700_ad27 hI_701_ad27 hI_706_ad27 hI_707_ad27 hI_2_ad12 hI_3_ad12 hI_4_ad12 hI_916_ad6 hI_5_ad12 hI_603_ad5 hI_110_ad26 hI_111_ad26 hI_112_ad26 hI_113_ad26 hI_114_ad26 hI_115_ad26 hI_118_ad26 hcv h1 h2 hx hy hw hh hc hm hg hxu hyu) (wm_6 (S := S) hW) (wk_6 (S := S) hW) rfl (M.rm (by decide) (by decide) (Nat.le_of_ble_eq_true rfl) (Nat.le_of_ble_eq_true rfl)) rfl rfl (Nat.le_of_ble_eq_true rfl) dX9_controlField_310 (fun r_5 S_6 hp_7 => ?_)
  obtain ⟨rfl, hf_8, e_1, e_2, e_3, x_4⟩ := hp_7
  refine J.eq (st' := []) rfl rfl rfl ?_
  have hv_9 : hI S_6 110 (ad 26) = 0 := hf_8.fi (wm_26 (S := S) hW) (fun h9 => h9.elim (fun q9 => absurd q9.1 (by decide)) (fun h9 => h9.elim (fun q9 => absurd q9.1 (by decide)) (fun h9 => h9.elim (fun q9 => absurd q9.1 (by decide)) (fun h9 => h9.elim (fun q9 => absurd q9.1 (by decide)) (fun h9 => h9.elim (fun q9 => absurd q9.1 (by decide)) (fun h9 => h9.elim (fun q9 => absurd q9.1 (by decide)) (fun h9 => h9.elim (fun q9 => absurd q9.1 (by decide)) (fun h9 => h9.elim (fun q9 => absurd q9.1 (by decide)) (fun h9 => h9.elim (fun q9 => absurd q9.1 (by decide)) (fun h9 => h9.elim (fun q9 => absurd q9.1 (by decide)) (fun h9 => h9.elim (fun q9 => absurd q9.1 (by decide)) (fun h9 => h9.elim (fun q9 => absurd q9.1 (by decide)) (fun h9 => h9.elim (fun q9 => absurd q9.1 (by decide)) (fun q9 => absurd q9.1 (by decide))))))))))))))) hI_110_ad26
  have hv_10 : hI S_6 111 (ad 26) = cI po := hf_8.fi (wm_26 (S := S) hW) (fun h9 => h9.elim (fun q9 => absurd q9.1 (by decide)) (fun h9 => h9.elim (fun q9 => absurd q9.1 (by decide)) (fun h9 => h9.elim (fun q9 => absurd q9.1 (by decide)) (fun h9 => h9.elim (fun q9 => absurd q9.1 (by decide)) (fun h9 => h9.elim (fun q9 => absurd q9.1 (by decide)) (fun h9 => h9.elim (fun q9 => absurd q9.1 (by decide)) (fun h9 => h9.elim (fun q9 => absurd q9.1 (by decide)) (fun h9 => h9.elim (fun q9 => absurd q9.1 (by decide)) (fun h9 => h9.elim (fun q9 => absurd q9.1 (by decide)) (fun h9 => h9.elim (fun q9 => absurd q9.1 (by decide)) (fun h9 => h9.elim (fun q9 => absurd q9.1 (by decide)) (fun h9 => h9.elim (fun q9 => absurd q9.1 (by decide)) (fun h9 => h9.elim (fun q9 => absurd q9.1 (by decide)) (fun q9 => absurd q9.1 (by decide))))))))))))))) hI_111_ad26
  have hv_11 : hI S_6 112 (ad 26) = 0 := hf_8.fi (wm_26 (S := S) hW) (fun h9 => h9.elim (fun q9 => absurd q9.1 (by decide)) (fun h9 => h9.elim (fun q9 => absurd q9.1 (by decide)) (fun h9 => h9.elim (fun q9 => absurd q9.1 (by decide)) (fun h9 => h9.elim (fun q9 => absurd q9.1 (by decide)) (fun h9 => h9.elim (fun q9 => absurd q9.1 (by decide)) (fun h9 => h9.elim (fun q9 => absurd q9.1 (by decide)) (fun h9 => h9.elim (fun q9 => absurd q9.1 (by decide)) (fun h9 => h9.elim (fun q9 => absurd q9.1 (by decide)) (fun h9 => h9.elim (fun q9 => absurd q9.1 (by decide)) (fun h9 => h9.elim (fun q9 => absurd q9.1 (by decide)) (fun h9 => h9.elim (fun q9 => absurd q9.1 (by decide)) (fun h9 => h9.elim (fun q9 => absurd q9.1 (by decide)) (fun h9 => h9.elim (fun q9 => absurd q9.1 (by decide)) (fun q9 => absurd q9.1 (by decide))))))))))))))) hI_112_ad26
  have hv_12 : hI S_6 113 (ad 26) = 0 := hf_8.fi (wm_26 (S := S) hW) (fun h9 => h9.elim (fun q9 => absurd q9.1 (by decide)) (fun h9 => h9.elim (fun q9 => absurd q9.1 (by decide)) (fun h9 => h9.elim (fun q9 => absurd q9.1 (by decide)) (fun h9 => h9.elim (fun q9 => absurd q9.1 (by decide)) (fun h9 => h9.elim (fun q9 => absurd q9.1 (by decide)) (fun h9 => h9.elim (fun q9 => absurd q9.1 (by decide)) (fun h9 => h9.elim (fun q9 => absurd q9.1 (by decide)) (fun h9 => h9.elim (fun q9 => absurd q9.1 (by decide)) (fun h9 => h9.elim (fun q9 => absurd q9.1 (by decide)) (fun h9 => h9.elim (fun q9 => absurd q9.1 (by decide)) (fun h9 => h9.elim (fun q9 => absurd q9.1 (by decide)) (fun h9 => h9.elim (fun q9 => absurd q9.1 (by decide)) (fun h9 => h9.elim (fun q9 => absurd q9.1 (by decide)) (fun q9 => absurd q9.1 (by decide))))))))))))))) hI_113_ad26
  have hv_13 : hI S_6 114 (ad 26) = nI bw := hf_8.fi (wm_26 (S := S) hW) (fun h9 => h9.elim (fun q9 => absurd q9.1 (by decide)) (fun h9 => h9.elim (fun q9 => absurd q9.1 (by decide)) (fun h9 => h9.elim (fun q9 => absurd q9.1 (by decide)) (fun h9 => h9.elim (fun q9 => absurd q9.1 (by decide)) (fun h9 => h9.elim (fun q9 => absurd q9.1 (by decide)) (fun h9 => h9.elim (fun q9 => absurd q9.1 (by decide)) (fun h9 => h9.elim (fun q9 => absurd q9.1 (by decide)) (fun h9 => h9.elim (fun q9 => absurd q9.1 (by decide)) (fun h9 => h9.elim (fun q9 => absurd q9.1 (by decide)) (fun h9 => h9.elim (fun q9 => absurd q9.1 (by decide)) (fun h9 => h9.elim (fun q9 => absurd q9.1 (by decide)) (fun h9 => h9.elim (fun q9 => absurd q9.1 (by decide)) (fun h9 => h9.elim (fun q9 => absurd q9.1 (by decide)) (fun q9 => absurd q9.1 (by decide))))))))))))))) hI_114_ad26
  have hv_14 : hI S_6 115 (ad 26) = nI bh := hf_8.fi (wm_26 (S := S) hW) (fun h9 => h9.elim (fun q9 => absurd q9.1 (by decide)) (fun h9 => h9.elim (fun q9 => absurd q9.1 (by decide)) (fun h9 => h9.elim (fun q9 => absurd q9.1 (by decide)) (fun h9 => h9.elim (fun q9 => absurd q9.1 (by decide)) (fun h9 => h9.elim (fun q9 => absurd q9.1 (by decide)) (fun h9 => h9.elim (fun q9 => absurd q9.1 (by decide)) (fun h9 => h9.elim (fun q9 => absurd q9.1 (by decide)) (fun h9 => h9.elim (fun q9 => absurd q9.1 (by decide)) (fun h9 => h9.elim (fun q9 => absurd q9.1 (by decide)) (fun h9 => h9.elim (fun q9 => absurd q9.1 (by decide)) (fun h9 => h9.elim (fun q9 => absurd q9.1 (by decide)) (fun h9 => h9.elim (fun q9 => absurd q9.1 (by decide)) (fun h9 => h9.elim (fun q9 => absurd q9.1 (by decide)) (fun q9 => absurd q9.1 (by decide))))))))))))))) hI_115_ad26
  have hv_15 : hI S_6 118 (ad 26) = nI pn := hf_8.fi (wm_26 (S := S) hW) (fun h9 => h9.elim (fun q9 => absurd q9.1 (by decide)) (fun h9 => h9.elim (fun q9 => absurd q9.1 (by decide)) (fun h9 => h9.elim (fun q9 => absurd q9.1 (by decide)) (fun h9 => h9.elim (fun q9 => absurd q9.1 (by decide)) (fun h9 => h9.elim (fun q9 => absurd q9.1 (by decide)) (fun h9 => h9.elim (fun q9 => absurd q9.1 (by decide)) (fun h9 => h9.elim (fun q9 => absurd q9.1 (by decide)) (fun h9 => h9.elim (fun q9 => absurd q9.1 (by decide)) (fun h9 => h9.elim (fun q9 => absurd q9.1 (by decide)) (fun h9 => h9.elim (fun q9 => absurd q9.1 (by decide)) (fun h9 => h9.elim (fun q9 => absurd q9.1 (by decide)) (fun h9 => h9.elim (fun q9 => absurd q9.1 (by decide)) (fun h9 => h9.elim (fun q9 => absurd q9.1 (by decide)) (fun q9 => absurd q9.1 (by decide))))))))))))))) hI_118_ad26
  have hv_16 : hI S_6 5 (ad 12) = 0 := hf_8.fi (wm_12 (S := S) hW) (fun h9 => h9.elim (fun q9 => absurd q9.1 (by decide)) (fun h9 => h9.elim (fun q9 => absurd q9.1 (by decide)) (fun h9 => h9.elim (fun q9 => absurd q9.1 (by decide)) (fun h9 => h9.elim (fun q9 => absurd q9.1 (by decide)) (fun h9 => h9.elim (fun q9 => absurd q9.1 (by decide)) (fun h9 => h9.elim (fun q9 => absurd q9.1 (by decide)) (fun h9 => h9.elim (fun q9 => absurd q9.1 (by decide)) (fun h9 => h9.elim (fun q9 => absurd q9.1 (by decide)) (fun h9 => h9.elim (fun q9 => absurd q9.1 (by decide)) (fun h9 => h9.elim (fun q9 => absurd q9.1 (by decide)) (fun h9 => h9.elim (fun q9 => absurd q9.1 (by decide)) (fun h9 => h9.elim (fun q9 => absurd q9.1 (by decide)) (fun h9 => h9.elim (fun q9 => absurd q9.1 (by decide)) (fun q9 => absurd q9.1 (by decide))))))))))))))) hI_5_ad12
  have hv_17 : hI S_6 505 (ad 35) = 80 := hf_8.fi (wm_35 (S := S) hW) (fun h9 => h9.elim (fun q9 => absurd q9.1 (by decide)) (fun h9 => h9.elim (fun q9 => absurd q9.1 (by decide)) (fun h9 => h9.elim (fun q9 => absurd q9.1 (by decide)) (fun h9 => h9.elim (fun q9 => absurd q9.1 (by decide)) (fun h9 => h9.elim (fun q9 => absurd q9.1 (by decide)) (fun h9 => h9.elim (fun q9 => absurd q9.1 (by decide)) (fun h9 => h9.elim (fun q9 => absurd q9.1 (by decide)) (fun h9 => h9.elim (fun q9 => absurd q9.1 (by decide)) (fun h9 => h9.elim (fun q9 => absurd q9.1 (by decide)) (fun h9 => h9.elim (fun q9 => absurd q9.1 (by decide)) (fun h9 => h9.elim (fun q9 => absurd q9.1 (by decide)) (fun h9 => h9.elim (fun q9 => absurd q9.1 (by decide)) (fun h9 => h9.elim (fun q9 => absurd q9.1 (by decide)) (fun q9 => absurd q9.1 (by decide))))))))))))))) hI_505_ad35
  have hv_18 : hI S_6 603 (ad 5) = 0 := hf_8.fi (wm_5 (S := S) hW) (fun h9 => h9.elim (fun q9 => absurd q9.1 (by decide)) (fun h9 => h9.elim (fun q9 => absurd q9.1 (by decide)) (fun h9 => h9.elim (fun q9 => absurd q9.1 (by decide)) (fun h9 => h9.elim (fun q9 => absurd q9.1 (by decide)) (fun h9 => h9.elim (fun q9 => absurd q9.1 (by decide)) (fun h9 => h9.elim (fun q9 => absurd q9.1 (by decide)) (fun h9 => h9.elim (fun q9 => absurd q9.1 (by decide)) (fun h9 => h9.elim (fun q9 => absurd q9.1 (by decide)) (fun h9 => h9.elim (fun q9 => absurd q9.1 (by decide)) (fun h9 => h9.elim (fun q9 => absurd q9.1 (by decide)) (fun h9 => h9.elim (fun q9 => absurd q9.1 (by decide)) (fun h9 => h9.elim (fun q9 => absurd q9.1 (by decide)) (fun h9 => h9.elim (fun q9 => absurd q9.1 (by decide)) (fun q9 => absurd q9.1 (by decide))))))))))))))) hI_603_ad5
  have hv_19 : hI S_6 700 (ad 27) = 0 := hf_8.fi (wm_27 (S := S) hW) (fun h9 => h9.elim (fun q9 => absurd q9.1 (by decide)) (fun h9 => h9.elim (fun q9 => absurd q9.1 (by decide)) (fun h9 => h9.elim (fun q9 => absurd q9.1 (by decide)) (fun h9 => h9.elim (fun q9 => absurd q9.1 (by decide)) (fun h9 => h9.elim (fun q9 => absurd q9.1 (by decide)) (fun h9 => h9.elim (fun q9 => absurd q9.1 (by decide)) (fun h9 => h9.elim (fun q9 => absurd q9.1 (by decide)) (fun h9 => h9.elim (fun q9 => absurd q9.1 (by decide)) (fun h9 => h9.elim (fun q9 => absurd q9.1 (by decide)) (fun h9 => h9.elim (fun q9 => absurd q9.1 (by decide)) (fun h9 => h9.elim (fun q9 => absurd q9.1 (by decide)) (fun h9 => h9.elim (fun q9 => absurd q9.1 (by decide)) (fun h9 => h9.elim (fun q9 => absurd q9.1 (by decide)) (fun q9 => absurd q9.1 (by decide))))))))))))))) hI_700_ad27
  have hv_20 : hI S_6 701 (ad 27) = 0 := hf_8.fi (wm_27 (S := S) hW) (fun h9 => h9.elim (fun q9 => absurd q9.1 (by decide)) (fun h9 => h9.elim (fun q9 => absurd q9.1 (by decide)) (fun h9 => h9.elim (fun q9 => absurd q9.1 (by decide)) (fun h9 => h9.elim (fun q9 => absurd q9.1 (by decide)) (fun h9 => h9.elim (fun q9 => absurd q9.1 (by decide)) (fun h9 => h9.elim (fun q9 => absurd q9.1 (by decide)) (fun h9 => h9.elim (fun q9 => absurd q9.1 (by decide)) (fun h9 => h9.elim (fun q9 => absurd q9.1 (by decide)) (fun h9 => h9.elim (fun q9 => absurd q9.1 (by decide)) (fun h9 => h9.elim (fun q9 => absurd q9.1 (by decide)) (fun h9 => h9.elim (fun q9 => absurd q9.1 (by decide)) (fun h9 => h9.elim (fun q9 => absurd q9.1 (by decide)) (fun h9 => h9.elim (fun q9 => absurd q9.1 (by decide)) (fun q9 => absurd q9.1 (by decide))))))))))))))) hI_701_ad27
  have hv_21 : hI S_6 706 (ad 27) = nI xu := hf_8.fi (wm_27 (S := S) hW) (fun h9 => h9.elim (fun q9 => absurd q9.1 (by decide)) (fun h9 => h9.elim (fun q9 => absurd q9.1 (by decide)) (fun h9 => h9.elim (fun q9 => absurd q9.1 (by decide)) (fun h9 => h9.elim (fun q9 => absurd q9.1 (by decide)) (fun h9 => h9.elim (fun q9 => absurd q9.1 (by decide)) (fun h9 => h9.elim (fun q9 => absurd q9.1 (by decide)) (fun h9 => h9.elim (fun q9 => absurd q9.1 (by decide)) (fun h9 => h9.elim (fun q9 => absurd q9.1 (by decide)) (fun h9 => h9.elim (fun q9 => absurd q9.1 (by decide)) (fun h9 => h9.elim (fun q9 => absurd q9.1 (by decide)) (fun h9 => h9.elim (fun q9 => absurd q9.1 (by decide)) (fun h9 => h9.elim (fun q9 => absurd q9.1 (by decide)) (fun h9 => h9.elim (fun q9 => absurd q9.1 (by decide)) (fun q9 => absurd q9.1 (by decide))))))))))))))) hI_706_ad27
  have hv_22 : hI S_6 707 (ad 27) = nI yu := hf_8.fi (wm_27 (S := S) hW) (fun h9 => h9.elim (fun q9 => absurd q9.1 (by decide)) (fun h9 => h9.elim (fun q9 => absurd q9.1 (by decide)) (fun h9 => h9.elim (fun q9 => absurd q9.1 (by decide)) (fun h9 => h9.elim (fun q9 => absurd q9.1 (by decide)) (fun h9 => h9.elim (fun q9 => absurd q9.1 (by decide)) (fun h9 => h9.elim (fun q9 => absurd q9.1 (by decide)) (fun h9 => h9.elim (fun q9 => absurd q9.1 (by decide)) (fun h9 => h9.elim (fun q9 => absurd q9.1 (by decide)) (fun h9 => h9.elim (fun q9 => absurd q9.1 (by decide)) (fun h9 => h9.elim (fun q9 => absurd q9.1 (by decide)) (fun h9 => h9.elim (fun q9 => absurd q9.1 (by decide)) (fun h9 => h9.elim (fun q9 => absurd q9.1 (by decide)) (fun h9 => h9.elim (fun q9 => absurd q9.1 (by decide)) (fun q9 => absurd q9.1 (by decide))))))))))))))) hI_707_ad27
  have hv_23 : hI S_6 916 (ad 6) = nI gn := hf_8.fi (wm_6 (S := S) hW) (fun h9 => h9.elim (fun q9 => absurd q9.1 (by decide)) (fun h9 => h9.elim (fun q9 => absurd q9.1 (by decide)) (fun h9 => h9.elim (fun q9 => absurd q9.1 (by decide)) (fun h9 => h9.elim (fun q9 => absurd q9.1 (by decide)) (fun h9 => h9.elim (fun q9 => absurd q9.1 (by decide)) (fun h9 => h9.elim (fun q9 => absurd q9.1 (by decide)) (fun h9 => h9.elim (fun q9 => absurd q9.1 (by decide)) (fun h9 => h9.elim (fun q9 => absurd q9.1 (by decide)) (fun h9 => h9.elim (fun q9 => absurd q9.1 (by decide)) (fun h9 => h9.elim (fun q9 => absurd q9.1 (by decide)) (fun h9 => h9.elim (fun q9 => absurd q9.1 (by decide)) (fun h9 => h9.elim (fun q9 => absurd q9.1 (by decide)) (fun h9 => h9.elim (fun q9 => absurd q9.1 (by decide)) (fun q9 => absurd q9.1 (by decide))))))))))))))) hI_916_ad6
  have hv_24 : hR S_6 913 (ad 6) = (some (ad 35)) := hf_8.fr (wm_6 (S := S) hW) (fun q9 => absurd q9.1 (by decide)) hR_913_ad6
  have hf_25 : Fm (fun f9 b9 => (f9 = 1000 ∧ b9 = (ad 24)) ∨ (f9 = 1001 ∧ b9 = (ad 24)) ∨ (f9 = 1002 ∧ b9 = (ad 24)) ∨ (f9 = 2 ∧ b9 = (ad 12)) ∨ (f9 = 3 ∧ b9 = (ad 12)) ∨ (f9 = 4 ∧ b9 = (ad 12)) ∨ (f9 = 6 ∧ b9 = (ad 12)) ∨ (f9 = 7 ∧ b9 = (ad 12)) ∨ (f9 = 8 ∧ b9 = (ad 12)) ∨ (f9 = 9 ∧ b9 = (ad 12)) ∨ (f9 = 11 ∧ b9 = (ad 12)) ∨ (f9 = 12 ∧ b9 = (ad 12)) ∨ (f9 = 13 ∧ b9 = (ad 12)) ∨ (f9 = 14 ∧ b9 = (ad 12))) (fun f9 b9 => (f9 = 10 ∧ b9 = (ad 12))) (fun b9 => b9 = (ad 25) ∨ b9 = (ad 14) ∨ b9 = (ad 13)) S S_6 := (Fm.refl (WI := (fun f9 b9 => (f9 = 1000 ∧ b9 = (ad 24)) ∨ (f9 = 1001 ∧ b9 = (ad 24)) ∨ (f9 = 1002 ∧ b9 = (ad 24)) ∨ (f9 = 2 ∧ b9 = (ad 12)) ∨ (f9 = 3 ∧ b9 = (ad 12)) ∨ (f9 = 4 ∧ b9 = (ad 12)) ∨ (f9 = 6 ∧ b9 = (ad 12)) ∨ (f9 = 7 ∧ b9 = (ad 12)) ∨ (f9 = 8 ∧ b9 = (ad 12)) ∨ (f9 = 9 ∧ b9 = (ad 12)) ∨ (f9 = 11 ∧ b9 = (ad 12)) ∨ (f9 = 12 ∧ b9 = (ad 12)) ∨ (f9 = 13 ∧ b9 = (ad 12)) ∨ (f9 = 14 ∧ b9 = (ad 12)))) (WR := (fun f9 b9 => (f9 = 10 ∧ b9 = (ad 12)))) (WA := (fun b9 => b9 = (ad 25) ∨ b9 = (ad 14) ∨ b9 = (ad 13)))).then hf_8 (fun a9 ha9 => ⟨(fun f9 h9 => (fun h9 => h9.elim (fun h8 => (Or.inl h8)) (fun h9 => h9.elim (fun h8 => (Or.inr (Or.inl h8))) (fun h9 => h9.elim (fun h8 => (Or.inr (Or.inr (Or.inl h8)))) (fun h9 => h9.elim (fun h8 => (Or.inr (Or.inr (Or.inr (Or.inl h8))))) (fun h9 => h9.elim (fun h8 => (Or.inr (Or.inr (Or.inr (Or.inr (Or.inl h8)))))) (fun h9 => h9.elim (fun h8 => (Or.inr (Or.inr (Or.inr (Or.inr (Or.inr (Or.inl h8))))))) (fun h9 => h9.elim (fun h8 => (Or.inr (Or.inr (Or.inr (Or.inr (Or.inr (Or.inr (Or.inl h8)))))))) (fun h9 => h9.elim (fun h8 => (Or.inr (Or.inr (Or.inr (Or.inr (Or.inr (Or.inr (Or.inr (Or.inl h8))))))))) (fun h9 => h9.elim (fun h8 => (Or.inr (Or.inr (Or.inr (Or.inr (Or.inr (Or.inr (Or.inr (Or.inr (Or.inl h8)))))))))) (fun h9 => h9.elim (fun h8 => (Or.inr (Or.inr (Or.inr (Or.inr (Or.inr (Or.inr (Or.inr (Or.inr (Or.inr (Or.inl h8))))))))))) (fun h9 => h9.elim (fun h8 => (Or.inr (Or.inr (Or.inr (Or.inr (Or.inr (Or.inr (Or.inr (Or.inr (Or.inr (Or.inr (Or.inl h8)))))))))))) (fun h9 => h9.elim (fun h8 => (Or.inr (Or.inr (Or.inr (Or.inr (Or.inr (Or.inr (Or.inr (Or.inr (Or.inr (Or.inr (Or.inr (Or.inl h8))))))))))))) (fun h9 => h9.elim (fun h8 => (Or.inr (Or.inr (Or.inr (Or.inr (Or.inr (Or.inr (Or.inr (Or.inr (Or.inr (Or.inr (Or.inr (Or.inr (Or.inl h8)))))))))))))) (fun h8 => (Or.inr (Or.inr (Or.inr (Or.inr (Or.inr (Or.inr (Or.inr (Or.inr (Or.inr (Or.inr (Or.inr (Or.inr (Or.inr h8))))))))))))))))))))))))))) h9), (fun f9 h9 => (fun h8 => h8) h9), (fun h9 => (fun h9 => h9.elim (fun h8 => (Or.inl h8)) (fun h9 => h9.elim (fun h8 => (Or.inr (Or.inl h8))) (fun h8 => (Or.inr (Or.inr h8))))) h9)⟩)
  have hW_26 : Wd ad S_6 := hW.fm hf_8 (by intro p9 hp9 h9; obtain ⟨e1, e2⟩ := h9 <;> exact wp_dyn p9 hp9 (by rw [e1]; decide)) (by intro p9 hp9; simp only [wqL, List.mem_cons, List.not_mem_nil, or_false] at hp9; rcases hp9 with rfl | rfl <;> intro h9 <;> rcases h9 with h9 | h9 | h9 <;> exact absurd h9 (wn hW (by decide) (by decide) (by decide)))
  refine j_goto (tgt := 316) C dX9_controlField_313 (by decide) ?_
  show J _ _ _ _ _ 316 _
  exact j_vret C M dX9_controlField_316 (Nat.le_of_ble_eq_true rfl) (Nat.le_of_ble_eq_true rfl) ⟨rfl, hf_25, e_1, e_2, e_3, x_4⟩

theorem dX9_eject_0 : decode cX9_eject 0 = .ok (.aload_n 0, 1) := by decide +kernel
theorem dX9_eject_1 : decode cX9_eject 1 = .ok (.getfield 111, 3) := by decide +kernel
theorem dX9_eject_4 : decode cX9_eject 4 = .ok (.ifCond .ne 13, 3) := by decide +kernel
theorem dX9_eject_7 : decode cX9_eject 7 = .ok (.aload_n 0, 1) := by decide +kernel
theorem dX9_eject_8 : decode cX9_eject 8 = .ok (.getfield 12, 3) := by decide +kernel
theorem dX9_eject_11 : decode cX9_eject 11 = .ok (.getfield 505, 3) := by decide +kernel
theorem dX9_eject_14 : decode cX9_eject 14 = .ok (.ifCond .ne 4, 3) := by decide +kernel
theorem dX9_eject_17 : decode cX9_eject 17 = .ok (.return_, 1) := by decide +kernel
theorem dX9_eject_18 : decode cX9_eject 18 = .ok (.aload_n 0, 1) := by decide +kernel
theorem dX9_eject_19 : decode cX9_eject 19 = .ok (.getfield 43, 3) := by decide +kernel
theorem dX9_eject_22 : decode cX9_eject 22 = .ok (.aload_n 0, 1) := by decide +kernel
theorem dX9_eject_23 : decode cX9_eject 23 = .ok (.getfield 57, 3) := by decide +kernel
theorem dX9_eject_26 : decode cX9_eject 26 = .ok (.getfield 480, 3) := by decide +kernel
theorem dX9_eject_29 : decode cX9_eject 29 = .ok (.invokevirtual 192, 3) := by decide +kernel
theorem dX9_eject_32 : decode cX9_eject 32 = .ok (.ifCond .eq 81, 3) := by decide +kernel
theorem dX9_eject_35 : decode cX9_eject 35 = .ok (.aload_n 0, 1) := by decide +kernel
theorem dX9_eject_36 : decode cX9_eject 36 = .ok (.getfield 108, 3) := by decide +kernel
theorem dX9_eject_39 : decode cX9_eject 39 = .ok (.iconst 3, 1) := by decide +kernel
theorem dX9_eject_40 : decode cX9_eject 40 = .ok (.if_icmp .ge 73, 3) := by decide +kernel
theorem dX9_eject_43 : decode cX9_eject 43 = .ok (.aload_n 0, 1) := by decide +kernel
theorem dX9_eject_44 : decode cX9_eject 44 = .ok (.getfield 61, 3) := by decide +kernel
theorem dX9_eject_47 : decode cX9_eject 47 = .ok (.aload_n 0, 1) := by decide +kernel
theorem dX9_eject_48 : decode cX9_eject 48 = .ok (.getfield 57, 3) := by decide +kernel
theorem dX9_eject_51 : decode cX9_eject 51 = .ok (.invokevirtual 233, 3) := by decide +kernel
theorem dX9_eject_54 : decode cX9_eject 54 = .ok (.aload_n 0, 1) := by decide +kernel
theorem dX9_eject_55 : decode cX9_eject 55 = .ok (.getfield 57, 3) := by decide +kernel
theorem dX9_eject_58 : decode cX9_eject 58 = .ok (.aload_n 0, 1) := by decide +kernel
theorem dX9_eject_59 : decode cX9_eject 59 = .ok (.getfield 57, 3) := by decide +kernel
theorem dX9_eject_62 : decode cX9_eject 62 = .ok (.getfield 129, 3) := by decide +kernel
theorem dX9_eject_65 : decode cX9_eject 65 = .ok (.getfield 167, 3) := by decide +kernel
theorem dX9_eject_68 : decode cX9_eject 68 = .ok (.aload_n 0, 1) := by decide +kernel
theorem dX9_eject_69 : decode cX9_eject 69 = .ok (.getfield 57, 3) := by decide +kernel
theorem dX9_eject_72 : decode cX9_eject 72 = .ok (.getfield 129, 3) := by decide +kernel
theorem dX9_eject_75 : decode cX9_eject 75 = .ok (.getfield 170, 3) := by decide +kernel
theorem dX9_eject_78 : decode cX9_eject 78 = .ok (.invokevirtual 101, 3) := by decide +kernel
theorem dX9_eject_81 : decode cX9_eject 81 = .ok (.aload_n 0, 1) := by decide +kernel
theorem dX9_eject_82 : decode cX9_eject 82 = .ok (.iconst 1, 1) := by decide +kernel
theorem dX9_eject_83 : decode cX9_eject 83 = .ok (.putfield 111, 3) := by decide +kernel
theorem dX9_eject_86 : decode cX9_eject 86 = .ok (.aload_n 0, 1) := by decide +kernel
theorem dX9_eject_87 : decode cX9_eject 87 = .ok (.aload_n 0, 1) := by decide +kernel
theorem dX9_eject_88 : decode cX9_eject 88 = .ok (.getfield 61, 3) := by decide +kernel
theorem dX9_eject_91 : decode cX9_eject 91 = .ok (.getfield 480, 3) := by decide +kernel
theorem dX9_eject_94 : decode cX9_eject 94 = .ok (.invokevirtual 237, 3) := by decide +kernel
theorem dX9_eject_97 : decode cX9_eject 97 = .ok (.aload_n 0, 1) := by decide +kernel
theorem dX9_eject_98 : decode cX9_eject 98 = .ok (.iconst 0, 1) := by decide +kernel
theorem dX9_eject_99 : decode cX9_eject 99 = .ok (.putfield 111, 3) := by decide +kernel
theorem dX9_eject_102 : decode cX9_eject 102 = .ok (.aload_n 0, 1) := by decide +kernel
theorem dX9_eject_103 : decode cX9_eject 103 = .ok (.getfield 57, 3) := by decide +kernel
theorem dX9_eject_106 : decode cX9_eject 106 = .ok (.aload_n 0, 1) := by decide +kernel
theorem dX9_eject_107 : decode cX9_eject 107 = .ok (.getfield 61, 3) := by decide +kernel
theorem dX9_eject_110 : decode cX9_eject 110 = .ok (.invokevirtual 233, 3) := by decide +kernel
theorem dX9_eject_113 : decode cX9_eject 113 = .ok (.iconst 0, 1) := by decide +kernel
theorem dX9_eject_114 : decode cX9_eject 114 = .ok (.istore_n 1, 1) := by decide +kernel
theorem dX9_eject_115 : decode cX9_eject 115 = .ok (.iload_n 1, 1) := by decide +kernel
theorem dX9_eject_116 : decode cX9_eject 116 = .ok (.aload_n 0, 1) := by decide +kernel
theorem dX9_eject_117 : decode cX9_eject 117 = .ok (.getfield 57, 3) := by decide +kernel
theorem dX9_eject_120 : decode cX9_eject 120 = .ok (.getfield 419, 3) := by decide +kernel
theorem dX9_eject_123 : decode cX9_eject 123 = .ok (.if_icmp .ge 54, 3) := by decide +kernel
theorem dX9_eject_126 : decode cX9_eject 126 = .ok (.aload_n 0, 1) := by decide +kernel
theorem dX9_eject_127 : decode cX9_eject 127 = .ok (.invokevirtual 118, 3) := by decide +kernel
theorem dX9_eject_130 : decode cX9_eject 130 = .ok (.ifCond .ne 47, 3) := by decide +kernel
theorem dX9_eject_133 : decode cX9_eject 133 = .ok (.aload_n 0, 1) := by decide +kernel
theorem dX9_eject_134 : decode cX9_eject 134 = .ok (.getfield 57, 3) := by decide +kernel
theorem dX9_eject_137 : decode cX9_eject 137 = .ok (.getfield 129, 3) := by decide +kernel
theorem dX9_eject_140 : decode cX9_eject 140 = .ok (.astore_n 2, 1) := by decide +kernel
theorem dX9_eject_141 : decode cX9_eject 141 = .ok (.aload_n 0, 1) := by decide +kernel
theorem dX9_eject_142 : decode cX9_eject 142 = .ok (.getfield 12, 3) := by decide +kernel
theorem dX9_eject_145 : decode cX9_eject 145 = .ok (.aload_n 0, 1) := by decide +kernel
theorem dX9_eject_146 : decode cX9_eject 146 = .ok (.getfield 77, 3) := by decide +kernel
theorem dX9_eject_149 : decode cX9_eject 149 = .ok (.invokevirtual 508, 3) := by decide +kernel
theorem dX9_eject_152 : decode cX9_eject 152 = .ok (.aload_n 2, 1) := by decide +kernel
theorem dX9_eject_153 : decode cX9_eject 153 = .ok (.invokevirtual 511, 3) := by decide +kernel
theorem dX9_eject_156 : decode cX9_eject 156 = .ok (.aload_n 0, 1) := by decide +kernel
theorem dX9_eject_157 : decode cX9_eject 157 = .ok (.getfield 77, 3) := by decide +kernel
theorem dX9_eject_160 : decode cX9_eject 160 = .ok (.aload_n 2, 1) := by decide +kernel
theorem dX9_eject_161 : decode cX9_eject 161 = .ok (.invokevirtual 515, 3) := by decide +kernel
theorem dX9_eject_164 : decode cX9_eject 164 = .ok (.aload_n 2, 1) := by decide +kernel
theorem dX9_eject_165 : decode cX9_eject 165 = .ok (.invokevirtual 518, 3) := by decide +kernel
theorem dX9_eject_168 : decode cX9_eject 168 = .ok (.invokevirtual 521, 3) := by decide +kernel
theorem dX9_eject_171 : decode cX9_eject 171 = .ok (.iinc 1 1, 3) := by decide +kernel
theorem dX9_eject_174 : decode cX9_eject 174 = .ok (.goto (-59), 3) := by decide +kernel
theorem dX9_eject_177 : decode cX9_eject 177 = .ok (.aload_n 0, 1) := by decide +kernel
theorem dX9_eject_178 : decode cX9_eject 178 = .ok (.getfield 12, 3) := by decide +kernel
theorem dX9_eject_181 : decode cX9_eject 181 = .ok (.invokevirtual 105, 3) := by decide +kernel
theorem dX9_eject_184 : decode cX9_eject 184 = .ok (.return_, 1) := by decide +kernel

set_option maxRecDepth 100000 in
set_option maxHeartbeats 4000000 in
theorem c_ej0 (S : Hp) (ad : Nat → Nat) (hW : Wd ad S) (hI_915_ad6 : hI S 915 (ad 6) = 0) (hI_2_ad12 : hI S 2 (ad 12) = 0) : Ct 5 yX9_eject cX9_eject 3 none 0 0 [.ref (ad 6)] S (fun r S' => r = none ∧ S' = S) := by
  refine ct_of (by decide) (Nat.le_of_ble_eq_true rfl) fun x hn9 C M hm9 => ?_
  have C : CB x RX9 cX9_eject := C
  refine J.eq (lv' := [(0, .ref (ad 6))]) rfl rfl rfl ?_
  refine j_aload_n C dX9_eject_0 rfl 0 rfl ?_
  refine j_geti (f := 915) (v := 0) C flX9_111 dX9_eject_1 (wm_6 (S := S) hW) (wk_6 (S := S) hW) (by decide) (by decide) rfl hI_915_ad6 ?_
  refine j_if_ne (tgt := 17) C dX9_eject_4 (by decide) (fun c9 => absurd c9 (by decide)) (fun c9 => ?_)
  refine j_aload_n C dX9_eject_7 rfl 0 rfl ?_
  refine j_getr (f := 901) (v := (ad 12)) C flX9_12 dX9_eject_8 (wm_6 (S := S) hW) (wk_6 (S := S) hW) (by decide) rfl (wr_901_6 (S := S) hW) ?_
  refine j_geti (f := 2) (v := 0) C flX9_505 dX9_eject_11 (wm_12 (S := S) hW) (wk_12 (S := S) hW) (by decide) (by decide) rfl hI_2_ad12 ?_
  refine j_if_ne (tgt := 18) C dX9_eject_14 (by decide) (fun c9 => absurd c9 (by decide)) (fun c9 => ?_)
  exact j_vret C M dX9_eject_17 (by decide) (by decide) ⟨rfl, rfl⟩

theorem dX9_pageField_0 : decode cX9_pageField 0 = .ok (.aload_n 0, 1) := by decide +kernel
theorem dX9_pageField_1 : decode cX9_pageField 1 = .ok (.getfield 57, 3) := by decide +kernel
theorem dX9_pageField_4 : decode cX9_pageField 4 = .ok (.getfield 129, 3) := by decide +kernel
theorem dX9_pageField_7 : decode cX9_pageField 7 = .ok (.astore_n 2, 1) := by decide +kernel
theorem dX9_pageField_8 : decode cX9_pageField 8 = .ok (.aload_n 0, 1) := by decide +kernel
theorem dX9_pageField_9 : decode cX9_pageField 9 = .ok (.getfield 82, 3) := by decide +kernel
theorem dX9_pageField_12 : decode cX9_pageField 12 = .ok (.getfield 327, 3) := by decide +kernel
theorem dX9_pageField_15 : decode cX9_pageField 15 = .ok (.tableswitch 316 65 88 #[109, 316, 218, 236, 266, 274, 316, 176, 316, 316, 316, 282, 316, 316, 144, 316, 316, 316, 316, 316, 316, 316, 316, 187], 109) := by decide +kernel
theorem dX9_pageField_124 : decode cX9_pageField 124 = .ok (.iload_n 1, 1) := by decide +kernel
theorem dX9_pageField_125 : decode cX9_pageField 125 = .ok (.ifCond .lt 206, 3) := by decide +kernel
theorem dX9_pageField_128 : decode cX9_pageField 128 = .ok (.iload_n 1, 1) := by decide +kernel
theorem dX9_pageField_129 : decode cX9_pageField 129 = .ok (.getstatic 413, 3) := by decide +kernel
theorem dX9_pageField_132 : decode cX9_pageField 132 = .ok (.arraylength, 1) := by decide +kernel
theorem dX9_pageField_133 : decode cX9_pageField 133 = .ok (.if_icmp .ge 198, 3) := by decide +kernel
theorem dX9_pageField_136 : decode cX9_pageField 136 = .ok (.aload_n 0, 1) := by decide +kernel
theorem dX9_pageField_137 : decode cX9_pageField 137 = .ok (.getfield 111, 3) := by decide +kernel
theorem dX9_pageField_140 : decode cX9_pageField 140 = .ok (.ifCond .ne 191, 3) := by decide +kernel
theorem dX9_pageField_143 : decode cX9_pageField 143 = .ok (.aload_n 0, 1) := by decide +kernel
theorem dX9_pageField_144 : decode cX9_pageField 144 = .ok (.invokevirtual 240, 3) := by decide +kernel
theorem dX9_pageField_147 : decode cX9_pageField 147 = .ok (.aload_n 2, 1) := by decide +kernel
theorem dX9_pageField_148 : decode cX9_pageField 148 = .ok (.iload_n 1, 1) := by decide +kernel
theorem dX9_pageField_149 : decode cX9_pageField 149 = .ok (.aload_n 2, 1) := by decide +kernel
theorem dX9_pageField_150 : decode cX9_pageField 150 = .ok (.getfield 170, 3) := by decide +kernel
theorem dX9_pageField_153 : decode cX9_pageField 153 = .ok (.invokevirtual 416, 3) := by decide +kernel
theorem dX9_pageField_156 : decode cX9_pageField 156 = .ok (.goto 175, 3) := by decide +kernel
theorem dX9_pageField_159 : decode cX9_pageField 159 = .ok (.iload_n 1, 1) := by decide +kernel
theorem dX9_pageField_160 : decode cX9_pageField 160 = .ok (.ifCond .eq 8, 3) := by decide +kernel
theorem dX9_pageField_163 : decode cX9_pageField 163 = .ok (.iload_n 1, 1) := by decide +kernel
theorem dX9_pageField_164 : decode cX9_pageField 164 = .ok (.iconst 1, 1) := by decide +kernel
theorem dX9_pageField_165 : decode cX9_pageField 165 = .ok (.if_icmp .ne 166, 3) := by decide +kernel
theorem dX9_pageField_168 : decode cX9_pageField 168 = .ok (.aload_n 0, 1) := by decide +kernel
theorem dX9_pageField_169 : decode cX9_pageField 169 = .ok (.getfield 111, 3) := by decide +kernel
theorem dX9_pageField_172 : decode cX9_pageField 172 = .ok (.ifCond .ne 159, 3) := by decide +kernel
theorem dX9_pageField_175 : decode cX9_pageField 175 = .ok (.aload_n 0, 1) := by decide +kernel
theorem dX9_pageField_176 : decode cX9_pageField 176 = .ok (.invokevirtual 240, 3) := by decide +kernel
theorem dX9_pageField_179 : decode cX9_pageField 179 = .ok (.aload_n 2, 1) := by decide +kernel
theorem dX9_pageField_180 : decode cX9_pageField 180 = .ok (.aload_n 2, 1) := by decide +kernel
theorem dX9_pageField_181 : decode cX9_pageField 181 = .ok (.getfield 167, 3) := by decide +kernel
theorem dX9_pageField_184 : decode cX9_pageField 184 = .ok (.iload_n 1, 1) := by decide +kernel
theorem dX9_pageField_185 : decode cX9_pageField 185 = .ok (.invokevirtual 416, 3) := by decide +kernel
theorem dX9_pageField_188 : decode cX9_pageField 188 = .ok (.goto 143, 3) := by decide +kernel
theorem dX9_pageField_191 : decode cX9_pageField 191 = .ok (.iload_n 1, 1) := by decide +kernel
theorem dX9_pageField_192 : decode cX9_pageField 192 = .ok (.ifCond .ne 139, 3) := by decide +kernel
theorem dX9_pageField_195 : decode cX9_pageField 195 = .ok (.aload_n 0, 1) := by decide +kernel
theorem dX9_pageField_196 : decode cX9_pageField 196 = .ok (.invokevirtual 259, 3) := by decide +kernel
theorem dX9_pageField_199 : decode cX9_pageField 199 = .ok (.goto 132, 3) := by decide +kernel
theorem dX9_pageField_202 : decode cX9_pageField 202 = .ok (.aload_n 0, 1) := by decide +kernel
theorem dX9_pageField_203 : decode cX9_pageField 203 = .ok (.getfield 57, 3) := by decide +kernel
theorem dX9_pageField_206 : decode cX9_pageField 206 = .ok (.iload_n 1, 1) := by decide +kernel
theorem dX9_pageField_207 : decode cX9_pageField 207 = .ok (.iconst 1, 1) := by decide +kernel
theorem dX9_pageField_208 : decode cX9_pageField 208 = .ok (.if_icmp .lt 12, 3) := by decide +kernel
theorem dX9_pageField_211 : decode cX9_pageField 211 = .ok (.iload_n 1, 1) := by decide +kernel
theorem dX9_pageField_212 : decode cX9_pageField 212 = .ok (.iconst 4, 1) := by decide +kernel
theorem dX9_pageField_213 : decode cX9_pageField 213 = .ok (.if_icmp .gt 7, 3) := by decide +kernel
theorem dX9_pageField_216 : decode cX9_pageField 216 = .ok (.iload_n 1, 1) := by decide +kernel
theorem dX9_pageField_217 : decode cX9_pageField 217 = .ok (.goto 10, 3) := by decide +kernel
theorem dX9_pageField_220 : decode cX9_pageField 220 = .ok (.aload_n 0, 1) := by decide +kernel
theorem dX9_pageField_221 : decode cX9_pageField 221 = .ok (.getfield 57, 3) := by decide +kernel
theorem dX9_pageField_224 : decode cX9_pageField 224 = .ok (.getfield 419, 3) := by decide +kernel
theorem dX9_pageField_227 : decode cX9_pageField 227 = .ok (.putfield 419, 3) := by decide +kernel
theorem dX9_pageField_230 : decode cX9_pageField 230 = .ok (.goto 101, 3) := by decide +kernel
theorem dX9_pageField_233 : decode cX9_pageField 233 = .ok (.aload_n 2, 1) := by decide +kernel
theorem dX9_pageField_234 : decode cX9_pageField 234 = .ok (.aload_n 0, 1) := by decide +kernel
theorem dX9_pageField_235 : decode cX9_pageField 235 = .ok (.sipush 150, 3) := by decide +kernel
theorem dX9_pageField_238 : decode cX9_pageField 238 = .ok (.aload_n 2, 1) := by decide +kernel
theorem dX9_pageField_239 : decode cX9_pageField 239 = .ok (.getfield 144, 3) := by decide +kernel
theorem dX9_pageField_242 : decode cX9_pageField 242 = .ok (.invokevirtual 422, 3) := by decide +kernel
theorem dX9_pageField_245 : decode cX9_pageField 245 = .ok (.putfield 144, 3) := by decide +kernel
theorem dX9_pageField_248 : decode cX9_pageField 248 = .ok (.goto 83, 3) := by decide +kernel
theorem dX9_pageField_251 : decode cX9_pageField 251 = .ok (.aload_n 2, 1) := by decide +kernel
theorem dX9_pageField_252 : decode cX9_pageField 252 = .ok (.iload_n 1, 1) := by decide +kernel
theorem dX9_pageField_253 : decode cX9_pageField 253 = .ok (.ifCond .le 18, 3) := by decide +kernel
theorem dX9_pageField_256 : decode cX9_pageField 256 = .ok (.bipush 48, 2) := by decide +kernel
theorem dX9_pageField_258 : decode cX9_pageField 258 = .ok (.iload_n 1, 1) := by decide +kernel
theorem dX9_pageField_259 : decode cX9_pageField 259 = .ok (.irem, 1) := by decide +kernel
theorem dX9_pageField_260 : decode cX9_pageField 260 = .ok (.ifCond .ne 11, 3) := by decide +kernel
theorem dX9_pageField_263 : decode cX9_pageField 263 = .ok (.sipush 7200, 3) := by decide +kernel
theorem dX9_pageField_266 : decode cX9_pageField 266 = .ok (.iload_n 1, 1) := by decide +kernel
theorem dX9_pageField_267 : decode cX9_pageField 267 = .ok (.idiv, 1) := by decide +kernel
theorem dX9_pageField_268 : decode cX9_pageField 268 = .ok (.goto 7, 3) := by decide +kernel
theorem dX9_pageField_271 : decode cX9_pageField 271 = .ok (.aload_n 2, 1) := by decide +kernel
theorem dX9_pageField_272 : decode cX9_pageField 272 = .ok (.getfield 144, 3) := by decide +kernel
theorem dX9_pageField_275 : decode cX9_pageField 275 = .ok (.putfield 144, 3) := by decide +kernel
theorem dX9_pageField_278 : decode cX9_pageField 278 = .ok (.goto 53, 3) := by decide +kernel
theorem dX9_pageField_281 : decode cX9_pageField 281 = .ok (.aload_n 2, 1) := by decide +kernel
theorem dX9_pageField_282 : decode cX9_pageField 282 = .ok (.iload_n 1, 1) := by decide +kernel
theorem dX9_pageField_283 : decode cX9_pageField 283 = .ok (.invokevirtual 425, 3) := by decide +kernel
theorem dX9_pageField_286 : decode cX9_pageField 286 = .ok (.goto 45, 3) := by decide +kernel
theorem dX9_pageField_289 : decode cX9_pageField 289 = .ok (.aload_n 2, 1) := by decide +kernel
theorem dX9_pageField_290 : decode cX9_pageField 290 = .ok (.iload_n 1, 1) := by decide +kernel
theorem dX9_pageField_291 : decode cX9_pageField 291 = .ok (.invokevirtual 428, 3) := by decide +kernel
theorem dX9_pageField_294 : decode cX9_pageField 294 = .ok (.goto 37, 3) := by decide +kernel
theorem dX9_pageField_297 : decode cX9_pageField 297 = .ok (.aload_n 0, 1) := by decide +kernel
theorem dX9_pageField_298 : decode cX9_pageField 298 = .ok (.getfield 57, 3) := by decide +kernel
theorem dX9_pageField_301 : decode cX9_pageField 301 = .ok (.iload_n 1, 1) := by decide +kernel
theorem dX9_pageField_302 : decode cX9_pageField 302 = .ok (.iconst 1, 1) := by decide +kernel
theorem dX9_pageField_303 : decode cX9_pageField 303 = .ok (.if_icmp .eq 17, 3) := by decide +kernel
theorem dX9_pageField_306 : decode cX9_pageField 306 = .ok (.iload_n 1, 1) := by decide +kernel
theorem dX9_pageField_307 : decode cX9_pageField 307 = .ok (.ifCond .eq 17, 3) := by decide +kernel
theorem dX9_pageField_310 : decode cX9_pageField 310 = .ok (.aload_n 0, 1) := by decide +kernel
theorem dX9_pageField_311 : decode cX9_pageField 311 = .ok (.getfield 57, 3) := by decide +kernel
theorem dX9_pageField_314 : decode cX9_pageField 314 = .ok (.getfield 280, 3) := by decide +kernel
theorem dX9_pageField_317 : decode cX9_pageField 317 = .ok (.ifCond .eq 7, 3) := by decide +kernel
theorem dX9_pageField_320 : decode cX9_pageField 320 = .ok (.iconst 1, 1) := by decide +kernel
theorem dX9_pageField_321 : decode cX9_pageField 321 = .ok (.goto 4, 3) := by decide +kernel
theorem dX9_pageField_324 : decode cX9_pageField 324 = .ok (.iconst 0, 1) := by decide +kernel
theorem dX9_pageField_325 : decode cX9_pageField 325 = .ok (.putfield 280, 3) := by decide +kernel
theorem dX9_pageField_328 : decode cX9_pageField 328 = .ok (.goto 3, 3) := by decide +kernel
theorem dX9_pageField_331 : decode cX9_pageField 331 = .ok (.return_, 1) := by decide +kernel

set_option maxRecDepth 100000 in
set_option maxHeartbeats 4000000 in
theorem c_pfA (S : Hp) (ad : Nat → Nat) (hW : Wd ad S) (hR_913_ad6 : hR S 913 (ad 6) = some (ad 35)) (hI_505_ad35 : hI S 505 (ad 35) = 65) (hI_915_ad6 : hI S 915 (ad 6) = 0) (hI_2_ad12 : hI S 2 (ad 12) = 0) (hI_708_ad27 : hI S 708 (ad 27) = 1200) (hI_701_ad27 : hI S 701 (ad 27) = 0) : Ct 6 yX9_pageField cX9_pageField 3 none 0 0 [.ref (ad 6), .int 0] S (fun r S' => r = none ∧ S' = (sI (sI (sI (sI (sI (sI (sI (sI S 700 (ad 27) 0) 701 (ad 27) 0) 704 (ad 27) 0) 705 (ad 27) 23040) 702 (ad 27) 0) 703 (ad 27) 19200) 706 (ad 27) (nI 0)) 707 (ad 27) (nI 900))) := by
  refine ct_of (by decide) (Nat.le_of_ble_eq_true rfl) fun x hn9 C M hm9 => ?_
  have C : CB x RX9 cX9_pageField := C
  refine J.eq (lv' := [(0, .ref (ad 6)), (1, .int 0)]) rfl rfl rfl ?_
  refine j_aload_n C dX9_pageField_0 rfl 0 rfl ?_
  refine j_getr (f := 909) (v := (ad 26)) C flX9_57 dX9_pageField_1 (wm_6 (S := S) hW) (wk_6 (S := S) hW) (by decide) rfl (wr_909_6 (S := S) hW) ?_
  refine j_getr (f := 100) (v := (ad 27)) C flX9_129 dX9_pageField_4 (wm_26 (S := S) hW) (wk_26 (S := S) hW) (by decide) rfl (wr_100_26 (S := S) hW) ?_
  refine j_astore_n (lv' := [(2, .ref (ad 27)), (0, .ref (ad 6)), (1, .int 0)]) C dX9_pageField_7 rfl (by rw [hn9]; decide) rfl ?_
  refine j_aload_n C dX9_pageField_8 rfl 1 rfl ?_
  refine j_getr (f := 913) (v := (ad 35)) C flX9_82 dX9_pageField_9 (wm_6 (S := S) hW) (wk_6 (S := S) hW) (by decide) rfl hR_913_ad6 ?_
  refine j_geti (f := 505) (v := 65) C flX9_327 dX9_pageField_12 (wm_35 (S := S) hW) (wk_35 (S := S) hW) (by decide) (by decide) rfl hI_505_ad35 ?_
  refine j_tabIn (off := 109) (tgt := 124) C dX9_pageField_15 (by decide) (by decide) (by decide) (by decide) ?_
  show J _ _ _ _ _ 124 _
  refine j_iload_n C dX9_pageField_124 rfl 2 rfl ?_
  refine j_if_lt (tgt := 331) C dX9_pageField_125 (by decide) (fun c9 => absurd c9 (by decide)) (fun c9 => ?_)
  refine j_iload_n C dX9_pageField_128 rfl 2 rfl ?_
  refine j_gets C 0 rfl (Or.inr ⟨_, gsX9_413⟩) dX9_pageField_129 ?_
  refine j_stlen (v := 4) C 0 rfl dX9_pageField_132 (by decide) ?_
  refine j_ic_ge (tgt := 331) C dX9_pageField_133 (by decide) (fun c9 => absurd c9 (by decide)) (fun c9 => ?_)
  refine j_aload_n C dX9_pageField_136 rfl 1 rfl ?_
  refine j_geti (f := 915) (v := 0) C flX9_111 dX9_pageField_137 (wm_6 (S := S) hW) (wk_6 (S := S) hW) (by decide) (by decide) rfl hI_915_ad6 ?_
  show J _ _ _ _ _ 140 _
  refine j_if_ne (tgt := 331) C dX9_pageField_140 (by decide) (fun c9 => absurd c9 (by decide)) (fun c9 => ?_)
  refine j_aload_n C dX9_pageField_143 rfl 1 rfl ?_
  refine j_callV (ci := 9) C [] [] mlX9_240 mcX9_eject (c_ej0 S ad hW hI_915_ad6 hI_2_ad12) (wm_6 (S := S) hW) (wk_6 (S := S) hW) rfl (M.rm (by decide) (by decide) (Nat.le_of_ble_eq_true rfl) (Nat.le_of_ble_eq_true rfl)) rfl rfl (Nat.le_of_ble_eq_true rfl) dX9_pageField_144 (fun r_1 S_2 hp_3 => ?_)
  obtain ⟨rfl, e_4⟩ := hp_3
  refine J.eq (S' := S) (st' := []) (lv' := [(2, .ref (ad 27)), (0, .ref (ad 6)), (1, .int 0)]) e_4 rfl rfl ?_
  refine j_aload_n C dX9_pageField_147 rfl 0 rfl ?_
  refine j_iload_n C dX9_pageField_148 rfl 2 rfl ?_
  refine j_aload_n C dX9_pageField_149 rfl 0 rfl ?_
  refine j_geti (f := 701) (v := 0) C flX9_170 dX9_pageField_150 (wm_27 (S := S) hW) (wk_27 (S := S) hW) (by decide) (by decide) rfl hI_701_ad27 ?_
  refine j_callV (ci := 7) C [.int 0, .int 0] [] mlX9_416 mcX7_turn (c_turn0 S (ad 27) (wm_27 (S := S) hW) (wk_27 (S := S) hW) hI_708_ad27) (wm_27 (S := S) hW) (wk_27 (S := S) hW) rfl (M.rm (by decide) (by decide) (Nat.le_of_ble_eq_true rfl) (Nat.le_of_ble_eq_true rfl)) rfl rfl (Nat.le_of_ble_eq_true rfl) dX9_pageField_153 (fun r_5 S_6 hp_7 => ?_)
  obtain ⟨rfl, e_8⟩ := hp_7
  refine J.eq (S' := (sI (sI (sI (sI (sI (sI (sI (sI S 700 (ad 27) 0) 701 (ad 27) 0) 704 (ad 27) 0) 705 (ad 27) 23040) 702 (ad 27) 0) 703 (ad 27) 19200) 706 (ad 27) (nI 0)) 707 (ad 27) (nI 900))) (st' := []) (lv' := [(2, .ref (ad 27)), (0, .ref (ad 6)), (1, .int 0)]) e_8 rfl rfl ?_
  show J _ _ _ _ _ 156 _
  obtain ⟨S_9, eS_10⟩ : ∃ S9 : Hp, S9 = (sI (sI (sI (sI (sI (sI (sI (sI S 700 (ad 27) 0) 701 (ad 27) 0) 704 (ad 27) 0) 705 (ad 27) 23040) 702 (ad 27) 0) 703 (ad 27) 19200) 706 (ad 27) (nI 0)) 707 (ad 27) (nI 900)) := ⟨_, rfl⟩
  refine J.eq (S' := S_9) eS_10.symm rfl rfl ?_
  have hv_11 : hI S_9 2 (ad 12) = 0 := by rw [eS_10]; exact (rd_sIf (S := (sI (sI (sI (sI (sI (sI (sI S 700 (ad 27) 0) 701 (ad 27) 0) 704 (ad 27) 0) 705 (ad 27) 23040) 702 (ad 27) 0) 703 (ad 27) 19200) 706 (ad 27) (nI 0))) (g := 707) (a := (ad 27)) (v := nI 900) (by decide) (rd_sIf (S := (sI (sI (sI (sI (sI (sI S 700 (ad 27) 0) 701 (ad 27) 0) 704 (ad 27) 0) 705 (ad 27) 23040) 702 (ad 27) 0) 703 (ad 27) 19200)) (g := 706) (a := (ad 27)) (v := nI 0) (by decide) (rd_sIf (S := (sI (sI (sI (sI (sI S 700 (ad 27) 0) 701 (ad 27) 0) 704 (ad 27) 0) 705 (ad 27) 23040) 702 (ad 27) 0)) (g := 703) (a := (ad 27)) (v := 19200) (by decide) (rd_sIf (S := (sI (sI (sI (sI S 700 (ad 27) 0) 701 (ad 27) 0) 704 (ad 27) 0) 705 (ad 27) 23040)) (g := 702) (a := (ad 27)) (v := 0) (by decide) (rd_sIf (S := (sI (sI (sI S 700 (ad 27) 0) 701 (ad 27) 0) 704 (ad 27) 0)) (g := 705) (a := (ad 27)) (v := 23040) (by decide) (rd_sIf (S := (sI (sI S 700 (ad 27) 0) 701 (ad 27) 0)) (g := 704) (a := (ad 27)) (v := 0) (by decide) (rd_sIf (S := (sI S 700 (ad 27) 0)) (g := 701) (a := (ad 27)) (v := 0) (by decide) (rd_sIf (S := S) (g := 700) (a := (ad 27)) (v := 0) (by decide) hI_2_ad12))))))))
  have hv_12 : hI S_9 505 (ad 35) = 65 := by rw [eS_10]; exact (rd_sIf (S := (sI (sI (sI (sI (sI (sI (sI S 700 (ad 27) 0) 701 (ad 27) 0) 704 (ad 27) 0) 705 (ad 27) 23040) 702 (ad 27) 0) 703 (ad 27) 19200) 706 (ad 27) (nI 0))) (g := 707) (a := (ad 27)) (v := nI 900) (by decide) (rd_sIf (S := (sI (sI (sI (sI (sI (sI S 700 (ad 27) 0) 701 (ad 27) 0) 704 (ad 27) 0) 705 (ad 27) 23040) 702 (ad 27) 0) 703 (ad 27) 19200)) (g := 706) (a := (ad 27)) (v := nI 0) (by decide) (rd_sIf (S := (sI (sI (sI (sI (sI S 700 (ad 27) 0) 701 (ad 27) 0) 704 (ad 27) 0) 705 (ad 27) 23040) 702 (ad 27) 0)) (g := 703) (a := (ad 27)) (v := 19200) (by decide) (rd_sIf (S := (sI (sI (sI (sI S 700 (ad 27) 0) 701 (ad 27) 0) 704 (ad 27) 0) 705 (ad 27) 23040)) (g := 702) (a := (ad 27)) (v := 0) (by decide) (rd_sIf (S := (sI (sI (sI S 700 (ad 27) 0) 701 (ad 27) 0) 704 (ad 27) 0)) (g := 705) (a := (ad 27)) (v := 23040) (by decide) (rd_sIf (S := (sI (sI S 700 (ad 27) 0) 701 (ad 27) 0)) (g := 704) (a := (ad 27)) (v := 0) (by decide) (rd_sIf (S := (sI S 700 (ad 27) 0)) (g := 701) (a := (ad 27)) (v := 0) (by decide) (rd_sIf (S := S) (g := 700) (a := (ad 27)) (v := 0) (by decide) hI_505_ad35))))))))
  have hv_13 : hI S_9 700 (ad 27) = 0 := by rw [eS_10]; exact (rd_sIf (S := (sI (sI (sI (sI (sI (sI (sI S 700 (ad 27) 0) 701 (ad 27) 0) 704 (ad 27) 0) 705 (ad 27) 23040) 702 (ad 27) 0) 703 (ad 27) 19200) 706 (ad 27) (nI 0))) (g := 707) (a := (ad 27)) (v := nI 900) (by decide) (rd_sIf (S := (sI (sI (sI (sI (sI (sI S 700 (ad 27) 0) 701 (ad 27) 0) 704 (ad 27) 0) 705 (ad 27) 23040) 702 (ad 27) 0) 703 (ad 27) 19200)) (g := 706) (a := (ad 27)) (v := nI 0) (by decide) (rd_sIf (S := (sI (sI (sI (sI (sI S 700 (ad 27) 0) 701 (ad 27) 0) 704 (ad 27) 0) 705 (ad 27) 23040) 702 (ad 27) 0)) (g := 703) (a := (ad 27)) (v := 19200) (by decide) (rd_sIf (S := (sI (sI (sI (sI S 700 (ad 27) 0) 701 (ad 27) 0) 704 (ad 27) 0) 705 (ad 27) 23040)) (g := 702) (a := (ad 27)) (v := 0) (by decide) (rd_sIf (S := (sI (sI (sI S 700 (ad 27) 0) 701 (ad 27) 0) 704 (ad 27) 0)) (g := 705) (a := (ad 27)) (v := 23040) (by decide) (rd_sIf (S := (sI (sI S 700 (ad 27) 0) 701 (ad 27) 0)) (g := 704) (a := (ad 27)) (v := 0) (by decide) (rd_sIf (S := (sI S 700 (ad 27) 0)) (g := 701) (a := (ad 27)) (v := 0) (by decide) (rd_sI (S := S) (g := 700) (a := (ad 27)) (v := 0)))))))))
  have hv_14 : hI S_9 701 (ad 27) = 0 := by rw [eS_10]; exact (rd_sIf (S := (sI (sI (sI (sI (sI (sI (sI S 700 (ad 27) 0) 701 (ad 27) 0) 704 (ad 27) 0) 705 (ad 27) 23040) 702 (ad 27) 0) 703 (ad 27) 19200) 706 (ad 27) (nI 0))) (g := 707) (a := (ad 27)) (v := nI 900) (by decide) (rd_sIf (S := (sI (sI (sI (sI (sI (sI S 700 (ad 27) 0) 701 (ad 27) 0) 704 (ad 27) 0) 705 (ad 27) 23040) 702 (ad 27) 0) 703 (ad 27) 19200)) (g := 706) (a := (ad 27)) (v := nI 0) (by decide) (rd_sIf (S := (sI (sI (sI (sI (sI S 700 (ad 27) 0) 701 (ad 27) 0) 704 (ad 27) 0) 705 (ad 27) 23040) 702 (ad 27) 0)) (g := 703) (a := (ad 27)) (v := 19200) (by decide) (rd_sIf (S := (sI (sI (sI (sI S 700 (ad 27) 0) 701 (ad 27) 0) 704 (ad 27) 0) 705 (ad 27) 23040)) (g := 702) (a := (ad 27)) (v := 0) (by decide) (rd_sIf (S := (sI (sI (sI S 700 (ad 27) 0) 701 (ad 27) 0) 704 (ad 27) 0)) (g := 705) (a := (ad 27)) (v := 23040) (by decide) (rd_sIf (S := (sI (sI S 700 (ad 27) 0) 701 (ad 27) 0)) (g := 704) (a := (ad 27)) (v := 0) (by decide) (rd_sI (S := (sI S 700 (ad 27) 0)) (g := 701) (a := (ad 27)) (v := 0))))))))
  have hv_15 : hI S_9 702 (ad 27) = 0 := by rw [eS_10]; exact (rd_sIf (S := (sI (sI (sI (sI (sI (sI (sI S 700 (ad 27) 0) 701 (ad 27) 0) 704 (ad 27) 0) 705 (ad 27) 23040) 702 (ad 27) 0) 703 (ad 27) 19200) 706 (ad 27) (nI 0))) (g := 707) (a := (ad 27)) (v := nI 900) (by decide) (rd_sIf (S := (sI (sI (sI (sI (sI (sI S 700 (ad 27) 0) 701 (ad 27) 0) 704 (ad 27) 0) 705 (ad 27) 23040) 702 (ad 27) 0) 703 (ad 27) 19200)) (g := 706) (a := (ad 27)) (v := nI 0) (by decide) (rd_sIf (S := (sI (sI (sI (sI (sI S 700 (ad 27) 0) 701 (ad 27) 0) 704 (ad 27) 0) 705 (ad 27) 23040) 702 (ad 27) 0)) (g := 703) (a := (ad 27)) (v := 19200) (by decide) (rd_sI (S := (sI (sI (sI (sI S 700 (ad 27) 0) 701 (ad 27) 0) 704 (ad 27) 0) 705 (ad 27) 23040)) (g := 702) (a := (ad 27)) (v := 0)))))
  have hv_16 : hI S_9 703 (ad 27) = 19200 := by rw [eS_10]; exact (rd_sIf (S := (sI (sI (sI (sI (sI (sI (sI S 700 (ad 27) 0) 701 (ad 27) 0) 704 (ad 27) 0) 705 (ad 27) 23040) 702 (ad 27) 0) 703 (ad 27) 19200) 706 (ad 27) (nI 0))) (g := 707) (a := (ad 27)) (v := nI 900) (by decide) (rd_sIf (S := (sI (sI (sI (sI (sI (sI S 700 (ad 27) 0) 701 (ad 27) 0) 704 (ad 27) 0) 705 (ad 27) 23040) 702 (ad 27) 0) 703 (ad 27) 19200)) (g := 706) (a := (ad 27)) (v := nI 0) (by decide) (rd_sI (S := (sI (sI (sI (sI (sI S 700 (ad 27) 0) 701 (ad 27) 0) 704 (ad 27) 0) 705 (ad 27) 23040) 702 (ad 27) 0)) (g := 703) (a := (ad 27)) (v := 19200))))
  have hv_17 : hI S_9 704 (ad 27) = 0 := by rw [eS_10]; exact (rd_sIf (S := (sI (sI (sI (sI (sI (sI (sI S 700 (ad 27) 0) 701 (ad 27) 0) 704 (ad 27) 0) 705 (ad 27) 23040) 702 (ad 27) 0) 703 (ad 27) 19200) 706 (ad 27) (nI 0))) (g := 707) (a := (ad 27)) (v := nI 900) (by decide) (rd_sIf (S := (sI (sI (sI (sI (sI (sI S 700 (ad 27) 0) 701 (ad 27) 0) 704 (ad 27) 0) 705 (ad 27) 23040) 702 (ad 27) 0) 703 (ad 27) 19200)) (g := 706) (a := (ad 27)) (v := nI 0) (by decide) (rd_sIf (S := (sI (sI (sI (sI (sI S 700 (ad 27) 0) 701 (ad 27) 0) 704 (ad 27) 0) 705 (ad 27) 23040) 702 (ad 27) 0)) (g := 703) (a := (ad 27)) (v := 19200) (by decide) (rd_sIf (S := (sI (sI (sI (sI S 700 (ad 27) 0) 701 (ad 27) 0) 704 (ad 27) 0) 705 (ad 27) 23040)) (g := 702) (a := (ad 27)) (v := 0) (by decide) (rd_sIf (S := (sI (sI (sI S 700 (ad 27) 0) 701 (ad 27) 0) 704 (ad 27) 0)) (g := 705) (a := (ad 27)) (v := 23040) (by decide) (rd_sI (S := (sI (sI S 700 (ad 27) 0) 701 (ad 27) 0)) (g := 704) (a := (ad 27)) (v := 0)))))))
  have hv_18 : hI S_9 705 (ad 27) = 23040 := by rw [eS_10]; exact (rd_sIf (S := (sI (sI (sI (sI (sI (sI (sI S 700 (ad 27) 0) 701 (ad 27) 0) 704 (ad 27) 0) 705 (ad 27) 23040) 702 (ad 27) 0) 703 (ad 27) 19200) 706 (ad 27) (nI 0))) (g := 707) (a := (ad 27)) (v := nI 900) (by decide) (rd_sIf (S := (sI (sI (sI (sI (sI (sI S 700 (ad 27) 0) 701 (ad 27) 0) 704 (ad 27) 0) 705 (ad 27) 23040) 702 (ad 27) 0) 703 (ad 27) 19200)) (g := 706) (a := (ad 27)) (v := nI 0) (by decide) (rd_sIf (S := (sI (sI (sI (sI (sI S 700 (ad 27) 0) 701 (ad 27) 0) 704 (ad 27) 0) 705 (ad 27) 23040) 702 (ad 27) 0)) (g := 703) (a := (ad 27)) (v := 19200) (by decide) (rd_sIf (S := (sI (sI (sI (sI S 700 (ad 27) 0) 701 (ad 27) 0) 704 (ad 27) 0) 705 (ad 27) 23040)) (g := 702) (a := (ad 27)) (v := 0) (by decide) (rd_sI (S := (sI (sI (sI S 700 (ad 27) 0) 701 (ad 27) 0) 704 (ad 27) 0)) (g := 705) (a := (ad 27)) (v := 23040))))))
  have hv_19 : hI S_9 706 (ad 27) = nI 0 := by rw [eS_10]; exact (rd_sIf (S := (sI (sI (sI (sI (sI (sI (sI S 700 (ad 27) 0) 701 (ad 27) 0) 704 (ad 27) 0) 705 (ad 27) 23040) 702 (ad 27) 0) 703 (ad 27) 19200) 706 (ad 27) (nI 0))) (g := 707) (a := (ad 27)) (v := nI 900) (by decide) (rd_sI (S := (sI (sI (sI (sI (sI (sI S 700 (ad 27) 0) 701 (ad 27) 0) 704 (ad 27) 0) 705 (ad 27) 23040) 702 (ad 27) 0) 703 (ad 27) 19200)) (g := 706) (a := (ad 27)) (v := nI 0)))
  have hv_20 : hI S_9 707 (ad 27) = nI 900 := by rw [eS_10]; exact (rd_sI (S := (sI (sI (sI (sI (sI (sI (sI S 700 (ad 27) 0) 701 (ad 27) 0) 704 (ad 27) 0) 705 (ad 27) 23040) 702 (ad 27) 0) 703 (ad 27) 19200) 706 (ad 27) (nI 0))) (g := 707) (a := (ad 27)) (v := nI 900))
  have hv_21 : hI S_9 708 (ad 27) = 1200 := by rw [eS_10]; exact (rd_sIf (S := (sI (sI (sI (sI (sI (sI (sI S 700 (ad 27) 0) 701 (ad 27) 0) 704 (ad 27) 0) 705 (ad 27) 23040) 702 (ad 27) 0) 703 (ad 27) 19200) 706 (ad 27) (nI 0))) (g := 707) (a := (ad 27)) (v := nI 900) (by decide) (rd_sIf (S := (sI (sI (sI (sI (sI (sI S 700 (ad 27) 0) 701 (ad 27) 0) 704 (ad 27) 0) 705 (ad 27) 23040) 702 (ad 27) 0) 703 (ad 27) 19200)) (g := 706) (a := (ad 27)) (v := nI 0) (by decide) (rd_sIf (S := (sI (sI (sI (sI (sI S 700 (ad 27) 0) 701 (ad 27) 0) 704 (ad 27) 0) 705 (ad 27) 23040) 702 (ad 27) 0)) (g := 703) (a := (ad 27)) (v := 19200) (by decide) (rd_sIf (S := (sI (sI (sI (sI S 700 (ad 27) 0) 701 (ad 27) 0) 704 (ad 27) 0) 705 (ad 27) 23040)) (g := 702) (a := (ad 27)) (v := 0) (by decide) (rd_sIf (S := (sI (sI (sI S 700 (ad 27) 0) 701 (ad 27) 0) 704 (ad 27) 0)) (g := 705) (a := (ad 27)) (v := 23040) (by decide) (rd_sIf (S := (sI (sI S 700 (ad 27) 0) 701 (ad 27) 0)) (g := 704) (a := (ad 27)) (v := 0) (by decide) (rd_sIf (S := (sI S 700 (ad 27) 0)) (g := 701) (a := (ad 27)) (v := 0) (by decide) (rd_sIf (S := S) (g := 700) (a := (ad 27)) (v := 0) (by decide) hI_708_ad27))))))))
  have hv_22 : hI S_9 915 (ad 6) = 0 := by rw [eS_10]; exact (rd_sIf (S := (sI (sI (sI (sI (sI (sI (sI S 700 (ad 27) 0) 701 (ad 27) 0) 704 (ad 27) 0) 705 (ad 27) 23040) 702 (ad 27) 0) 703 (ad 27) 19200) 706 (ad 27) (nI 0))) (g := 707) (a := (ad 27)) (v := nI 900) (by decide) (rd_sIf (S := (sI (sI (sI (sI (sI (sI S 700 (ad 27) 0) 701 (ad 27) 0) 704 (ad 27) 0) 705 (ad 27) 23040) 702 (ad 27) 0) 703 (ad 27) 19200)) (g := 706) (a := (ad 27)) (v := nI 0) (by decide) (rd_sIf (S := (sI (sI (sI (sI (sI S 700 (ad 27) 0) 701 (ad 27) 0) 704 (ad 27) 0) 705 (ad 27) 23040) 702 (ad 27) 0)) (g := 703) (a := (ad 27)) (v := 19200) (by decide) (rd_sIf (S := (sI (sI (sI (sI S 700 (ad 27) 0) 701 (ad 27) 0) 704 (ad 27) 0) 705 (ad 27) 23040)) (g := 702) (a := (ad 27)) (v := 0) (by decide) (rd_sIf (S := (sI (sI (sI S 700 (ad 27) 0) 701 (ad 27) 0) 704 (ad 27) 0)) (g := 705) (a := (ad 27)) (v := 23040) (by decide) (rd_sIf (S := (sI (sI S 700 (ad 27) 0) 701 (ad 27) 0)) (g := 704) (a := (ad 27)) (v := 0) (by decide) (rd_sIf (S := (sI S 700 (ad 27) 0)) (g := 701) (a := (ad 27)) (v := 0) (by decide) (rd_sIf (S := S) (g := 700) (a := (ad 27)) (v := 0) (by decide) hI_915_ad6))))))))
  have hv_23 : hR S_9 913 (ad 6) = (some (ad 35)) := by rw [eS_10]; exact hR_913_ad6
  have hW_24 : Wd ad S_9 := by rw [eS_10]; exact (Wd.sI (Wd.sI (Wd.sI (Wd.sI (Wd.sI (Wd.sI (Wd.sI (Wd.sI hW))))))))
  refine j_goto (tgt := 331) C dX9_pageField_156 (by decide) ?_
  exact j_vret C M dX9_pageField_331 (Nat.le_of_ble_eq_true rfl) (Nat.le_of_ble_eq_true rfl) (by subst eS_10; exact ⟨rfl, rfl⟩)

theorem dX9_obey_0 : decode cX9_obey 0 = .ok (.aload_n 0, 1) := by decide +kernel
theorem dX9_obey_1 : decode cX9_obey 1 = .ok (.getfield 82, 3) := by decide +kernel
theorem dX9_obey_4 : decode cX9_obey 4 = .ok (.getfield 217, 3) := by decide +kernel
theorem dX9_obey_7 : decode cX9_obey 7 = .ok (.bipush 8, 2) := by decide +kernel
theorem dX9_obey_9 : decode cX9_obey 9 = .ok (.ishl, 1) := by decide +kernel
theorem dX9_obey_10 : decode cX9_obey 10 = .ok (.aload_n 0, 1) := by decide +kernel
theorem dX9_obey_11 : decode cX9_obey 11 = .ok (.getfield 82, 3) := by decide +kernel
theorem dX9_obey_14 : decode cX9_obey 14 = .ok (.getfield 299, 3) := by decide +kernel
theorem dX9_obey_17 : decode cX9_obey 17 = .ok (.ior, 1) := by decide +kernel
theorem dX9_obey_18 : decode cX9_obey 18 = .ok (.lookupswitch 272 #[(9825, 120), (9830, 162), (9835, 134), (9836, 106), (9840, 176), (9843, 148), (10850, 258), (10851, 202), (10864, 195), (10866, 244), (10868, 230), (10870, 216)], 106) := by decide +kernel
theorem dX9_obey_124 : decode cX9_obey 124 = .ok (.aload_n 0, 1) := by decide +kernel
theorem dX9_obey_125 : decode cX9_obey 125 = .ok (.aload_n 0, 1) := by decide +kernel
theorem dX9_obey_126 : decode cX9_obey 126 = .ok (.getfield 82, 3) := by decide +kernel
theorem dX9_obey_129 : decode cX9_obey 129 = .ok (.invokevirtual 333, 3) := by decide +kernel
theorem dX9_obey_132 : decode cX9_obey 132 = .ok (.invokevirtual 347, 3) := by decide +kernel
theorem dX9_obey_135 : decode cX9_obey 135 = .ok (.goto 159, 3) := by decide +kernel
theorem dX9_obey_138 : decode cX9_obey 138 = .ok (.aload_n 0, 1) := by decide +kernel
theorem dX9_obey_139 : decode cX9_obey 139 = .ok (.aload_n 0, 1) := by decide +kernel
theorem dX9_obey_140 : decode cX9_obey 140 = .ok (.getfield 82, 3) := by decide +kernel
theorem dX9_obey_143 : decode cX9_obey 143 = .ok (.invokevirtual 333, 3) := by decide +kernel
theorem dX9_obey_146 : decode cX9_obey 146 = .ok (.invokevirtual 350, 3) := by decide +kernel
theorem dX9_obey_149 : decode cX9_obey 149 = .ok (.goto 145, 3) := by decide +kernel
theorem dX9_obey_152 : decode cX9_obey 152 = .ok (.aload_n 0, 1) := by decide +kernel
theorem dX9_obey_153 : decode cX9_obey 153 = .ok (.aload_n 0, 1) := by decide +kernel
theorem dX9_obey_154 : decode cX9_obey 154 = .ok (.getfield 82, 3) := by decide +kernel
theorem dX9_obey_157 : decode cX9_obey 157 = .ok (.invokevirtual 333, 3) := by decide +kernel
theorem dX9_obey_160 : decode cX9_obey 160 = .ok (.invokevirtual 353, 3) := by decide +kernel
theorem dX9_obey_163 : decode cX9_obey 163 = .ok (.goto 131, 3) := by decide +kernel
theorem dX9_obey_166 : decode cX9_obey 166 = .ok (.aload_n 0, 1) := by decide +kernel
theorem dX9_obey_167 : decode cX9_obey 167 = .ok (.aload_n 0, 1) := by decide +kernel
theorem dX9_obey_168 : decode cX9_obey 168 = .ok (.getfield 82, 3) := by decide +kernel
theorem dX9_obey_171 : decode cX9_obey 171 = .ok (.invokevirtual 333, 3) := by decide +kernel
theorem dX9_obey_174 : decode cX9_obey 174 = .ok (.invokevirtual 356, 3) := by decide +kernel
theorem dX9_obey_177 : decode cX9_obey 177 = .ok (.goto 117, 3) := by decide +kernel
theorem dX9_obey_180 : decode cX9_obey 180 = .ok (.aload_n 0, 1) := by decide +kernel
theorem dX9_obey_181 : decode cX9_obey 181 = .ok (.aload_n 0, 1) := by decide +kernel
theorem dX9_obey_182 : decode cX9_obey 182 = .ok (.getfield 82, 3) := by decide +kernel
theorem dX9_obey_185 : decode cX9_obey 185 = .ok (.invokevirtual 333, 3) := by decide +kernel
theorem dX9_obey_188 : decode cX9_obey 188 = .ok (.invokevirtual 359, 3) := by decide +kernel
theorem dX9_obey_191 : decode cX9_obey 191 = .ok (.goto 103, 3) := by decide +kernel
theorem dX9_obey_194 : decode cX9_obey 194 = .ok (.aload_n 0, 1) := by decide +kernel
theorem dX9_obey_195 : decode cX9_obey 195 = .ok (.getfield 82, 3) := by decide +kernel
theorem dX9_obey_198 : decode cX9_obey 198 = .ok (.getfield 327, 3) := by decide +kernel
theorem dX9_obey_201 : decode cX9_obey 201 = .ok (.bipush 88, 2) := by decide +kernel
theorem dX9_obey_203 : decode cX9_obey 203 = .ok (.if_icmp .ne 91, 3) := by decide +kernel
theorem dX9_obey_206 : decode cX9_obey 206 = .ok (.aload_n 0, 1) := by decide +kernel
theorem dX9_obey_207 : decode cX9_obey 207 = .ok (.invokevirtual 362, 3) := by decide +kernel
theorem dX9_obey_210 : decode cX9_obey 210 = .ok (.goto 84, 3) := by decide +kernel
theorem dX9_obey_213 : decode cX9_obey 213 = .ok (.aload_n 0, 1) := by decide +kernel
theorem dX9_obey_214 : decode cX9_obey 214 = .ok (.invokevirtual 365, 3) := by decide +kernel
theorem dX9_obey_217 : decode cX9_obey 217 = .ok (.goto 77, 3) := by decide +kernel
theorem dX9_obey_220 : decode cX9_obey 220 = .ok (.aload_n 0, 1) := by decide +kernel
theorem dX9_obey_221 : decode cX9_obey 221 = .ok (.aload_n 0, 1) := by decide +kernel
theorem dX9_obey_222 : decode cX9_obey 222 = .ok (.getfield 82, 3) := by decide +kernel
theorem dX9_obey_225 : decode cX9_obey 225 = .ok (.invokevirtual 333, 3) := by decide +kernel
theorem dX9_obey_228 : decode cX9_obey 228 = .ok (.invokevirtual 368, 3) := by decide +kernel
theorem dX9_obey_231 : decode cX9_obey 231 = .ok (.goto 63, 3) := by decide +kernel
theorem dX9_obey_234 : decode cX9_obey 234 = .ok (.aload_n 0, 1) := by decide +kernel
theorem dX9_obey_235 : decode cX9_obey 235 = .ok (.aload_n 0, 1) := by decide +kernel
theorem dX9_obey_236 : decode cX9_obey 236 = .ok (.getfield 82, 3) := by decide +kernel
theorem dX9_obey_239 : decode cX9_obey 239 = .ok (.invokevirtual 333, 3) := by decide +kernel
theorem dX9_obey_242 : decode cX9_obey 242 = .ok (.invokevirtual 371, 3) := by decide +kernel
theorem dX9_obey_245 : decode cX9_obey 245 = .ok (.goto 49, 3) := by decide +kernel
theorem dX9_obey_248 : decode cX9_obey 248 = .ok (.aload_n 0, 1) := by decide +kernel
theorem dX9_obey_249 : decode cX9_obey 249 = .ok (.aload_n 0, 1) := by decide +kernel
theorem dX9_obey_250 : decode cX9_obey 250 = .ok (.getfield 82, 3) := by decide +kernel
theorem dX9_obey_253 : decode cX9_obey 253 = .ok (.invokevirtual 333, 3) := by decide +kernel
theorem dX9_obey_256 : decode cX9_obey 256 = .ok (.invokevirtual 374, 3) := by decide +kernel
theorem dX9_obey_259 : decode cX9_obey 259 = .ok (.goto 35, 3) := by decide +kernel
theorem dX9_obey_262 : decode cX9_obey 262 = .ok (.aload_n 0, 1) := by decide +kernel
theorem dX9_obey_263 : decode cX9_obey 263 = .ok (.aload_n 0, 1) := by decide +kernel
theorem dX9_obey_264 : decode cX9_obey 264 = .ok (.getfield 82, 3) := by decide +kernel
theorem dX9_obey_267 : decode cX9_obey 267 = .ok (.invokevirtual 333, 3) := by decide +kernel
theorem dX9_obey_270 : decode cX9_obey 270 = .ok (.invokevirtual 377, 3) := by decide +kernel
theorem dX9_obey_273 : decode cX9_obey 273 = .ok (.goto 21, 3) := by decide +kernel
theorem dX9_obey_276 : decode cX9_obey 276 = .ok (.aload_n 0, 1) := by decide +kernel
theorem dX9_obey_277 : decode cX9_obey 277 = .ok (.aload_n 0, 1) := by decide +kernel
theorem dX9_obey_278 : decode cX9_obey 278 = .ok (.getfield 82, 3) := by decide +kernel
theorem dX9_obey_281 : decode cX9_obey 281 = .ok (.invokevirtual 333, 3) := by decide +kernel
theorem dX9_obey_284 : decode cX9_obey 284 = .ok (.invokevirtual 380, 3) := by decide +kernel
theorem dX9_obey_287 : decode cX9_obey 287 = .ok (.goto 7, 3) := by decide +kernel
theorem dX9_obey_290 : decode cX9_obey 290 = .ok (.aload_n 0, 1) := by decide +kernel
theorem dX9_obey_291 : decode cX9_obey 291 = .ok (.invokevirtual 383, 3) := by decide +kernel
theorem dX9_obey_294 : decode cX9_obey 294 = .ok (.return_, 1) := by decide +kernel

set_option maxRecDepth 100000 in
set_option maxHeartbeats 4000000 in
theorem c_oA (S : Hp) (ad : Nat → Nat) (hW : Wd ad S) (hR_913_ad6 : hR S 913 (ad 6) = some (ad 35)) (hI_503_ad35 : hI S 503 (ad 35) = 38) (hI_504_ad35 : hI S 504 (ad 35) = 108) (hI_505_ad35 : hI S 505 (ad 35) = 65) (hI_508_ad35 : hI S 508 (ad 35) = 0) (hI_509_ad35 : hI S 509 (ad 35) = 0) (hI_915_ad6 : hI S 915 (ad 6) = 0) (hI_2_ad12 : hI S 2 (ad 12) = 0) (hI_708_ad27 : hI S 708 (ad 27) = 1200) (hI_701_ad27 : hI S 701 (ad 27) = 0) : Ct 7 yX9_obey cX9_obey 1 none 0 0 [.ref (ad 6)] S (fun r S' => r = none ∧ S' = (sI (sI (sI (sI (sI (sI (sI (sI S 700 (ad 27) 0) 701 (ad 27) 0) 704 (ad 27) 0) 705 (ad 27) 23040) 702 (ad 27) 0) 703 (ad 27) 19200) 706 (ad 27) (nI 0)) 707 (ad 27) (nI 900))) := by
  refine ct_of (by decide) (Nat.le_of_ble_eq_true rfl) fun x hn9 C M hm9 => ?_
  have C : CB x RX9 cX9_obey := C
  refine J.eq (lv' := [(0, .ref (ad 6))]) rfl rfl rfl ?_
  refine j_aload_n C dX9_obey_0 rfl 0 rfl ?_
  refine j_getr (f := 913) (v := (ad 35)) C flX9_82 dX9_obey_1 (wm_6 (S := S) hW) (wk_6 (S := S) hW) (by decide) rfl hR_913_ad6 ?_
  refine j_geti (f := 503) (v := 38) C flX9_217 dX9_obey_4 (wm_35 (S := S) hW) (wk_35 (S := S) hW) (by decide) (by decide) rfl hI_503_ad35 ?_
  refine j_bipush (v := 8) C dX9_obey_7 (by decide) ?_
  refine j_ishl (v := 9728) C dX9_obey_9 (by decide) ?_
  refine j_aload_n C dX9_obey_10 rfl 0 rfl ?_
  refine j_getr (f := 913) (v := (ad 35)) C flX9_82 dX9_obey_11 (wm_6 (S := S) hW) (wk_6 (S := S) hW) (by decide) rfl hR_913_ad6 ?_
  refine j_geti (f := 504) (v := 108) C flX9_299 dX9_obey_14 (wm_35 (S := S) hW) (wk_35 (S := S) hW) (by decide) (by decide) rfl hI_504_ad35 ?_
  show J _ _ _ _ _ 17 _
  refine j_ior (v := 9836) C dX9_obey_17 (by decide) ?_
  refine j_look (off := 106) (tgt := 124) C dX9_obey_18 (by decide) (by decide) (by decide) ?_
  refine j_aload_n C dX9_obey_124 rfl 0 rfl ?_
  refine j_aload_n C dX9_obey_125 rfl 0 rfl ?_
  refine j_getr (f := 913) (v := (ad 35)) C flX9_82 dX9_obey_126 (wm_6 (S := S) hW) (wk_6 (S := S) hW) (by decide) rfl hR_913_ad6 ?_
  refine j_callV (ci := 5) C [] [.ref (ad 6)] mlX9_333 mcX5_n (c_X5_n S ad hW 0 hI_508_ad35 hI_509_ad35) (wm_35 (S := S) hW) (wk_35 (S := S) hW) rfl (M.rm (by decide) (by decide) (Nat.le_of_ble_eq_true rfl) (Nat.le_of_ble_eq_true rfl)) rfl rfl (Nat.le_of_ble_eq_true rfl) dX9_obey_129 (fun r_1 S_2 hp_3 => ?_)
  obtain ⟨rfl, e_4⟩ := hp_3
  refine J.eq (S' := S) (st' := [.int 0, .ref (ad 6)]) (lv' := [(0, .ref (ad 6))]) e_4 rfl rfl ?_
  refine j_callV (ci := 9) C [.int 0] [] mlX9_347 mcX9_pageField (c_pfA S ad hW hR_913_ad6 hI_505_ad35 hI_915_ad6 hI_2_ad12 hI_708_ad27 hI_701_ad27) (wm_6 (S := S) hW) (wk_6 (S := S) hW) rfl (M.rm (by decide) (by decide) (Nat.le_of_ble_eq_true rfl) (Nat.le_of_ble_eq_true rfl)) rfl rfl (Nat.le_of_ble_eq_true rfl) dX9_obey_132 (fun r_5 S_6 hp_7 => ?_)
  obtain ⟨rfl, e_8⟩ := hp_7
  refine J.eq (S' := (sI (sI (sI (sI (sI (sI (sI (sI S 700 (ad 27) 0) 701 (ad 27) 0) 704 (ad 27) 0) 705 (ad 27) 23040) 702 (ad 27) 0) 703 (ad 27) 19200) 706 (ad 27) (nI 0)) 707 (ad 27) (nI 900))) (st' := []) (lv' := [(0, .ref (ad 6))]) e_8 rfl rfl ?_
  obtain ⟨S_9, eS_10⟩ : ∃ S9 : Hp, S9 = (sI (sI (sI (sI (sI (sI (sI (sI S 700 (ad 27) 0) 701 (ad 27) 0) 704 (ad 27) 0) 705 (ad 27) 23040) 702 (ad 27) 0) 703 (ad 27) 19200) 706 (ad 27) (nI 0)) 707 (ad 27) (nI 900)) := ⟨_, rfl⟩
  refine J.eq (S' := S_9) eS_10.symm rfl rfl ?_
  have hv_11 : hI S_9 2 (ad 12) = 0 := by rw [eS_10]; exact (rd_sIf (S := (sI (sI (sI (sI (sI (sI (sI S 700 (ad 27) 0) 701 (ad 27) 0) 704 (ad 27) 0) 705 (ad 27) 23040) 702 (ad 27) 0) 703 (ad 27) 19200) 706 (ad 27) (nI 0))) (g := 707) (a := (ad 27)) (v := nI 900) (by decide) (rd_sIf (S := (sI (sI (sI (sI (sI (sI S 700 (ad 27) 0) 701 (ad 27) 0) 704 (ad 27) 0) 705 (ad 27) 23040) 702 (ad 27) 0) 703 (ad 27) 19200)) (g := 706) (a := (ad 27)) (v := nI 0) (by decide) (rd_sIf (S := (sI (sI (sI (sI (sI S 700 (ad 27) 0) 701 (ad 27) 0) 704 (ad 27) 0) 705 (ad 27) 23040) 702 (ad 27) 0)) (g := 703) (a := (ad 27)) (v := 19200) (by decide) (rd_sIf (S := (sI (sI (sI (sI S 700 (ad 27) 0) 701 (ad 27) 0) 704 (ad 27) 0) 705 (ad 27) 23040)) (g := 702) (a := (ad 27)) (v := 0) (by decide) (rd_sIf (S := (sI (sI (sI S 700 (ad 27) 0) 701 (ad 27) 0) 704 (ad 27) 0)) (g := 705) (a := (ad 27)) (v := 23040) (by decide) (rd_sIf (S := (sI (sI S 700 (ad 27) 0) 701 (ad 27) 0)) (g := 704) (a := (ad 27)) (v := 0) (by decide) (rd_sIf (S := (sI S 700 (ad 27) 0)) (g := 701) (a := (ad 27)) (v := 0) (by decide) (rd_sIf (S := S) (g := 700) (a := (ad 27)) (v := 0) (by decide) hI_2_ad12))))))))
  have hv_12 : hI S_9 503 (ad 35) = 38 := by rw [eS_10]; exact (rd_sIf (S := (sI (sI (sI (sI (sI (sI (sI S 700 (ad 27) 0) 701 (ad 27) 0) 704 (ad 27) 0) 705 (ad 27) 23040) 702 (ad 27) 0) 703 (ad 27) 19200) 706 (ad 27) (nI 0))) (g := 707) (a := (ad 27)) (v := nI 900) (by decide) (rd_sIf (S := (sI (sI (sI (sI (sI (sI S 700 (ad 27) 0) 701 (ad 27) 0) 704 (ad 27) 0) 705 (ad 27) 23040) 702 (ad 27) 0) 703 (ad 27) 19200)) (g := 706) (a := (ad 27)) (v := nI 0) (by decide) (rd_sIf (S := (sI (sI (sI (sI (sI S 700 (ad 27) 0) 701 (ad 27) 0) 704 (ad 27) 0) 705 (ad 27) 23040) 702 (ad 27) 0)) (g := 703) (a := (ad 27)) (v := 19200) (by decide) (rd_sIf (S := (sI (sI (sI (sI S 700 (ad 27) 0) 701 (ad 27) 0) 704 (ad 27) 0) 705 (ad 27) 23040)) (g := 702) (a := (ad 27)) (v := 0) (by decide) (rd_sIf (S := (sI (sI (sI S 700 (ad 27) 0) 701 (ad 27) 0) 704 (ad 27) 0)) (g := 705) (a := (ad 27)) (v := 23040) (by decide) (rd_sIf (S := (sI (sI S 700 (ad 27) 0) 701 (ad 27) 0)) (g := 704) (a := (ad 27)) (v := 0) (by decide) (rd_sIf (S := (sI S 700 (ad 27) 0)) (g := 701) (a := (ad 27)) (v := 0) (by decide) (rd_sIf (S := S) (g := 700) (a := (ad 27)) (v := 0) (by decide) hI_503_ad35))))))))
  have hv_13 : hI S_9 504 (ad 35) = 108 := by rw [eS_10]; exact (rd_sIf (S := (sI (sI (sI (sI (sI (sI (sI S 700 (ad 27) 0) 701 (ad 27) 0) 704 (ad 27) 0) 705 (ad 27) 23040) 702 (ad 27) 0) 703 (ad 27) 19200) 706 (ad 27) (nI 0))) (g := 707) (a := (ad 27)) (v := nI 900) (by decide) (rd_sIf (S := (sI (sI (sI (sI (sI (sI S 700 (ad 27) 0) 701 (ad 27) 0) 704 (ad 27) 0) 705 (ad 27) 23040) 702 (ad 27) 0) 703 (ad 27) 19200)) (g := 706) (a := (ad 27)) (v := nI 0) (by decide) (rd_sIf (S := (sI (sI (sI (sI (sI S 700 (ad 27) 0) 701 (ad 27) 0) 704 (ad 27) 0) 705 (ad 27) 23040) 702 (ad 27) 0)) (g := 703) (a := (ad 27)) (v := 19200) (by decide) (rd_sIf (S := (sI (sI (sI (sI S 700 (ad 27) 0) 701 (ad 27) 0) 704 (ad 27) 0) 705 (ad 27) 23040)) (g := 702) (a := (ad 27)) (v := 0) (by decide) (rd_sIf (S := (sI (sI (sI S 700 (ad 27) 0) 701 (ad 27) 0) 704 (ad 27) 0)) (g := 705) (a := (ad 27)) (v := 23040) (by decide) (rd_sIf (S := (sI (sI S 700 (ad 27) 0) 701 (ad 27) 0)) (g := 704) (a := (ad 27)) (v := 0) (by decide) (rd_sIf (S := (sI S 700 (ad 27) 0)) (g := 701) (a := (ad 27)) (v := 0) (by decide) (rd_sIf (S := S) (g := 700) (a := (ad 27)) (v := 0) (by decide) hI_504_ad35))))))))
  have hv_14 : hI S_9 505 (ad 35) = 65 := by rw [eS_10]; exact (rd_sIf (S := (sI (sI (sI (sI (sI (sI (sI S 700 (ad 27) 0) 701 (ad 27) 0) 704 (ad 27) 0) 705 (ad 27) 23040) 702 (ad 27) 0) 703 (ad 27) 19200) 706 (ad 27) (nI 0))) (g := 707) (a := (ad 27)) (v := nI 900) (by decide) (rd_sIf (S := (sI (sI (sI (sI (sI (sI S 700 (ad 27) 0) 701 (ad 27) 0) 704 (ad 27) 0) 705 (ad 27) 23040) 702 (ad 27) 0) 703 (ad 27) 19200)) (g := 706) (a := (ad 27)) (v := nI 0) (by decide) (rd_sIf (S := (sI (sI (sI (sI (sI S 700 (ad 27) 0) 701 (ad 27) 0) 704 (ad 27) 0) 705 (ad 27) 23040) 702 (ad 27) 0)) (g := 703) (a := (ad 27)) (v := 19200) (by decide) (rd_sIf (S := (sI (sI (sI (sI S 700 (ad 27) 0) 701 (ad 27) 0) 704 (ad 27) 0) 705 (ad 27) 23040)) (g := 702) (a := (ad 27)) (v := 0) (by decide) (rd_sIf (S := (sI (sI (sI S 700 (ad 27) 0) 701 (ad 27) 0) 704 (ad 27) 0)) (g := 705) (a := (ad 27)) (v := 23040) (by decide) (rd_sIf (S := (sI (sI S 700 (ad 27) 0) 701 (ad 27) 0)) (g := 704) (a := (ad 27)) (v := 0) (by decide) (rd_sIf (S := (sI S 700 (ad 27) 0)) (g := 701) (a := (ad 27)) (v := 0) (by decide) (rd_sIf (S := S) (g := 700) (a := (ad 27)) (v := 0) (by decide) hI_505_ad35))))))))
  have hv_15 : hI S_9 508 (ad 35) = 0 := by rw [eS_10]; exact (rd_sIf (S := (sI (sI (sI (sI (sI (sI (sI S 700 (ad 27) 0) 701 (ad 27) 0) 704 (ad 27) 0) 705 (ad 27) 23040) 702 (ad 27) 0) 703 (ad 27) 19200) 706 (ad 27) (nI 0))) (g := 707) (a := (ad 27)) (v := nI 900) (by decide) (rd_sIf (S := (sI (sI (sI (sI (sI (sI S 700 (ad 27) 0) 701 (ad 27) 0) 704 (ad 27) 0) 705 (ad 27) 23040) 702 (ad 27) 0) 703 (ad 27) 19200)) (g := 706) (a := (ad 27)) (v := nI 0) (by decide) (rd_sIf (S := (sI (sI (sI (sI (sI S 700 (ad 27) 0) 701 (ad 27) 0) 704 (ad 27) 0) 705 (ad 27) 23040) 702 (ad 27) 0)) (g := 703) (a := (ad 27)) (v := 19200) (by decide) (rd_sIf (S := (sI (sI (sI (sI S 700 (ad 27) 0) 701 (ad 27) 0) 704 (ad 27) 0) 705 (ad 27) 23040)) (g := 702) (a := (ad 27)) (v := 0) (by decide) (rd_sIf (S := (sI (sI (sI S 700 (ad 27) 0) 701 (ad 27) 0) 704 (ad 27) 0)) (g := 705) (a := (ad 27)) (v := 23040) (by decide) (rd_sIf (S := (sI (sI S 700 (ad 27) 0) 701 (ad 27) 0)) (g := 704) (a := (ad 27)) (v := 0) (by decide) (rd_sIf (S := (sI S 700 (ad 27) 0)) (g := 701) (a := (ad 27)) (v := 0) (by decide) (rd_sIf (S := S) (g := 700) (a := (ad 27)) (v := 0) (by decide) hI_508_ad35))))))))
  have hv_16 : hI S_9 509 (ad 35) = 0 := by rw [eS_10]; exact (rd_sIf (S := (sI (sI (sI (sI (sI (sI (sI S 700 (ad 27) 0) 701 (ad 27) 0) 704 (ad 27) 0) 705 (ad 27) 23040) 702 (ad 27) 0) 703 (ad 27) 19200) 706 (ad 27) (nI 0))) (g := 707) (a := (ad 27)) (v := nI 900) (by decide) (rd_sIf (S := (sI (sI (sI (sI (sI (sI S 700 (ad 27) 0) 701 (ad 27) 0) 704 (ad 27) 0) 705 (ad 27) 23040) 702 (ad 27) 0) 703 (ad 27) 19200)) (g := 706) (a := (ad 27)) (v := nI 0) (by decide) (rd_sIf (S := (sI (sI (sI (sI (sI S 700 (ad 27) 0) 701 (ad 27) 0) 704 (ad 27) 0) 705 (ad 27) 23040) 702 (ad 27) 0)) (g := 703) (a := (ad 27)) (v := 19200) (by decide) (rd_sIf (S := (sI (sI (sI (sI S 700 (ad 27) 0) 701 (ad 27) 0) 704 (ad 27) 0) 705 (ad 27) 23040)) (g := 702) (a := (ad 27)) (v := 0) (by decide) (rd_sIf (S := (sI (sI (sI S 700 (ad 27) 0) 701 (ad 27) 0) 704 (ad 27) 0)) (g := 705) (a := (ad 27)) (v := 23040) (by decide) (rd_sIf (S := (sI (sI S 700 (ad 27) 0) 701 (ad 27) 0)) (g := 704) (a := (ad 27)) (v := 0) (by decide) (rd_sIf (S := (sI S 700 (ad 27) 0)) (g := 701) (a := (ad 27)) (v := 0) (by decide) (rd_sIf (S := S) (g := 700) (a := (ad 27)) (v := 0) (by decide) hI_509_ad35))))))))
  have hv_17 : hI S_9 700 (ad 27) = 0 := by rw [eS_10]; exact (rd_sIf (S := (sI (sI (sI (sI (sI (sI (sI S 700 (ad 27) 0) 701 (ad 27) 0) 704 (ad 27) 0) 705 (ad 27) 23040) 702 (ad 27) 0) 703 (ad 27) 19200) 706 (ad 27) (nI 0))) (g := 707) (a := (ad 27)) (v := nI 900) (by decide) (rd_sIf (S := (sI (sI (sI (sI (sI (sI S 700 (ad 27) 0) 701 (ad 27) 0) 704 (ad 27) 0) 705 (ad 27) 23040) 702 (ad 27) 0) 703 (ad 27) 19200)) (g := 706) (a := (ad 27)) (v := nI 0) (by decide) (rd_sIf (S := (sI (sI (sI (sI (sI S 700 (ad 27) 0) 701 (ad 27) 0) 704 (ad 27) 0) 705 (ad 27) 23040) 702 (ad 27) 0)) (g := 703) (a := (ad 27)) (v := 19200) (by decide) (rd_sIf (S := (sI (sI (sI (sI S 700 (ad 27) 0) 701 (ad 27) 0) 704 (ad 27) 0) 705 (ad 27) 23040)) (g := 702) (a := (ad 27)) (v := 0) (by decide) (rd_sIf (S := (sI (sI (sI S 700 (ad 27) 0) 701 (ad 27) 0) 704 (ad 27) 0)) (g := 705) (a := (ad 27)) (v := 23040) (by decide) (rd_sIf (S := (sI (sI S 700 (ad 27) 0) 701 (ad 27) 0)) (g := 704) (a := (ad 27)) (v := 0) (by decide) (rd_sIf (S := (sI S 700 (ad 27) 0)) (g := 701) (a := (ad 27)) (v := 0) (by decide) (rd_sI (S := S) (g := 700) (a := (ad 27)) (v := 0)))))))))
  have hv_18 : hI S_9 701 (ad 27) = 0 := by rw [eS_10]; exact (rd_sIf (S := (sI (sI (sI (sI (sI (sI (sI S 700 (ad 27) 0) 701 (ad 27) 0) 704 (ad 27) 0) 705 (ad 27) 23040) 702 (ad 27) 0) 703 (ad 27) 19200) 706 (ad 27) (nI 0))) (g := 707) (a := (ad 27)) (v := nI 900) (by decide) (rd_sIf (S := (sI (sI (sI (sI (sI (sI S 700 (ad 27) 0) 701 (ad 27) 0) 704 (ad 27) 0) 705 (ad 27) 23040) 702 (ad 27) 0) 703 (ad 27) 19200)) (g := 706) (a := (ad 27)) (v := nI 0) (by decide) (rd_sIf (S := (sI (sI (sI (sI (sI S 700 (ad 27) 0) 701 (ad 27) 0) 704 (ad 27) 0) 705 (ad 27) 23040) 702 (ad 27) 0)) (g := 703) (a := (ad 27)) (v := 19200) (by decide) (rd_sIf (S := (sI (sI (sI (sI S 700 (ad 27) 0) 701 (ad 27) 0) 704 (ad 27) 0) 705 (ad 27) 23040)) (g := 702) (a := (ad 27)) (v := 0) (by decide) (rd_sIf (S := (sI (sI (sI S 700 (ad 27) 0) 701 (ad 27) 0) 704 (ad 27) 0)) (g := 705) (a := (ad 27)) (v := 23040) (by decide) (rd_sIf (S := (sI (sI S 700 (ad 27) 0) 701 (ad 27) 0)) (g := 704) (a := (ad 27)) (v := 0) (by decide) (rd_sI (S := (sI S 700 (ad 27) 0)) (g := 701) (a := (ad 27)) (v := 0))))))))
  have hv_19 : hI S_9 702 (ad 27) = 0 := by rw [eS_10]; exact (rd_sIf (S := (sI (sI (sI (sI (sI (sI (sI S 700 (ad 27) 0) 701 (ad 27) 0) 704 (ad 27) 0) 705 (ad 27) 23040) 702 (ad 27) 0) 703 (ad 27) 19200) 706 (ad 27) (nI 0))) (g := 707) (a := (ad 27)) (v := nI 900) (by decide) (rd_sIf (S := (sI (sI (sI (sI (sI (sI S 700 (ad 27) 0) 701 (ad 27) 0) 704 (ad 27) 0) 705 (ad 27) 23040) 702 (ad 27) 0) 703 (ad 27) 19200)) (g := 706) (a := (ad 27)) (v := nI 0) (by decide) (rd_sIf (S := (sI (sI (sI (sI (sI S 700 (ad 27) 0) 701 (ad 27) 0) 704 (ad 27) 0) 705 (ad 27) 23040) 702 (ad 27) 0)) (g := 703) (a := (ad 27)) (v := 19200) (by decide) (rd_sI (S := (sI (sI (sI (sI S 700 (ad 27) 0) 701 (ad 27) 0) 704 (ad 27) 0) 705 (ad 27) 23040)) (g := 702) (a := (ad 27)) (v := 0)))))
  have hv_20 : hI S_9 703 (ad 27) = 19200 := by rw [eS_10]; exact (rd_sIf (S := (sI (sI (sI (sI (sI (sI (sI S 700 (ad 27) 0) 701 (ad 27) 0) 704 (ad 27) 0) 705 (ad 27) 23040) 702 (ad 27) 0) 703 (ad 27) 19200) 706 (ad 27) (nI 0))) (g := 707) (a := (ad 27)) (v := nI 900) (by decide) (rd_sIf (S := (sI (sI (sI (sI (sI (sI S 700 (ad 27) 0) 701 (ad 27) 0) 704 (ad 27) 0) 705 (ad 27) 23040) 702 (ad 27) 0) 703 (ad 27) 19200)) (g := 706) (a := (ad 27)) (v := nI 0) (by decide) (rd_sI (S := (sI (sI (sI (sI (sI S 700 (ad 27) 0) 701 (ad 27) 0) 704 (ad 27) 0) 705 (ad 27) 23040) 702 (ad 27) 0)) (g := 703) (a := (ad 27)) (v := 19200))))
  have hv_21 : hI S_9 704 (ad 27) = 0 := by rw [eS_10]; exact (rd_sIf (S := (sI (sI (sI (sI (sI (sI (sI S 700 (ad 27) 0) 701 (ad 27) 0) 704 (ad 27) 0) 705 (ad 27) 23040) 702 (ad 27) 0) 703 (ad 27) 19200) 706 (ad 27) (nI 0))) (g := 707) (a := (ad 27)) (v := nI 900) (by decide) (rd_sIf (S := (sI (sI (sI (sI (sI (sI S 700 (ad 27) 0) 701 (ad 27) 0) 704 (ad 27) 0) 705 (ad 27) 23040) 702 (ad 27) 0) 703 (ad 27) 19200)) (g := 706) (a := (ad 27)) (v := nI 0) (by decide) (rd_sIf (S := (sI (sI (sI (sI (sI S 700 (ad 27) 0) 701 (ad 27) 0) 704 (ad 27) 0) 705 (ad 27) 23040) 702 (ad 27) 0)) (g := 703) (a := (ad 27)) (v := 19200) (by decide) (rd_sIf (S := (sI (sI (sI (sI S 700 (ad 27) 0) 701 (ad 27) 0) 704 (ad 27) 0) 705 (ad 27) 23040)) (g := 702) (a := (ad 27)) (v := 0) (by decide) (rd_sIf (S := (sI (sI (sI S 700 (ad 27) 0) 701 (ad 27) 0) 704 (ad 27) 0)) (g := 705) (a := (ad 27)) (v := 23040) (by decide) (rd_sI (S := (sI (sI S 700 (ad 27) 0) 701 (ad 27) 0)) (g := 704) (a := (ad 27)) (v := 0)))))))
  have hv_22 : hI S_9 705 (ad 27) = 23040 := by rw [eS_10]; exact (rd_sIf (S := (sI (sI (sI (sI (sI (sI (sI S 700 (ad 27) 0) 701 (ad 27) 0) 704 (ad 27) 0) 705 (ad 27) 23040) 702 (ad 27) 0) 703 (ad 27) 19200) 706 (ad 27) (nI 0))) (g := 707) (a := (ad 27)) (v := nI 900) (by decide) (rd_sIf (S := (sI (sI (sI (sI (sI (sI S 700 (ad 27) 0) 701 (ad 27) 0) 704 (ad 27) 0) 705 (ad 27) 23040) 702 (ad 27) 0) 703 (ad 27) 19200)) (g := 706) (a := (ad 27)) (v := nI 0) (by decide) (rd_sIf (S := (sI (sI (sI (sI (sI S 700 (ad 27) 0) 701 (ad 27) 0) 704 (ad 27) 0) 705 (ad 27) 23040) 702 (ad 27) 0)) (g := 703) (a := (ad 27)) (v := 19200) (by decide) (rd_sIf (S := (sI (sI (sI (sI S 700 (ad 27) 0) 701 (ad 27) 0) 704 (ad 27) 0) 705 (ad 27) 23040)) (g := 702) (a := (ad 27)) (v := 0) (by decide) (rd_sI (S := (sI (sI (sI S 700 (ad 27) 0) 701 (ad 27) 0) 704 (ad 27) 0)) (g := 705) (a := (ad 27)) (v := 23040))))))
  have hv_23 : hI S_9 706 (ad 27) = nI 0 := by rw [eS_10]; exact (rd_sIf (S := (sI (sI (sI (sI (sI (sI (sI S 700 (ad 27) 0) 701 (ad 27) 0) 704 (ad 27) 0) 705 (ad 27) 23040) 702 (ad 27) 0) 703 (ad 27) 19200) 706 (ad 27) (nI 0))) (g := 707) (a := (ad 27)) (v := nI 900) (by decide) (rd_sI (S := (sI (sI (sI (sI (sI (sI S 700 (ad 27) 0) 701 (ad 27) 0) 704 (ad 27) 0) 705 (ad 27) 23040) 702 (ad 27) 0) 703 (ad 27) 19200)) (g := 706) (a := (ad 27)) (v := nI 0)))
  have hv_24 : hI S_9 707 (ad 27) = nI 900 := by rw [eS_10]; exact (rd_sI (S := (sI (sI (sI (sI (sI (sI (sI S 700 (ad 27) 0) 701 (ad 27) 0) 704 (ad 27) 0) 705 (ad 27) 23040) 702 (ad 27) 0) 703 (ad 27) 19200) 706 (ad 27) (nI 0))) (g := 707) (a := (ad 27)) (v := nI 900))
  have hv_25 : hI S_9 708 (ad 27) = 1200 := by rw [eS_10]; exact (rd_sIf (S := (sI (sI (sI (sI (sI (sI (sI S 700 (ad 27) 0) 701 (ad 27) 0) 704 (ad 27) 0) 705 (ad 27) 23040) 702 (ad 27) 0) 703 (ad 27) 19200) 706 (ad 27) (nI 0))) (g := 707) (a := (ad 27)) (v := nI 900) (by decide) (rd_sIf (S := (sI (sI (sI (sI (sI (sI S 700 (ad 27) 0) 701 (ad 27) 0) 704 (ad 27) 0) 705 (ad 27) 23040) 702 (ad 27) 0) 703 (ad 27) 19200)) (g := 706) (a := (ad 27)) (v := nI 0) (by decide) (rd_sIf (S := (sI (sI (sI (sI (sI S 700 (ad 27) 0) 701 (ad 27) 0) 704 (ad 27) 0) 705 (ad 27) 23040) 702 (ad 27) 0)) (g := 703) (a := (ad 27)) (v := 19200) (by decide) (rd_sIf (S := (sI (sI (sI (sI S 700 (ad 27) 0) 701 (ad 27) 0) 704 (ad 27) 0) 705 (ad 27) 23040)) (g := 702) (a := (ad 27)) (v := 0) (by decide) (rd_sIf (S := (sI (sI (sI S 700 (ad 27) 0) 701 (ad 27) 0) 704 (ad 27) 0)) (g := 705) (a := (ad 27)) (v := 23040) (by decide) (rd_sIf (S := (sI (sI S 700 (ad 27) 0) 701 (ad 27) 0)) (g := 704) (a := (ad 27)) (v := 0) (by decide) (rd_sIf (S := (sI S 700 (ad 27) 0)) (g := 701) (a := (ad 27)) (v := 0) (by decide) (rd_sIf (S := S) (g := 700) (a := (ad 27)) (v := 0) (by decide) hI_708_ad27))))))))
  have hv_26 : hI S_9 915 (ad 6) = 0 := by rw [eS_10]; exact (rd_sIf (S := (sI (sI (sI (sI (sI (sI (sI S 700 (ad 27) 0) 701 (ad 27) 0) 704 (ad 27) 0) 705 (ad 27) 23040) 702 (ad 27) 0) 703 (ad 27) 19200) 706 (ad 27) (nI 0))) (g := 707) (a := (ad 27)) (v := nI 900) (by decide) (rd_sIf (S := (sI (sI (sI (sI (sI (sI S 700 (ad 27) 0) 701 (ad 27) 0) 704 (ad 27) 0) 705 (ad 27) 23040) 702 (ad 27) 0) 703 (ad 27) 19200)) (g := 706) (a := (ad 27)) (v := nI 0) (by decide) (rd_sIf (S := (sI (sI (sI (sI (sI S 700 (ad 27) 0) 701 (ad 27) 0) 704 (ad 27) 0) 705 (ad 27) 23040) 702 (ad 27) 0)) (g := 703) (a := (ad 27)) (v := 19200) (by decide) (rd_sIf (S := (sI (sI (sI (sI S 700 (ad 27) 0) 701 (ad 27) 0) 704 (ad 27) 0) 705 (ad 27) 23040)) (g := 702) (a := (ad 27)) (v := 0) (by decide) (rd_sIf (S := (sI (sI (sI S 700 (ad 27) 0) 701 (ad 27) 0) 704 (ad 27) 0)) (g := 705) (a := (ad 27)) (v := 23040) (by decide) (rd_sIf (S := (sI (sI S 700 (ad 27) 0) 701 (ad 27) 0)) (g := 704) (a := (ad 27)) (v := 0) (by decide) (rd_sIf (S := (sI S 700 (ad 27) 0)) (g := 701) (a := (ad 27)) (v := 0) (by decide) (rd_sIf (S := S) (g := 700) (a := (ad 27)) (v := 0) (by decide) hI_915_ad6))))))))
  have hv_27 : hR S_9 913 (ad 6) = (some (ad 35)) := by rw [eS_10]; exact hR_913_ad6
  have hW_28 : Wd ad S_9 := by rw [eS_10]; exact (Wd.sI (Wd.sI (Wd.sI (Wd.sI (Wd.sI (Wd.sI (Wd.sI (Wd.sI hW))))))))
  refine j_goto (tgt := 294) C dX9_obey_135 (by decide) ?_
  show J _ _ _ _ _ 294 _
  exact j_vret C M dX9_obey_294 (Nat.le_of_ble_eq_true rfl) (Nat.le_of_ble_eq_true rfl) (by subst eS_10; exact ⟨rfl, rfl⟩)

set_option maxRecDepth 100000 in
set_option maxHeartbeats 4000000 in
theorem c_oPX (S : Hp) (ad : Nat → Nat) (hW : Wd ad S) (hR_913_ad6 : hR S 913 (ad 6) = some (ad 35)) (hI_503_ad35 : hI S 503 (ad 35) = 42) (hI_504_ad35 : hI S 504 (ad 35) = 112) (hI_507_ad35 : hI S 507 (ad 35) = 0) (hI_700_ad27 : hI S 700 (ad 27) = 0) (hI_701_ad27 : hI S 701 (ad 27) = 0) (v9 : Nat) (hI_508_ad35 : hI S 508 (ad 35) = 0) (hI_509_ad35 : hI S 509 (ad 35) = nI v9) (hI_510_ad35 : hI S 510 (ad 35) = 0) (hv : v9 < 100) (hI_505_ad35 : hI S 505 (ad 35) = 88) : Ct 7 yX9_obey cX9_obey 1 none 0 0 [.ref (ad 6)] S (fun r S' => r = none ∧ S' = (sI S 706 (ad 27) (nI (v9 * 96)))) := by
  refine ct_of (by decide) (Nat.le_of_ble_eq_true rfl) fun x hn9 C M hm9 => ?_
  have C : CB x RX9 cX9_obey := C
  refine J.eq (lv' := [(0, .ref (ad 6))]) rfl rfl rfl ?_
  refine j_aload_n C dX9_obey_0 rfl 0 rfl ?_
  refine j_getr (f := 913) (v := (ad 35)) C flX9_82 dX9_obey_1 (wm_6 (S := S) hW) (wk_6 (S := S) hW) (by decide) rfl hR_913_ad6 ?_
  refine j_geti (f := 503) (v := 42) C flX9_217 dX9_obey_4 (wm_35 (S := S) hW) (wk_35 (S := S) hW) (by decide) (by decide) rfl hI_503_ad35 ?_
  refine j_bipush (v := 8) C dX9_obey_7 (by decide) ?_
  refine j_ishl (v := 10752) C dX9_obey_9 (by decide) ?_
  refine j_aload_n C dX9_obey_10 rfl 0 rfl ?_
  refine j_getr (f := 913) (v := (ad 35)) C flX9_82 dX9_obey_11 (wm_6 (S := S) hW) (wk_6 (S := S) hW) (by decide) rfl hR_913_ad6 ?_
  refine j_geti (f := 504) (v := 112) C flX9_299 dX9_obey_14 (wm_35 (S := S) hW) (wk_35 (S := S) hW) (by decide) (by decide) rfl hI_504_ad35 ?_
  show J _ _ _ _ _ 17 _
  refine j_ior (v := 10864) C dX9_obey_17 (by decide) ?_
  refine j_look (off := 195) (tgt := 213) C dX9_obey_18 (by decide) (by decide) (by decide) ?_
  refine j_aload_n C dX9_obey_213 rfl 0 rfl ?_
  refine j_callV (ci := 9) C [] [] mlX9_365 mcX9_dotPlaceField (c_dpX S ad hW hI_507_ad35 hR_913_ad6 hI_700_ad27 hI_701_ad27 v9 hI_508_ad35 hI_509_ad35 hI_510_ad35 hv hI_505_ad35) (wm_6 (S := S) hW) (wk_6 (S := S) hW) rfl (M.rm (by decide) (by decide) (Nat.le_of_ble_eq_true rfl) (Nat.le_of_ble_eq_true rfl)) rfl rfl (Nat.le_of_ble_eq_true rfl) dX9_obey_214 (fun r_1 S_2 hp_3 => ?_)
  obtain ⟨rfl, e_4⟩ := hp_3
  refine J.eq (S' := (sI S 706 (ad 27) (nI (v9 * 96)))) (st' := []) (lv' := [(0, .ref (ad 6))]) e_4 rfl rfl ?_
  refine j_goto (tgt := 294) C dX9_obey_217 (by decide) ?_
  exact j_vret C M dX9_obey_294 (Nat.le_of_ble_eq_true rfl) (Nat.le_of_ble_eq_true rfl) ⟨rfl, rfl⟩

set_option maxRecDepth 100000 in
set_option maxHeartbeats 4000000 in
theorem c_oPY (S : Hp) (ad : Nat → Nat) (hW : Wd ad S) (hR_913_ad6 : hR S 913 (ad 6) = some (ad 35)) (hI_503_ad35 : hI S 503 (ad 35) = 42) (hI_504_ad35 : hI S 504 (ad 35) = 112) (hI_507_ad35 : hI S 507 (ad 35) = 0) (hI_700_ad27 : hI S 700 (ad 27) = 0) (hI_701_ad27 : hI S 701 (ad 27) = 0) (v9 : Nat) (hI_508_ad35 : hI S 508 (ad 35) = 0) (hI_509_ad35 : hI S 509 (ad 35) = nI v9) (hI_510_ad35 : hI S 510 (ad 35) = 0) (hv : v9 < 100) (hI_505_ad35 : hI S 505 (ad 35) = 89) : Ct 7 yX9_obey cX9_obey 1 none 0 0 [.ref (ad 6)] S (fun r S' => r = none ∧ S' = (sI S 707 (ad 27) (nI (v9 * 96)))) := by
  refine ct_of (by decide) (Nat.le_of_ble_eq_true rfl) fun x hn9 C M hm9 => ?_
  have C : CB x RX9 cX9_obey := C
  refine J.eq (lv' := [(0, .ref (ad 6))]) rfl rfl rfl ?_
  refine j_aload_n C dX9_obey_0 rfl 0 rfl ?_
  refine j_getr (f := 913) (v := (ad 35)) C flX9_82 dX9_obey_1 (wm_6 (S := S) hW) (wk_6 (S := S) hW) (by decide) rfl hR_913_ad6 ?_
  refine j_geti (f := 503) (v := 42) C flX9_217 dX9_obey_4 (wm_35 (S := S) hW) (wk_35 (S := S) hW) (by decide) (by decide) rfl hI_503_ad35 ?_
  refine j_bipush (v := 8) C dX9_obey_7 (by decide) ?_
  refine j_ishl (v := 10752) C dX9_obey_9 (by decide) ?_
  refine j_aload_n C dX9_obey_10 rfl 0 rfl ?_
  refine j_getr (f := 913) (v := (ad 35)) C flX9_82 dX9_obey_11 (wm_6 (S := S) hW) (wk_6 (S := S) hW) (by decide) rfl hR_913_ad6 ?_
  refine j_geti (f := 504) (v := 112) C flX9_299 dX9_obey_14 (wm_35 (S := S) hW) (wk_35 (S := S) hW) (by decide) (by decide) rfl hI_504_ad35 ?_
  show J _ _ _ _ _ 17 _
  refine j_ior (v := 10864) C dX9_obey_17 (by decide) ?_
  refine j_look (off := 195) (tgt := 213) C dX9_obey_18 (by decide) (by decide) (by decide) ?_
  refine j_aload_n C dX9_obey_213 rfl 0 rfl ?_
  refine j_callV (ci := 9) C [] [] mlX9_365 mcX9_dotPlaceField (c_dpY S ad hW hI_507_ad35 hR_913_ad6 hI_700_ad27 hI_701_ad27 v9 hI_508_ad35 hI_509_ad35 hI_510_ad35 hv hI_505_ad35) (wm_6 (S := S) hW) (wk_6 (S := S) hW) rfl (M.rm (by decide) (by decide) (Nat.le_of_ble_eq_true rfl) (Nat.le_of_ble_eq_true rfl)) rfl rfl (Nat.le_of_ble_eq_true rfl) dX9_obey_214 (fun r_1 S_2 hp_3 => ?_)
  obtain ⟨rfl, e_4⟩ := hp_3
  refine J.eq (S' := (sI S 707 (ad 27) (nI (v9 * 96)))) (st' := []) (lv' := [(0, .ref (ad 6))]) e_4 rfl rfl ?_
  refine j_goto (tgt := 294) C dX9_obey_217 (by decide) ?_
  exact j_vret C M dX9_obey_294 (Nat.le_of_ble_eq_true rfl) (Nat.le_of_ble_eq_true rfl) ⟨rfl, rfl⟩

set_option maxRecDepth 100000 in
set_option maxHeartbeats 4000000 in
theorem c_oO (S : Hp) (ad : Nat → Nat) (hW : Wd ad S) (hR_913_ad6 : hR S 913 (ad 6) = some (ad 35)) (hI_503_ad35 : hI S 503 (ad 35) = 42) (hI_504_ad35 : hI S 504 (ad 35) = 118) (v9 : Nat) (pc : Bool) (hI_505_ad35 : hI S 505 (ad 35) = 79) (hI_508_ad35 : hI S 508 (ad 35) = 0) (hI_509_ad35 : hI S 509 (ad 35) = nI v9) (hpc : nI v9 = cI pc) : Ct 7 yX9_obey cX9_obey 1 none 0 0 [.ref (ad 6)] S (fun r S' => r = none ∧ S' = (sI S 111 (ad 26) (cI pc))) := by
  refine ct_of (by decide) (Nat.le_of_ble_eq_true rfl) fun x hn9 C M hm9 => ?_
  have C : CB x RX9 cX9_obey := C
  refine J.eq (lv' := [(0, .ref (ad 6))]) rfl rfl rfl ?_
  refine j_aload_n C dX9_obey_0 rfl 0 rfl ?_
  refine j_getr (f := 913) (v := (ad 35)) C flX9_82 dX9_obey_1 (wm_6 (S := S) hW) (wk_6 (S := S) hW) (by decide) rfl hR_913_ad6 ?_
  refine j_geti (f := 503) (v := 42) C flX9_217 dX9_obey_4 (wm_35 (S := S) hW) (wk_35 (S := S) hW) (by decide) (by decide) rfl hI_503_ad35 ?_
  refine j_bipush (v := 8) C dX9_obey_7 (by decide) ?_
  refine j_ishl (v := 10752) C dX9_obey_9 (by decide) ?_
  refine j_aload_n C dX9_obey_10 rfl 0 rfl ?_
  refine j_getr (f := 913) (v := (ad 35)) C flX9_82 dX9_obey_11 (wm_6 (S := S) hW) (wk_6 (S := S) hW) (by decide) rfl hR_913_ad6 ?_
  refine j_geti (f := 504) (v := 118) C flX9_299 dX9_obey_14 (wm_35 (S := S) hW) (wk_35 (S := S) hW) (by decide) (by decide) rfl hI_504_ad35 ?_
  show J _ _ _ _ _ 17 _
  refine j_ior (v := 10870) C dX9_obey_17 (by decide) ?_
  refine j_look (off := 216) (tgt := 234) C dX9_obey_18 (by decide) (by decide) (by decide) ?_
  refine j_aload_n C dX9_obey_234 rfl 0 rfl ?_
  refine j_aload_n C dX9_obey_235 rfl 0 rfl ?_
  refine j_getr (f := 913) (v := (ad 35)) C flX9_82 dX9_obey_236 (wm_6 (S := S) hW) (wk_6 (S := S) hW) (by decide) rfl hR_913_ad6 ?_
  refine j_callV (ci := 5) C [] [.ref (ad 6)] mlX9_333 mcX5_n (c_X5_n S ad hW (nI v9) hI_508_ad35 hI_509_ad35) (wm_35 (S := S) hW) (wk_35 (S := S) hW) rfl (M.rm (by decide) (by decide) (Nat.le_of_ble_eq_true rfl) (Nat.le_of_ble_eq_true rfl)) rfl rfl (Nat.le_of_ble_eq_true rfl) dX9_obey_239 (fun r_1 S_2 hp_3 => ?_)
  obtain ⟨rfl, e_4⟩ := hp_3
  refine J.eq (S' := S) (st' := [.int (nI v9), .ref (ad 6)]) (lv' := [(0, .ref (ad 6))]) e_4 rfl rfl ?_
  refine J.eq (st' := .int (cI pc) :: [.ref (ad 6)]) rfl rfl (congrArg (fun z9 => Value.int z9 :: [.ref (ad 6)]) hpc) ?_
  refine j_callV (ci := 9) C [.int (cI pc)] [] mlX9_371 mcX9_inkField (c_ik S ad hW pc hR_913_ad6 hI_505_ad35) (wm_6 (S := S) hW) (wk_6 (S := S) hW) rfl (M.rm (by decide) (by decide) (Nat.le_of_ble_eq_true rfl) (Nat.le_of_ble_eq_true rfl)) rfl rfl (Nat.le_of_ble_eq_true rfl) dX9_obey_242 (fun r_5 S_6 hp_7 => ?_)
  obtain ⟨rfl, e_8⟩ := hp_7
  refine J.eq (S' := (sI S 111 (ad 26) (cI pc))) (st' := []) (lv' := [(0, .ref (ad 6))]) e_8 rfl rfl ?_
  refine j_goto (tgt := 294) C dX9_obey_245 (by decide) ?_
  show J _ _ _ _ _ 294 _
  exact j_vret C M dX9_obey_294 (Nat.le_of_ble_eq_true rfl) (Nat.le_of_ble_eq_true rfl) ⟨rfl, rfl⟩

set_option maxRecDepth 100000 in
set_option maxHeartbeats 4000000 in
theorem c_oC65 (S : Hp) (ad : Nat → Nat) (hW : Wd ad S) (hR_913_ad6 : hR S 913 (ad 6) = some (ad 35)) (hI_503_ad35 : hI S 503 (ad 35) = 42) (hI_504_ad35 : hI S 504 (ad 35) = 99) (v9 : Nat) (hI_505_ad35 : hI S 505 (ad 35) = 65) (hI_508_ad35 : hI S 508 (ad 35) = 0) (hI_509_ad35 : hI S 509 (ad 35) = nI v9) (hv : v9 < 100) : Ct 7 yX9_obey cX9_obey 1 none 0 0 [.ref (ad 6)] S (fun r S' => r = none ∧ S' = (sI S 114 (ad 26) (nI v9))) := by
  refine ct_of (by decide) (Nat.le_of_ble_eq_true rfl) fun x hn9 C M hm9 => ?_
  have C : CB x RX9 cX9_obey := C
  refine J.eq (lv' := [(0, .ref (ad 6))]) rfl rfl rfl ?_
  refine j_aload_n C dX9_obey_0 rfl 0 rfl ?_
  refine j_getr (f := 913) (v := (ad 35)) C flX9_82 dX9_obey_1 (wm_6 (S := S) hW) (wk_6 (S := S) hW) (by decide) rfl hR_913_ad6 ?_
  refine j_geti (f := 503) (v := 42) C flX9_217 dX9_obey_4 (wm_35 (S := S) hW) (wk_35 (S := S) hW) (by decide) (by decide) rfl hI_503_ad35 ?_
  refine j_bipush (v := 8) C dX9_obey_7 (by decide) ?_
  refine j_ishl (v := 10752) C dX9_obey_9 (by decide) ?_
  refine j_aload_n C dX9_obey_10 rfl 0 rfl ?_
  refine j_getr (f := 913) (v := (ad 35)) C flX9_82 dX9_obey_11 (wm_6 (S := S) hW) (wk_6 (S := S) hW) (by decide) rfl hR_913_ad6 ?_
  refine j_geti (f := 504) (v := 99) C flX9_299 dX9_obey_14 (wm_35 (S := S) hW) (wk_35 (S := S) hW) (by decide) (by decide) rfl hI_504_ad35 ?_
  show J _ _ _ _ _ 17 _
  refine j_ior (v := 10851) C dX9_obey_17 (by decide) ?_
  refine j_look (off := 202) (tgt := 220) C dX9_obey_18 (by decide) (by decide) (by decide) ?_
  refine j_aload_n C dX9_obey_220 rfl 0 rfl ?_
  refine j_aload_n C dX9_obey_221 rfl 0 rfl ?_
  refine j_getr (f := 913) (v := (ad 35)) C flX9_82 dX9_obey_222 (wm_6 (S := S) hW) (wk_6 (S := S) hW) (by decide) rfl hR_913_ad6 ?_
  refine j_callV (ci := 5) C [] [.ref (ad 6)] mlX9_333 mcX5_n (c_X5_n S ad hW (nI v9) hI_508_ad35 hI_509_ad35) (wm_35 (S := S) hW) (wk_35 (S := S) hW) rfl (M.rm (by decide) (by decide) (Nat.le_of_ble_eq_true rfl) (Nat.le_of_ble_eq_true rfl)) rfl rfl (Nat.le_of_ble_eq_true rfl) dX9_obey_225 (fun r_1 S_2 hp_3 => ?_)
  obtain ⟨rfl, e_4⟩ := hp_3
  refine J.eq (S' := S) (st' := [.int (nI v9), .ref (ad 6)]) (lv' := [(0, .ref (ad 6))]) e_4 rfl rfl ?_
  refine j_callV (ci := 9) C [.int (nI v9)] [] mlX9_368 mcX9_controlField (c_cf65 S ad hW hR_913_ad6 hI_505_ad35 v9 hv) (wm_6 (S := S) hW) (wk_6 (S := S) hW) rfl (M.rm (by decide) (by decide) (Nat.le_of_ble_eq_true rfl) (Nat.le_of_ble_eq_true rfl)) rfl rfl (Nat.le_of_ble_eq_true rfl) dX9_obey_228 (fun r_5 S_6 hp_7 => ?_)
  obtain ⟨rfl, e_8⟩ := hp_7
  refine J.eq (S' := (sI S 114 (ad 26) (nI v9))) (st' := []) (lv' := [(0, .ref (ad 6))]) e_8 rfl rfl ?_
  refine j_goto (tgt := 294) C dX9_obey_231 (by decide) ?_
  show J _ _ _ _ _ 294 _
  exact j_vret C M dX9_obey_294 (Nat.le_of_ble_eq_true rfl) (Nat.le_of_ble_eq_true rfl) ⟨rfl, rfl⟩

set_option maxRecDepth 100000 in
set_option maxHeartbeats 4000000 in
theorem c_oC66 (S : Hp) (ad : Nat → Nat) (hW : Wd ad S) (hR_913_ad6 : hR S 913 (ad 6) = some (ad 35)) (hI_503_ad35 : hI S 503 (ad 35) = 42) (hI_504_ad35 : hI S 504 (ad 35) = 99) (v9 : Nat) (hI_505_ad35 : hI S 505 (ad 35) = 66) (hI_508_ad35 : hI S 508 (ad 35) = 0) (hI_509_ad35 : hI S 509 (ad 35) = nI v9) (hv : v9 < 100) : Ct 7 yX9_obey cX9_obey 1 none 0 0 [.ref (ad 6)] S (fun r S' => r = none ∧ S' = (sI S 115 (ad 26) (nI v9))) := by
  refine ct_of (by decide) (Nat.le_of_ble_eq_true rfl) fun x hn9 C M hm9 => ?_
  have C : CB x RX9 cX9_obey := C
  refine J.eq (lv' := [(0, .ref (ad 6))]) rfl rfl rfl ?_
  refine j_aload_n C dX9_obey_0 rfl 0 rfl ?_
  refine j_getr (f := 913) (v := (ad 35)) C flX9_82 dX9_obey_1 (wm_6 (S := S) hW) (wk_6 (S := S) hW) (by decide) rfl hR_913_ad6 ?_
  refine j_geti (f := 503) (v := 42) C flX9_217 dX9_obey_4 (wm_35 (S := S) hW) (wk_35 (S := S) hW) (by decide) (by decide) rfl hI_503_ad35 ?_
  refine j_bipush (v := 8) C dX9_obey_7 (by decide) ?_
  refine j_ishl (v := 10752) C dX9_obey_9 (by decide) ?_
  refine j_aload_n C dX9_obey_10 rfl 0 rfl ?_
  refine j_getr (f := 913) (v := (ad 35)) C flX9_82 dX9_obey_11 (wm_6 (S := S) hW) (wk_6 (S := S) hW) (by decide) rfl hR_913_ad6 ?_
  refine j_geti (f := 504) (v := 99) C flX9_299 dX9_obey_14 (wm_35 (S := S) hW) (wk_35 (S := S) hW) (by decide) (by decide) rfl hI_504_ad35 ?_
  show J _ _ _ _ _ 17 _
  refine j_ior (v := 10851) C dX9_obey_17 (by decide) ?_
  refine j_look (off := 202) (tgt := 220) C dX9_obey_18 (by decide) (by decide) (by decide) ?_
  refine j_aload_n C dX9_obey_220 rfl 0 rfl ?_
  refine j_aload_n C dX9_obey_221 rfl 0 rfl ?_
  refine j_getr (f := 913) (v := (ad 35)) C flX9_82 dX9_obey_222 (wm_6 (S := S) hW) (wk_6 (S := S) hW) (by decide) rfl hR_913_ad6 ?_
  refine j_callV (ci := 5) C [] [.ref (ad 6)] mlX9_333 mcX5_n (c_X5_n S ad hW (nI v9) hI_508_ad35 hI_509_ad35) (wm_35 (S := S) hW) (wk_35 (S := S) hW) rfl (M.rm (by decide) (by decide) (Nat.le_of_ble_eq_true rfl) (Nat.le_of_ble_eq_true rfl)) rfl rfl (Nat.le_of_ble_eq_true rfl) dX9_obey_225 (fun r_1 S_2 hp_3 => ?_)
  obtain ⟨rfl, e_4⟩ := hp_3
  refine J.eq (S' := S) (st' := [.int (nI v9), .ref (ad 6)]) (lv' := [(0, .ref (ad 6))]) e_4 rfl rfl ?_
  refine j_callV (ci := 9) C [.int (nI v9)] [] mlX9_368 mcX9_controlField (c_cf66 S ad hW hR_913_ad6 hI_505_ad35 v9 hv) (wm_6 (S := S) hW) (wk_6 (S := S) hW) rfl (M.rm (by decide) (by decide) (Nat.le_of_ble_eq_true rfl) (Nat.le_of_ble_eq_true rfl)) rfl rfl (Nat.le_of_ble_eq_true rfl) dX9_obey_228 (fun r_5 S_6 hp_7 => ?_)
  obtain ⟨rfl, e_8⟩ := hp_7
  refine J.eq (S' := (sI S 115 (ad 26) (nI v9))) (st' := []) (lv' := [(0, .ref (ad 6))]) e_8 rfl rfl ?_
  refine j_goto (tgt := 294) C dX9_obey_231 (by decide) ?_
  show J _ _ _ _ _ 294 _
  exact j_vret C M dX9_obey_294 (Nat.le_of_ble_eq_true rfl) (Nat.le_of_ble_eq_true rfl) ⟨rfl, rfl⟩

set_option maxRecDepth 100000 in
set_option maxHeartbeats 4000000 in
theorem c_oC71 (S : Hp) (ad : Nat → Nat) (hW : Wd ad S) (hR_913_ad6 : hR S 913 (ad 6) = some (ad 35)) (hI_503_ad35 : hI S 503 (ad 35) = 42) (hI_504_ad35 : hI S 504 (ad 35) = 99) (v9 : Nat) (hI_505_ad35 : hI S 505 (ad 35) = 71) (hI_508_ad35 : hI S 508 (ad 35) = 0) (hI_509_ad35 : hI S 509 (ad 35) = nI v9) (hv : v9 < 100) : Ct 7 yX9_obey cX9_obey 1 none 0 0 [.ref (ad 6)] S (fun r S' => r = none ∧ S' = (sI S 118 (ad 26) (nI v9))) := by
  refine ct_of (by decide) (Nat.le_of_ble_eq_true rfl) fun x hn9 C M hm9 => ?_
  have C : CB x RX9 cX9_obey := C
  refine J.eq (lv' := [(0, .ref (ad 6))]) rfl rfl rfl ?_
  refine j_aload_n C dX9_obey_0 rfl 0 rfl ?_
  refine j_getr (f := 913) (v := (ad 35)) C flX9_82 dX9_obey_1 (wm_6 (S := S) hW) (wk_6 (S := S) hW) (by decide) rfl hR_913_ad6 ?_
  refine j_geti (f := 503) (v := 42) C flX9_217 dX9_obey_4 (wm_35 (S := S) hW) (wk_35 (S := S) hW) (by decide) (by decide) rfl hI_503_ad35 ?_
  refine j_bipush (v := 8) C dX9_obey_7 (by decide) ?_
  refine j_ishl (v := 10752) C dX9_obey_9 (by decide) ?_
  refine j_aload_n C dX9_obey_10 rfl 0 rfl ?_
  refine j_getr (f := 913) (v := (ad 35)) C flX9_82 dX9_obey_11 (wm_6 (S := S) hW) (wk_6 (S := S) hW) (by decide) rfl hR_913_ad6 ?_
  refine j_geti (f := 504) (v := 99) C flX9_299 dX9_obey_14 (wm_35 (S := S) hW) (wk_35 (S := S) hW) (by decide) (by decide) rfl hI_504_ad35 ?_
  show J _ _ _ _ _ 17 _
  refine j_ior (v := 10851) C dX9_obey_17 (by decide) ?_
  refine j_look (off := 202) (tgt := 220) C dX9_obey_18 (by decide) (by decide) (by decide) ?_
  refine j_aload_n C dX9_obey_220 rfl 0 rfl ?_
  refine j_aload_n C dX9_obey_221 rfl 0 rfl ?_
  refine j_getr (f := 913) (v := (ad 35)) C flX9_82 dX9_obey_222 (wm_6 (S := S) hW) (wk_6 (S := S) hW) (by decide) rfl hR_913_ad6 ?_
  refine j_callV (ci := 5) C [] [.ref (ad 6)] mlX9_333 mcX5_n (c_X5_n S ad hW (nI v9) hI_508_ad35 hI_509_ad35) (wm_35 (S := S) hW) (wk_35 (S := S) hW) rfl (M.rm (by decide) (by decide) (Nat.le_of_ble_eq_true rfl) (Nat.le_of_ble_eq_true rfl)) rfl rfl (Nat.le_of_ble_eq_true rfl) dX9_obey_225 (fun r_1 S_2 hp_3 => ?_)
  obtain ⟨rfl, e_4⟩ := hp_3
  refine J.eq (S' := S) (st' := [.int (nI v9), .ref (ad 6)]) (lv' := [(0, .ref (ad 6))]) e_4 rfl rfl ?_
  refine j_callV (ci := 9) C [.int (nI v9)] [] mlX9_368 mcX9_controlField (c_cf71 S ad hW hR_913_ad6 hI_505_ad35 v9 hv) (wm_6 (S := S) hW) (wk_6 (S := S) hW) rfl (M.rm (by decide) (by decide) (Nat.le_of_ble_eq_true rfl) (Nat.le_of_ble_eq_true rfl)) rfl rfl (Nat.le_of_ble_eq_true rfl) dX9_obey_228 (fun r_5 S_6 hp_7 => ?_)
  obtain ⟨rfl, e_8⟩ := hp_7
  refine J.eq (S' := (sI S 118 (ad 26) (nI v9))) (st' := []) (lv' := [(0, .ref (ad 6))]) e_8 rfl rfl ?_
  refine j_goto (tgt := 294) C dX9_obey_231 (by decide) ?_
  show J _ _ _ _ _ 294 _
  exact j_vret C M dX9_obey_294 (Nat.le_of_ble_eq_true rfl) (Nat.le_of_ble_eq_true rfl) ⟨rfl, rfl⟩

set_option maxRecDepth 100000 in
set_option maxHeartbeats 4000000 in
theorem c_oB0 (S : Hp) (ad : Nat → Nat) (hW : Wd ad S) (xu : Nat) (yu : Nat) (bw : Nat) (bh : Nat) (cv : Nat) (mk : Nat) (gn : Nat) (pn : Nat) (po : Bool) (P : Nat → Nat → Bool) (hI_700_ad27 : hI S 700 (ad 27) = 0) (hI_701_ad27 : hI S 701 (ad 27) = 0) (hI_706_ad27 : hI S 706 (ad 27) = nI xu) (hI_707_ad27 : hI S 707 (ad 27) = nI yu) (hI_2_ad12 : hI S 2 (ad 12) = nI mk) (hI_3_ad12 : hI S 3 (ad 12) = nI mk) (hI_4_ad12 : hI S 4 (ad 12) = nI cv) (hI_916_ad6 : hI S 916 (ad 6) = nI gn) (hI_5_ad12 : hI S 5 (ad 12) = 0) (hI_603_ad5 : hI S 603 (ad 5) = 0) (hI_110_ad26 : hI S 110 (ad 26) = 0) (hI_111_ad26 : hI S 111 (ad 26) = cI po) (hI_112_ad26 : hI S 112 (ad 26) = 0) (hI_113_ad26 : hI S 113 (ad 26) = 0) (hI_114_ad26 : hI S 114 (ad 26) = nI bw) (hI_115_ad26 : hI S 115 (ad 26) = nI bh) (hI_118_ad26 : hI S 118 (ad 26) = nI pn) (hcv : CVP (aI S (ad 13)) P) (h1 : 1 ≤ pn) (h2 : pn ≤ 100) (hx : xu / 96 + bw ≤ 200) (hy : yu / 96 + bh ≤ 240) (hw : 0 < bw) (hh : 0 < bh) (hc : cv + bw * bh ≤ 5000000) (hm : mk < 2000) (hg : gn ≤ 60000) (hxu : xu < 100000) (hyu : yu < 100000) (hR_913_ad6 : hR S 913 (ad 6) = some (ad 35)) (hI_503_ad35 : hI S 503 (ad 35) = 42) (hI_504_ad35 : hI S 504 (ad 35) = 99) (hI_505_ad35 : hI S 505 (ad 35) = 80) (hI_508_ad35 : hI S 508 (ad 35) = 0) (hI_509_ad35 : hI S 509 (ad 35) = 0) : Ct 7 yX9_obey cX9_obey 1 none 0 0 [.ref (ad 6)] S (fun r S' => r = none ∧ Fm (fun f9 b9 => (f9 = 1000 ∧ b9 = (ad 24)) ∨ (f9 = 1001 ∧ b9 = (ad 24)) ∨ (f9 = 1002 ∧ b9 = (ad 24)) ∨ (f9 = 2 ∧ b9 = (ad 12)) ∨ (f9 = 3 ∧ b9 = (ad 12)) ∨ (f9 = 4 ∧ b9 = (ad 12)) ∨ (f9 = 6 ∧ b9 = (ad 12)) ∨ (f9 = 7 ∧ b9 = (ad 12)) ∨ (f9 = 8 ∧ b9 = (ad 12)) ∨ (f9 = 9 ∧ b9 = (ad 12)) ∨ (f9 = 11 ∧ b9 = (ad 12)) ∨ (f9 = 12 ∧ b9 = (ad 12)) ∨ (f9 = 13 ∧ b9 = (ad 12)) ∨ (f9 = 14 ∧ b9 = (ad 12))) (fun f9 b9 => (f9 = 10 ∧ b9 = (ad 12))) (fun b9 => b9 = (ad 25) ∨ b9 = (ad 14) ∨ b9 = (ad 13)) S S' ∧ hI S' 2 (ad 12) = nI (mk + 1) ∧ hI S' 3 (ad 12) = nI (mk + 1) ∧ hI S' 4 (ad 12) = nI (cv + bw * bh) ∧ CVP (aI S' (ad 13)) (boxP 0 pn po (xu / 96) (yu / 96) bw bh P)) := by
  refine ct_of (by decide) (Nat.le_of_ble_eq_true rfl) fun x hn9 C M hm9 => ?_
  have C : CB x RX9 cX9_obey := C
  refine J.eq (lv' := [(0, .ref (ad 6))]) rfl rfl rfl ?_
  refine j_aload_n C dX9_obey_0 rfl 0 rfl ?_
  refine j_getr (f := 913) (v := (ad 35)) C flX9_82 dX9_obey_1 (wm_6 (S := S) hW) (wk_6 (S := S) hW) (by decide) rfl hR_913_ad6 ?_
  refine j_geti (f := 503) (v := 42) C flX9_217 dX9_obey_4 (wm_35 (S := S) hW) (wk_35 (S := S) hW) (by decide) (by decide) rfl hI_503_ad35 ?_
  refine j_bipush (v := 8) C dX9_obey_7 (by decide) ?_
  refine j_ishl (v := 10752) C dX9_obey_9 (by decide) ?_
  refine j_aload_n C dX9_obey_10 rfl 0 rfl ?_
  refine j_getr (f := 913) (v := (ad 35)) C flX9_82 dX9_obey_11 (wm_6 (S := S) hW) (wk_6 (S := S) hW) (by decide) rfl hR_913_ad6 ?_
  refine j_geti (f := 504) (v := 99) C flX9_299 dX9_obey_14 (wm_35 (S := S) hW) (wk_35 (S := S) hW) (by decide) (by decide) rfl hI_504_ad35 ?_
  show J _ _ _ _ _ 17 _
  refine j_ior (v := 10851) C dX9_obey_17 (by decide) ?_
  refine j_look (off := 202) (tgt := 220) C dX9_obey_18 (by decide) (by decide) (by decide) ?_
  refine j_aload_n C dX9_obey_220 rfl 0 rfl ?_
  refine j_aload_n C dX9_obey_221 rfl 0 rfl ?_
  refine j_getr (f := 913) (v := (ad 35)) C flX9_82 dX9_obey_222 (wm_6 (S := S) hW) (wk_6 (S := S) hW) (by decide) rfl hR_913_ad6 ?_
  refine j_callV (ci := 5) C [] [.ref (ad 6)] mlX9_333 mcX5_n (c_X5_n S ad hW 0 hI_508_ad35 hI_509_ad35) (wm_35 (S := S) hW) (wk_35 (S := S) hW) rfl (M.rm (by decide) (by decide) (Nat.le_of_ble_eq_true rfl) (Nat.le_of_ble_eq_true rfl)) rfl rfl (Nat.le_of_ble_eq_true rfl) dX9_obey_225 (fun r_1 S_2 hp_3 => ?_)
  obtain ⟨rfl, e_4⟩ := hp_3
  refine J.eq (S' := S) (st' := [.int 0, .ref (ad 6)]) (lv' := [(0, .ref (ad 6))]) e_4 rfl rfl ?_
  refine j_callV (ci := 9) C [.int 0] [] mlX9_368 mcX9_controlField (c_cfP0 S ad hW xu yu bw bh cv mk gn pn po P hI_700_ad27 hI_701_ad27 hI_706_ad27 hI_707_ad27 hI_2_ad12 hI_3_ad12 hI_4_ad12 hI_916_ad6 hI_5_ad12 hI_603_ad5 hI_110_ad26 hI_111_ad26 hI_112_ad26 hI_113_ad26 hI_114_ad26 hI_115_ad26 hI_118_ad26 hcv h1 h2 hx hy hw hh hc hm hg hxu hyu hR_913_ad6 hI_505_ad35) (wm_6 (S := S) hW) (wk_6 (S := S) hW) rfl (M.rm (by decide) (by decide) (Nat.le_of_ble_eq_true rfl) (Nat.le_of_ble_eq_true rfl)) rfl rfl (Nat.le_of_ble_eq_true rfl) dX9_obey_228 (fun r_9 S_10 hp_11 => ?_)
  obtain ⟨rfl, hf_12, e_5, e_6, e_7, x_8⟩ := hp_11
  refine J.eq (st' := []) rfl rfl rfl ?_
  have hv_13 : hI S_10 110 (ad 26) = 0 := hf_12.fi (wm_26 (S := S) hW) (fun h9 => h9.elim (fun q9 => absurd q9.1 (by decide)) (fun h9 => h9.elim (fun q9 => absurd q9.1 (by decide)) (fun h9 => h9.elim (fun q9 => absurd q9.1 (by decide)) (fun h9 => h9.elim (fun q9 => absurd q9.1 (by decide)) (fun h9 => h9.elim (fun q9 => absurd q9.1 (by decide)) (fun h9 => h9.elim (fun q9 => absurd q9.1 (by decide)) (fun h9 => h9.elim (fun q9 => absurd q9.1 (by decide)) (fun h9 => h9.elim (fun q9 => absurd q9.1 (by decide)) (fun h9 => h9.elim (fun q9 => absurd q9.1 (by decide)) (fun h9 => h9.elim (fun q9 => absurd q9.1 (by decide)) (fun h9 => h9.elim (fun q9 => absurd q9.1 (by decide)) (fun h9 => h9.elim (fun q9 => absurd q9.1 (by decide)) (fun h9 => h9.elim (fun q9 => absurd q9.1 (by decide)) (fun q9 => absurd q9.1 (by decide))))))))))))))) hI_110_ad26
  have hv_14 : hI S_10 111 (ad 26) = cI po := hf_12.fi (wm_26 (S := S) hW) (fun h9 => h9.elim (fun q9 => absurd q9.1 (by decide)) (fun h9 => h9.elim (fun q9 => absurd q9.1 (by decide)) (fun h9 => h9.elim (fun q9 => absurd q9.1 (by decide)) (fun h9 => h9.elim (fun q9 => absurd q9.1 (by decide)) (fun h9 => h9.elim (fun q9 => absurd q9.1 (by decide)) (fun h9 => h9.elim (fun q9 => absurd q9.1 (by decide)) (fun h9 => h9.elim (fun q9 => absurd q9.1 (by decide)) (fun h9 => h9.elim (fun q9 => absurd q9.1 (by decide)) (fun h9 => h9.elim (fun q9 => absurd q9.1 (by decide)) (fun h9 => h9.elim (fun q9 => absurd q9.1 (by decide)) (fun h9 => h9.elim (fun q9 => absurd q9.1 (by decide)) (fun h9 => h9.elim (fun q9 => absurd q9.1 (by decide)) (fun h9 => h9.elim (fun q9 => absurd q9.1 (by decide)) (fun q9 => absurd q9.1 (by decide))))))))))))))) hI_111_ad26
  have hv_15 : hI S_10 112 (ad 26) = 0 := hf_12.fi (wm_26 (S := S) hW) (fun h9 => h9.elim (fun q9 => absurd q9.1 (by decide)) (fun h9 => h9.elim (fun q9 => absurd q9.1 (by decide)) (fun h9 => h9.elim (fun q9 => absurd q9.1 (by decide)) (fun h9 => h9.elim (fun q9 => absurd q9.1 (by decide)) (fun h9 => h9.elim (fun q9 => absurd q9.1 (by decide)) (fun h9 => h9.elim (fun q9 => absurd q9.1 (by decide)) (fun h9 => h9.elim (fun q9 => absurd q9.1 (by decide)) (fun h9 => h9.elim (fun q9 => absurd q9.1 (by decide)) (fun h9 => h9.elim (fun q9 => absurd q9.1 (by decide)) (fun h9 => h9.elim (fun q9 => absurd q9.1 (by decide)) (fun h9 => h9.elim (fun q9 => absurd q9.1 (by decide)) (fun h9 => h9.elim (fun q9 => absurd q9.1 (by decide)) (fun h9 => h9.elim (fun q9 => absurd q9.1 (by decide)) (fun q9 => absurd q9.1 (by decide))))))))))))))) hI_112_ad26
  have hv_16 : hI S_10 113 (ad 26) = 0 := hf_12.fi (wm_26 (S := S) hW) (fun h9 => h9.elim (fun q9 => absurd q9.1 (by decide)) (fun h9 => h9.elim (fun q9 => absurd q9.1 (by decide)) (fun h9 => h9.elim (fun q9 => absurd q9.1 (by decide)) (fun h9 => h9.elim (fun q9 => absurd q9.1 (by decide)) (fun h9 => h9.elim (fun q9 => absurd q9.1 (by decide)) (fun h9 => h9.elim (fun q9 => absurd q9.1 (by decide)) (fun h9 => h9.elim (fun q9 => absurd q9.1 (by decide)) (fun h9 => h9.elim (fun q9 => absurd q9.1 (by decide)) (fun h9 => h9.elim (fun q9 => absurd q9.1 (by decide)) (fun h9 => h9.elim (fun q9 => absurd q9.1 (by decide)) (fun h9 => h9.elim (fun q9 => absurd q9.1 (by decide)) (fun h9 => h9.elim (fun q9 => absurd q9.1 (by decide)) (fun h9 => h9.elim (fun q9 => absurd q9.1 (by decide)) (fun q9 => absurd q9.1 (by decide))))))))))))))) hI_113_ad26
  have hv_17 : hI S_10 114 (ad 26) = nI bw := hf_12.fi (wm_26 (S := S) hW) (fun h9 => h9.elim (fun q9 => absurd q9.1 (by decide)) (fun h9 => h9.elim (fun q9 => absurd q9.1 (by decide)) (fun h9 => h9.elim (fun q9 => absurd q9.1 (by decide)) (fun h9 => h9.elim (fun q9 => absurd q9.1 (by decide)) (fun h9 => h9.elim (fun q9 => absurd q9.1 (by decide)) (fun h9 => h9.elim (fun q9 => absurd q9.1 (by decide)) (fun h9 => h9.elim (fun q9 => absurd q9.1 (by decide)) (fun h9 => h9.elim (fun q9 => absurd q9.1 (by decide)) (fun h9 => h9.elim (fun q9 => absurd q9.1 (by decide)) (fun h9 => h9.elim (fun q9 => absurd q9.1 (by decide)) (fun h9 => h9.elim (fun q9 => absurd q9.1 (by decide)) (fun h9 => h9.elim (fun q9 => absurd q9.1 (by decide)) (fun h9 => h9.elim (fun q9 => absurd q9.1 (by decide)) (fun q9 => absurd q9.1 (by decide))))))))))))))) hI_114_ad26
  have hv_18 : hI S_10 115 (ad 26) = nI bh := hf_12.fi (wm_26 (S := S) hW) (fun h9 => h9.elim (fun q9 => absurd q9.1 (by decide)) (fun h9 => h9.elim (fun q9 => absurd q9.1 (by decide)) (fun h9 => h9.elim (fun q9 => absurd q9.1 (by decide)) (fun h9 => h9.elim (fun q9 => absurd q9.1 (by decide)) (fun h9 => h9.elim (fun q9 => absurd q9.1 (by decide)) (fun h9 => h9.elim (fun q9 => absurd q9.1 (by decide)) (fun h9 => h9.elim (fun q9 => absurd q9.1 (by decide)) (fun h9 => h9.elim (fun q9 => absurd q9.1 (by decide)) (fun h9 => h9.elim (fun q9 => absurd q9.1 (by decide)) (fun h9 => h9.elim (fun q9 => absurd q9.1 (by decide)) (fun h9 => h9.elim (fun q9 => absurd q9.1 (by decide)) (fun h9 => h9.elim (fun q9 => absurd q9.1 (by decide)) (fun h9 => h9.elim (fun q9 => absurd q9.1 (by decide)) (fun q9 => absurd q9.1 (by decide))))))))))))))) hI_115_ad26
  have hv_19 : hI S_10 118 (ad 26) = nI pn := hf_12.fi (wm_26 (S := S) hW) (fun h9 => h9.elim (fun q9 => absurd q9.1 (by decide)) (fun h9 => h9.elim (fun q9 => absurd q9.1 (by decide)) (fun h9 => h9.elim (fun q9 => absurd q9.1 (by decide)) (fun h9 => h9.elim (fun q9 => absurd q9.1 (by decide)) (fun h9 => h9.elim (fun q9 => absurd q9.1 (by decide)) (fun h9 => h9.elim (fun q9 => absurd q9.1 (by decide)) (fun h9 => h9.elim (fun q9 => absurd q9.1 (by decide)) (fun h9 => h9.elim (fun q9 => absurd q9.1 (by decide)) (fun h9 => h9.elim (fun q9 => absurd q9.1 (by decide)) (fun h9 => h9.elim (fun q9 => absurd q9.1 (by decide)) (fun h9 => h9.elim (fun q9 => absurd q9.1 (by decide)) (fun h9 => h9.elim (fun q9 => absurd q9.1 (by decide)) (fun h9 => h9.elim (fun q9 => absurd q9.1 (by decide)) (fun q9 => absurd q9.1 (by decide))))))))))))))) hI_118_ad26
  have hv_20 : hI S_10 5 (ad 12) = 0 := hf_12.fi (wm_12 (S := S) hW) (fun h9 => h9.elim (fun q9 => absurd q9.1 (by decide)) (fun h9 => h9.elim (fun q9 => absurd q9.1 (by decide)) (fun h9 => h9.elim (fun q9 => absurd q9.1 (by decide)) (fun h9 => h9.elim (fun q9 => absurd q9.1 (by decide)) (fun h9 => h9.elim (fun q9 => absurd q9.1 (by decide)) (fun h9 => h9.elim (fun q9 => absurd q9.1 (by decide)) (fun h9 => h9.elim (fun q9 => absurd q9.1 (by decide)) (fun h9 => h9.elim (fun q9 => absurd q9.1 (by decide)) (fun h9 => h9.elim (fun q9 => absurd q9.1 (by decide)) (fun h9 => h9.elim (fun q9 => absurd q9.1 (by decide)) (fun h9 => h9.elim (fun q9 => absurd q9.1 (by decide)) (fun h9 => h9.elim (fun q9 => absurd q9.1 (by decide)) (fun h9 => h9.elim (fun q9 => absurd q9.1 (by decide)) (fun q9 => absurd q9.1 (by decide))))))))))))))) hI_5_ad12
  have hv_21 : hI S_10 503 (ad 35) = 42 := hf_12.fi (wm_35 (S := S) hW) (fun h9 => h9.elim (fun q9 => absurd q9.1 (by decide)) (fun h9 => h9.elim (fun q9 => absurd q9.1 (by decide)) (fun h9 => h9.elim (fun q9 => absurd q9.1 (by decide)) (fun h9 => h9.elim (fun q9 => absurd q9.1 (by decide)) (fun h9 => h9.elim (fun q9 => absurd q9.1 (by decide)) (fun h9 => h9.elim (fun q9 => absurd q9.1 (by decide)) (fun h9 => h9.elim (fun q9 => absurd q9.1 (by decide)) (fun h9 => h9.elim (fun q9 => absurd q9.1 (by decide)) (fun h9 => h9.elim (fun q9 => absurd q9.1 (by decide)) (fun h9 => h9.elim (fun q9 => absurd q9.1 (by decide)) (fun h9 => h9.elim (fun q9 => absurd q9.1 (by decide)) (fun h9 => h9.elim (fun q9 => absurd q9.1 (by decide)) (fun h9 => h9.elim (fun q9 => absurd q9.1 (by decide)) (fun q9 => absurd q9.1 (by decide))))))))))))))) hI_503_ad35
  have hv_22 : hI S_10 504 (ad 35) = 99 := hf_12.fi (wm_35 (S := S) hW) (fun h9 => h9.elim (fun q9 => absurd q9.1 (by decide)) (fun h9 => h9.elim (fun q9 => absurd q9.1 (by decide)) (fun h9 => h9.elim (fun q9 => absurd q9.1 (by decide)) (fun h9 => h9.elim (fun q9 => absurd q9.1 (by decide)) (fun h9 => h9.elim (fun q9 => absurd q9.1 (by decide)) (fun h9 => h9.elim (fun q9 => absurd q9.1 (by decide)) (fun h9 => h9.elim (fun q9 => absurd q9.1 (by decide)) (fun h9 => h9.elim (fun q9 => absurd q9.1 (by decide)) (fun h9 => h9.elim (fun q9 => absurd q9.1 (by decide)) (fun h9 => h9.elim (fun q9 => absurd q9.1 (by decide)) (fun h9 => h9.elim (fun q9 => absurd q9.1 (by decide)) (fun h9 => h9.elim (fun q9 => absurd q9.1 (by decide)) (fun h9 => h9.elim (fun q9 => absurd q9.1 (by decide)) (fun q9 => absurd q9.1 (by decide))))))))))))))) hI_504_ad35
  have hv_23 : hI S_10 505 (ad 35) = 80 := hf_12.fi (wm_35 (S := S) hW) (fun h9 => h9.elim (fun q9 => absurd q9.1 (by decide)) (fun h9 => h9.elim (fun q9 => absurd q9.1 (by decide)) (fun h9 => h9.elim (fun q9 => absurd q9.1 (by decide)) (fun h9 => h9.elim (fun q9 => absurd q9.1 (by decide)) (fun h9 => h9.elim (fun q9 => absurd q9.1 (by decide)) (fun h9 => h9.elim (fun q9 => absurd q9.1 (by decide)) (fun h9 => h9.elim (fun q9 => absurd q9.1 (by decide)) (fun h9 => h9.elim (fun q9 => absurd q9.1 (by decide)) (fun h9 => h9.elim (fun q9 => absurd q9.1 (by decide)) (fun h9 => h9.elim (fun q9 => absurd q9.1 (by decide)) (fun h9 => h9.elim (fun q9 => absurd q9.1 (by decide)) (fun h9 => h9.elim (fun q9 => absurd q9.1 (by decide)) (fun h9 => h9.elim (fun q9 => absurd q9.1 (by decide)) (fun q9 => absurd q9.1 (by decide))))))))))))))) hI_505_ad35
  have hv_24 : hI S_10 508 (ad 35) = 0 := hf_12.fi (wm_35 (S := S) hW) (fun h9 => h9.elim (fun q9 => absurd q9.1 (by decide)) (fun h9 => h9.elim (fun q9 => absurd q9.1 (by decide)) (fun h9 => h9.elim (fun q9 => absurd q9.1 (by decide)) (fun h9 => h9.elim (fun q9 => absurd q9.1 (by decide)) (fun h9 => h9.elim (fun q9 => absurd q9.1 (by decide)) (fun h9 => h9.elim (fun q9 => absurd q9.1 (by decide)) (fun h9 => h9.elim (fun q9 => absurd q9.1 (by decide)) (fun h9 => h9.elim (fun q9 => absurd q9.1 (by decide)) (fun h9 => h9.elim (fun q9 => absurd q9.1 (by decide)) (fun h9 => h9.elim (fun q9 => absurd q9.1 (by decide)) (fun h9 => h9.elim (fun q9 => absurd q9.1 (by decide)) (fun h9 => h9.elim (fun q9 => absurd q9.1 (by decide)) (fun h9 => h9.elim (fun q9 => absurd q9.1 (by decide)) (fun q9 => absurd q9.1 (by decide))))))))))))))) hI_508_ad35
  have hv_25 : hI S_10 509 (ad 35) = 0 := hf_12.fi (wm_35 (S := S) hW) (fun h9 => h9.elim (fun q9 => absurd q9.1 (by decide)) (fun h9 => h9.elim (fun q9 => absurd q9.1 (by decide)) (fun h9 => h9.elim (fun q9 => absurd q9.1 (by decide)) (fun h9 => h9.elim (fun q9 => absurd q9.1 (by decide)) (fun h9 => h9.elim (fun q9 => absurd q9.1 (by decide)) (fun h9 => h9.elim (fun q9 => absurd q9.1 (by decide)) (fun h9 => h9.elim (fun q9 => absurd q9.1 (by decide)) (fun h9 => h9.elim (fun q9 => absurd q9.1 (by decide)) (fun h9 => h9.elim (fun q9 => absurd q9.1 (by decide)) (fun h9 => h9.elim (fun q9 => absurd q9.1 (by decide)) (fun h9 => h9.elim (fun q9 => absurd q9.1 (by decide)) (fun h9 => h9.elim (fun q9 => absurd q9.1 (by decide)) (fun h9 => h9.elim (fun q9 => absurd q9.1 (by decide)) (fun q9 => absurd q9.1 (by decide))))))))))))))) hI_509_ad35
  have hv_26 : hI S_10 603 (ad 5) = 0 := hf_12.fi (wm_5 (S := S) hW) (fun h9 => h9.elim (fun q9 => absurd q9.1 (by decide)) (fun h9 => h9.elim (fun q9 => absurd q9.1 (by decide)) (fun h9 => h9.elim (fun q9 => absurd q9.1 (by decide)) (fun h9 => h9.elim (fun q9 => absurd q9.1 (by decide)) (fun h9 => h9.elim (fun q9 => absurd q9.1 (by decide)) (fun h9 => h9.elim (fun q9 => absurd q9.1 (by decide)) (fun h9 => h9.elim (fun q9 => absurd q9.1 (by decide)) (fun h9 => h9.elim (fun q9 => absurd q9.1 (by decide)) (fun h9 => h9.elim (fun q9 => absurd q9.1 (by decide)) (fun h9 => h9.elim (fun q9 => absurd q9.1 (by decide)) (fun h9 => h9.elim (fun q9 => absurd q9.1 (by decide)) (fun h9 => h9.elim (fun q9 => absurd q9.1 (by decide)) (fun h9 => h9.elim (fun q9 => absurd q9.1 (by decide)) (fun q9 => absurd q9.1 (by decide))))))))))))))) hI_603_ad5
  have hv_27 : hI S_10 700 (ad 27) = 0 := hf_12.fi (wm_27 (S := S) hW) (fun h9 => h9.elim (fun q9 => absurd q9.1 (by decide)) (fun h9 => h9.elim (fun q9 => absurd q9.1 (by decide)) (fun h9 => h9.elim (fun q9 => absurd q9.1 (by decide)) (fun h9 => h9.elim (fun q9 => absurd q9.1 (by decide)) (fun h9 => h9.elim (fun q9 => absurd q9.1 (by decide)) (fun h9 => h9.elim (fun q9 => absurd q9.1 (by decide)) (fun h9 => h9.elim (fun q9 => absurd q9.1 (by decide)) (fun h9 => h9.elim (fun q9 => absurd q9.1 (by decide)) (fun h9 => h9.elim (fun q9 => absurd q9.1 (by decide)) (fun h9 => h9.elim (fun q9 => absurd q9.1 (by decide)) (fun h9 => h9.elim (fun q9 => absurd q9.1 (by decide)) (fun h9 => h9.elim (fun q9 => absurd q9.1 (by decide)) (fun h9 => h9.elim (fun q9 => absurd q9.1 (by decide)) (fun q9 => absurd q9.1 (by decide))))))))))))))) hI_700_ad27
  have hv_28 : hI S_10 701 (ad 27) = 0 := hf_12.fi (wm_27 (S := S) hW) (fun h9 => h9.elim (fun q9 => absurd q9.1 (by decide)) (fun h9 => h9.elim (fun q9 => absurd q9.1 (by decide)) (fun h9 => h9.elim (fun q9 => absurd q9.1 (by decide)) (fun h9 => h9.elim (fun q9 => absurd q9.1 (by decide)) (fun h9 => h9.elim (fun q9 => absurd q9.1 (by decide)) (fun h9 => h9.elim (fun q9 => absurd q9.1 (by decide)) (fun h9 => h9.elim (fun q9 => absurd q9.1 (by decide)) (fun h9 => h9.elim (fun q9 => absurd q9.1 (by decide)) (fun h9 => h9.elim (fun q9 => absurd q9.1 (by decide)) (fun h9 => h9.elim (fun q9 => absurd q9.1 (by decide)) (fun h9 => h9.elim (fun q9 => absurd q9.1 (by decide)) (fun h9 => h9.elim (fun q9 => absurd q9.1 (by decide)) (fun h9 => h9.elim (fun q9 => absurd q9.1 (by decide)) (fun q9 => absurd q9.1 (by decide))))))))))))))) hI_701_ad27
  have hv_29 : hI S_10 706 (ad 27) = nI xu := hf_12.fi (wm_27 (S := S) hW) (fun h9 => h9.elim (fun q9 => absurd q9.1 (by decide)) (fun h9 => h9.elim (fun q9 => absurd q9.1 (by decide)) (fun h9 => h9.elim (fun q9 => absurd q9.1 (by decide)) (fun h9 => h9.elim (fun q9 => absurd q9.1 (by decide)) (fun h9 => h9.elim (fun q9 => absurd q9.1 (by decide)) (fun h9 => h9.elim (fun q9 => absurd q9.1 (by decide)) (fun h9 => h9.elim (fun q9 => absurd q9.1 (by decide)) (fun h9 => h9.elim (fun q9 => absurd q9.1 (by decide)) (fun h9 => h9.elim (fun q9 => absurd q9.1 (by decide)) (fun h9 => h9.elim (fun q9 => absurd q9.1 (by decide)) (fun h9 => h9.elim (fun q9 => absurd q9.1 (by decide)) (fun h9 => h9.elim (fun q9 => absurd q9.1 (by decide)) (fun h9 => h9.elim (fun q9 => absurd q9.1 (by decide)) (fun q9 => absurd q9.1 (by decide))))))))))))))) hI_706_ad27
  have hv_30 : hI S_10 707 (ad 27) = nI yu := hf_12.fi (wm_27 (S := S) hW) (fun h9 => h9.elim (fun q9 => absurd q9.1 (by decide)) (fun h9 => h9.elim (fun q9 => absurd q9.1 (by decide)) (fun h9 => h9.elim (fun q9 => absurd q9.1 (by decide)) (fun h9 => h9.elim (fun q9 => absurd q9.1 (by decide)) (fun h9 => h9.elim (fun q9 => absurd q9.1 (by decide)) (fun h9 => h9.elim (fun q9 => absurd q9.1 (by decide)) (fun h9 => h9.elim (fun q9 => absurd q9.1 (by decide)) (fun h9 => h9.elim (fun q9 => absurd q9.1 (by decide)) (fun h9 => h9.elim (fun q9 => absurd q9.1 (by decide)) (fun h9 => h9.elim (fun q9 => absurd q9.1 (by decide)) (fun h9 => h9.elim (fun q9 => absurd q9.1 (by decide)) (fun h9 => h9.elim (fun q9 => absurd q9.1 (by decide)) (fun h9 => h9.elim (fun q9 => absurd q9.1 (by decide)) (fun q9 => absurd q9.1 (by decide))))))))))))))) hI_707_ad27
  have hv_31 : hI S_10 916 (ad 6) = nI gn := hf_12.fi (wm_6 (S := S) hW) (fun h9 => h9.elim (fun q9 => absurd q9.1 (by decide)) (fun h9 => h9.elim (fun q9 => absurd q9.1 (by decide)) (fun h9 => h9.elim (fun q9 => absurd q9.1 (by decide)) (fun h9 => h9.elim (fun q9 => absurd q9.1 (by decide)) (fun h9 => h9.elim (fun q9 => absurd q9.1 (by decide)) (fun h9 => h9.elim (fun q9 => absurd q9.1 (by decide)) (fun h9 => h9.elim (fun q9 => absurd q9.1 (by decide)) (fun h9 => h9.elim (fun q9 => absurd q9.1 (by decide)) (fun h9 => h9.elim (fun q9 => absurd q9.1 (by decide)) (fun h9 => h9.elim (fun q9 => absurd q9.1 (by decide)) (fun h9 => h9.elim (fun q9 => absurd q9.1 (by decide)) (fun h9 => h9.elim (fun q9 => absurd q9.1 (by decide)) (fun h9 => h9.elim (fun q9 => absurd q9.1 (by decide)) (fun q9 => absurd q9.1 (by decide))))))))))))))) hI_916_ad6
  have hv_32 : hR S_10 913 (ad 6) = (some (ad 35)) := hf_12.fr (wm_6 (S := S) hW) (fun q9 => absurd q9.1 (by decide)) hR_913_ad6
  have hf_33 : Fm (fun f9 b9 => (f9 = 1000 ∧ b9 = (ad 24)) ∨ (f9 = 1001 ∧ b9 = (ad 24)) ∨ (f9 = 1002 ∧ b9 = (ad 24)) ∨ (f9 = 2 ∧ b9 = (ad 12)) ∨ (f9 = 3 ∧ b9 = (ad 12)) ∨ (f9 = 4 ∧ b9 = (ad 12)) ∨ (f9 = 6 ∧ b9 = (ad 12)) ∨ (f9 = 7 ∧ b9 = (ad 12)) ∨ (f9 = 8 ∧ b9 = (ad 12)) ∨ (f9 = 9 ∧ b9 = (ad 12)) ∨ (f9 = 11 ∧ b9 = (ad 12)) ∨ (f9 = 12 ∧ b9 = (ad 12)) ∨ (f9 = 13 ∧ b9 = (ad 12)) ∨ (f9 = 14 ∧ b9 = (ad 12))) (fun f9 b9 => (f9 = 10 ∧ b9 = (ad 12))) (fun b9 => b9 = (ad 25) ∨ b9 = (ad 14) ∨ b9 = (ad 13)) S S_10 := (Fm.refl (WI := (fun f9 b9 => (f9 = 1000 ∧ b9 = (ad 24)) ∨ (f9 = 1001 ∧ b9 = (ad 24)) ∨ (f9 = 1002 ∧ b9 = (ad 24)) ∨ (f9 = 2 ∧ b9 = (ad 12)) ∨ (f9 = 3 ∧ b9 = (ad 12)) ∨ (f9 = 4 ∧ b9 = (ad 12)) ∨ (f9 = 6 ∧ b9 = (ad 12)) ∨ (f9 = 7 ∧ b9 = (ad 12)) ∨ (f9 = 8 ∧ b9 = (ad 12)) ∨ (f9 = 9 ∧ b9 = (ad 12)) ∨ (f9 = 11 ∧ b9 = (ad 12)) ∨ (f9 = 12 ∧ b9 = (ad 12)) ∨ (f9 = 13 ∧ b9 = (ad 12)) ∨ (f9 = 14 ∧ b9 = (ad 12)))) (WR := (fun f9 b9 => (f9 = 10 ∧ b9 = (ad 12)))) (WA := (fun b9 => b9 = (ad 25) ∨ b9 = (ad 14) ∨ b9 = (ad 13)))).then hf_12 (fun a9 ha9 => ⟨(fun f9 h9 => (fun h9 => h9.elim (fun h8 => (Or.inl h8)) (fun h9 => h9.elim (fun h8 => (Or.inr (Or.inl h8))) (fun h9 => h9.elim (fun h8 => (Or.inr (Or.inr (Or.inl h8)))) (fun h9 => h9.elim (fun h8 => (Or.inr (Or.inr (Or.inr (Or.inl h8))))) (fun h9 => h9.elim (fun h8 => (Or.inr (Or.inr (Or.inr (Or.inr (Or.inl h8)))))) (fun h9 => h9.elim (fun h8 => (Or.inr (Or.inr (Or.inr (Or.inr (Or.inr (Or.inl h8))))))) (fun h9 => h9.elim (fun h8 => (Or.inr (Or.inr (Or.inr (Or.inr (Or.inr (Or.inr (Or.inl h8)))))))) (fun h9 => h9.elim (fun h8 => (Or.inr (Or.inr (Or.inr (Or.inr (Or.inr (Or.inr (Or.inr (Or.inl h8))))))))) (fun h9 => h9.elim (fun h8 => (Or.inr (Or.inr (Or.inr (Or.inr (Or.inr (Or.inr (Or.inr (Or.inr (Or.inl h8)))))))))) (fun h9 => h9.elim (fun h8 => (Or.inr (Or.inr (Or.inr (Or.inr (Or.inr (Or.inr (Or.inr (Or.inr (Or.inr (Or.inl h8))))))))))) (fun h9 => h9.elim (fun h8 => (Or.inr (Or.inr (Or.inr (Or.inr (Or.inr (Or.inr (Or.inr (Or.inr (Or.inr (Or.inr (Or.inl h8)))))))))))) (fun h9 => h9.elim (fun h8 => (Or.inr (Or.inr (Or.inr (Or.inr (Or.inr (Or.inr (Or.inr (Or.inr (Or.inr (Or.inr (Or.inr (Or.inl h8))))))))))))) (fun h9 => h9.elim (fun h8 => (Or.inr (Or.inr (Or.inr (Or.inr (Or.inr (Or.inr (Or.inr (Or.inr (Or.inr (Or.inr (Or.inr (Or.inr (Or.inl h8)))))))))))))) (fun h8 => (Or.inr (Or.inr (Or.inr (Or.inr (Or.inr (Or.inr (Or.inr (Or.inr (Or.inr (Or.inr (Or.inr (Or.inr (Or.inr h8))))))))))))))))))))))))))) h9), (fun f9 h9 => (fun h8 => h8) h9), (fun h9 => (fun h9 => h9.elim (fun h8 => (Or.inl h8)) (fun h9 => h9.elim (fun h8 => (Or.inr (Or.inl h8))) (fun h8 => (Or.inr (Or.inr h8))))) h9)⟩)
  have hW_34 : Wd ad S_10 := hW.fm hf_12 (by intro p9 hp9 h9; obtain ⟨e1, e2⟩ := h9 <;> exact wp_dyn p9 hp9 (by rw [e1]; decide)) (by intro p9 hp9; simp only [wqL, List.mem_cons, List.not_mem_nil, or_false] at hp9; rcases hp9 with rfl | rfl <;> intro h9 <;> rcases h9 with h9 | h9 | h9 <;> exact absurd h9 (wn hW (by decide) (by decide) (by decide)))
  refine j_goto (tgt := 294) C dX9_obey_231 (by decide) ?_
  show J _ _ _ _ _ 294 _
  exact j_vret C M dX9_obey_294 (Nat.le_of_ble_eq_true rfl) (Nat.le_of_ble_eq_true rfl) ⟨rfl, hf_33, e_5, e_6, e_7, x_8⟩

set_option maxRecDepth 100000 in
set_option maxHeartbeats 4000000 in
theorem c_oB1 (S : Hp) (ad : Nat → Nat) (hW : Wd ad S) (xu : Nat) (yu : Nat) (bw : Nat) (bh : Nat) (cv : Nat) (mk : Nat) (gn : Nat) (pn : Nat) (po : Bool) (P : Nat → Nat → Bool) (hI_700_ad27 : hI S 700 (ad 27) = 0) (hI_701_ad27 : hI S 701 (ad 27) = 0) (hI_706_ad27 : hI S 706 (ad 27) = nI xu) (hI_707_ad27 : hI S 707 (ad 27) = nI yu) (hI_2_ad12 : hI S 2 (ad 12) = nI mk) (hI_3_ad12 : hI S 3 (ad 12) = nI mk) (hI_4_ad12 : hI S 4 (ad 12) = nI cv) (hI_916_ad6 : hI S 916 (ad 6) = nI gn) (hI_5_ad12 : hI S 5 (ad 12) = 0) (hI_603_ad5 : hI S 603 (ad 5) = 0) (hI_110_ad26 : hI S 110 (ad 26) = 0) (hI_111_ad26 : hI S 111 (ad 26) = cI po) (hI_112_ad26 : hI S 112 (ad 26) = 0) (hI_113_ad26 : hI S 113 (ad 26) = 0) (hI_114_ad26 : hI S 114 (ad 26) = nI bw) (hI_115_ad26 : hI S 115 (ad 26) = nI bh) (hI_118_ad26 : hI S 118 (ad 26) = nI pn) (hcv : CVP (aI S (ad 13)) P) (h1 : 1 ≤ pn) (h2 : pn ≤ 100) (hx : xu / 96 + bw ≤ 200) (hy : yu / 96 + bh ≤ 240) (hw : 0 < bw) (hh : 0 < bh) (hc : cv + bw * bh ≤ 5000000) (hm : mk < 2000) (hg : gn ≤ 60000) (hxu : xu < 100000) (hyu : yu < 100000) (hR_913_ad6 : hR S 913 (ad 6) = some (ad 35)) (hI_503_ad35 : hI S 503 (ad 35) = 42) (hI_504_ad35 : hI S 504 (ad 35) = 99) (hI_505_ad35 : hI S 505 (ad 35) = 80) (hI_508_ad35 : hI S 508 (ad 35) = 0) (hI_509_ad35 : hI S 509 (ad 35) = 1) : Ct 7 yX9_obey cX9_obey 1 none 0 0 [.ref (ad 6)] S (fun r S' => r = none ∧ Fm (fun f9 b9 => (f9 = 1000 ∧ b9 = (ad 24)) ∨ (f9 = 1001 ∧ b9 = (ad 24)) ∨ (f9 = 1002 ∧ b9 = (ad 24)) ∨ (f9 = 2 ∧ b9 = (ad 12)) ∨ (f9 = 3 ∧ b9 = (ad 12)) ∨ (f9 = 4 ∧ b9 = (ad 12)) ∨ (f9 = 6 ∧ b9 = (ad 12)) ∨ (f9 = 7 ∧ b9 = (ad 12)) ∨ (f9 = 8 ∧ b9 = (ad 12)) ∨ (f9 = 9 ∧ b9 = (ad 12)) ∨ (f9 = 11 ∧ b9 = (ad 12)) ∨ (f9 = 12 ∧ b9 = (ad 12)) ∨ (f9 = 13 ∧ b9 = (ad 12)) ∨ (f9 = 14 ∧ b9 = (ad 12))) (fun f9 b9 => (f9 = 10 ∧ b9 = (ad 12))) (fun b9 => b9 = (ad 25) ∨ b9 = (ad 14) ∨ b9 = (ad 13)) S S' ∧ hI S' 2 (ad 12) = nI (mk + 1) ∧ hI S' 3 (ad 12) = nI (mk + 1) ∧ hI S' 4 (ad 12) = nI (cv + bw * bh) ∧ CVP (aI S' (ad 13)) (boxP 1 pn po (xu / 96) (yu / 96) bw bh P)) := by
  refine ct_of (by decide) (Nat.le_of_ble_eq_true rfl) fun x hn9 C M hm9 => ?_
  have C : CB x RX9 cX9_obey := C
  refine J.eq (lv' := [(0, .ref (ad 6))]) rfl rfl rfl ?_
  refine j_aload_n C dX9_obey_0 rfl 0 rfl ?_
  refine j_getr (f := 913) (v := (ad 35)) C flX9_82 dX9_obey_1 (wm_6 (S := S) hW) (wk_6 (S := S) hW) (by decide) rfl hR_913_ad6 ?_
  refine j_geti (f := 503) (v := 42) C flX9_217 dX9_obey_4 (wm_35 (S := S) hW) (wk_35 (S := S) hW) (by decide) (by decide) rfl hI_503_ad35 ?_
  refine j_bipush (v := 8) C dX9_obey_7 (by decide) ?_
  refine j_ishl (v := 10752) C dX9_obey_9 (by decide) ?_
  refine j_aload_n C dX9_obey_10 rfl 0 rfl ?_
  refine j_getr (f := 913) (v := (ad 35)) C flX9_82 dX9_obey_11 (wm_6 (S := S) hW) (wk_6 (S := S) hW) (by decide) rfl hR_913_ad6 ?_
  refine j_geti (f := 504) (v := 99) C flX9_299 dX9_obey_14 (wm_35 (S := S) hW) (wk_35 (S := S) hW) (by decide) (by decide) rfl hI_504_ad35 ?_
  show J _ _ _ _ _ 17 _
  refine j_ior (v := 10851) C dX9_obey_17 (by decide) ?_
  refine j_look (off := 202) (tgt := 220) C dX9_obey_18 (by decide) (by decide) (by decide) ?_
  refine j_aload_n C dX9_obey_220 rfl 0 rfl ?_
  refine j_aload_n C dX9_obey_221 rfl 0 rfl ?_
  refine j_getr (f := 913) (v := (ad 35)) C flX9_82 dX9_obey_222 (wm_6 (S := S) hW) (wk_6 (S := S) hW) (by decide) rfl hR_913_ad6 ?_
  refine j_callV (ci := 5) C [] [.ref (ad 6)] mlX9_333 mcX5_n (c_X5_n S ad hW 1 hI_508_ad35 hI_509_ad35) (wm_35 (S := S) hW) (wk_35 (S := S) hW) rfl (M.rm (by decide) (by decide) (Nat.le_of_ble_eq_true rfl) (Nat.le_of_ble_eq_true rfl)) rfl rfl (Nat.le_of_ble_eq_true rfl) dX9_obey_225 (fun r_1 S_2 hp_3 => ?_)
  obtain ⟨rfl, e_4⟩ := hp_3
  refine J.eq (S' := S) (st' := [.int 1, .ref (ad 6)]) (lv' := [(0, .ref (ad 6))]) e_4 rfl rfl ?_
  refine j_callV (ci := 9) C [.int 1] [] mlX9_368 mcX9_controlField (c_cfP1 S ad hW xu yu bw bh cv mk gn pn po P hI_700_ad27 hI_701_ad27 hI_706_ad27 hI_707_ad27 hI_2_ad12 hI_3_ad12 hI_4_ad12 hI_916_ad6 hI_5_ad12 hI_603_ad5 hI_110_ad26 hI_111_ad26 hI_112_ad26 hI_113_ad26 hI_114_ad26 hI_115_ad26 hI_118_ad26 hcv h1 h2 hx hy hw hh hc hm hg hxu hyu hR_913_ad6 hI_505_ad35) (wm_6 (S := S) hW) (wk_6 (S := S) hW) rfl (M.rm (by decide) (by decide) (Nat.le_of_ble_eq_true rfl) (Nat.le_of_ble_eq_true rfl)) rfl rfl (Nat.le_of_ble_eq_true rfl) dX9_obey_228 (fun r_9 S_10 hp_11 => ?_)
  obtain ⟨rfl, hf_12, e_5, e_6, e_7, x_8⟩ := hp_11
  refine J.eq (st' := []) rfl rfl rfl ?_
  have hv_13 : hI S_10 110 (ad 26) = 0 := hf_12.fi (wm_26 (S := S) hW) (fun h9 => h9.elim (fun q9 => absurd q9.1 (by decide)) (fun h9 => h9.elim (fun q9 => absurd q9.1 (by decide)) (fun h9 => h9.elim (fun q9 => absurd q9.1 (by decide)) (fun h9 => h9.elim (fun q9 => absurd q9.1 (by decide)) (fun h9 => h9.elim (fun q9 => absurd q9.1 (by decide)) (fun h9 => h9.elim (fun q9 => absurd q9.1 (by decide)) (fun h9 => h9.elim (fun q9 => absurd q9.1 (by decide)) (fun h9 => h9.elim (fun q9 => absurd q9.1 (by decide)) (fun h9 => h9.elim (fun q9 => absurd q9.1 (by decide)) (fun h9 => h9.elim (fun q9 => absurd q9.1 (by decide)) (fun h9 => h9.elim (fun q9 => absurd q9.1 (by decide)) (fun h9 => h9.elim (fun q9 => absurd q9.1 (by decide)) (fun h9 => h9.elim (fun q9 => absurd q9.1 (by decide)) (fun q9 => absurd q9.1 (by decide))))))))))))))) hI_110_ad26
  have hv_14 : hI S_10 111 (ad 26) = cI po := hf_12.fi (wm_26 (S := S) hW) (fun h9 => h9.elim (fun q9 => absurd q9.1 (by decide)) (fun h9 => h9.elim (fun q9 => absurd q9.1 (by decide)) (fun h9 => h9.elim (fun q9 => absurd q9.1 (by decide)) (fun h9 => h9.elim (fun q9 => absurd q9.1 (by decide)) (fun h9 => h9.elim (fun q9 => absurd q9.1 (by decide)) (fun h9 => h9.elim (fun q9 => absurd q9.1 (by decide)) (fun h9 => h9.elim (fun q9 => absurd q9.1 (by decide)) (fun h9 => h9.elim (fun q9 => absurd q9.1 (by decide)) (fun h9 => h9.elim (fun q9 => absurd q9.1 (by decide)) (fun h9 => h9.elim (fun q9 => absurd q9.1 (by decide)) (fun h9 => h9.elim (fun q9 => absurd q9.1 (by decide)) (fun h9 => h9.elim (fun q9 => absurd q9.1 (by decide)) (fun h9 => h9.elim (fun q9 => absurd q9.1 (by decide)) (fun q9 => absurd q9.1 (by decide))))))))))))))) hI_111_ad26
  have hv_15 : hI S_10 112 (ad 26) = 0 := hf_12.fi (wm_26 (S := S) hW) (fun h9 => h9.elim (fun q9 => absurd q9.1 (by decide)) (fun h9 => h9.elim (fun q9 => absurd q9.1 (by decide)) (fun h9 => h9.elim (fun q9 => absurd q9.1 (by decide)) (fun h9 => h9.elim (fun q9 => absurd q9.1 (by decide)) (fun h9 => h9.elim (fun q9 => absurd q9.1 (by decide)) (fun h9 => h9.elim (fun q9 => absurd q9.1 (by decide)) (fun h9 => h9.elim (fun q9 => absurd q9.1 (by decide)) (fun h9 => h9.elim (fun q9 => absurd q9.1 (by decide)) (fun h9 => h9.elim (fun q9 => absurd q9.1 (by decide)) (fun h9 => h9.elim (fun q9 => absurd q9.1 (by decide)) (fun h9 => h9.elim (fun q9 => absurd q9.1 (by decide)) (fun h9 => h9.elim (fun q9 => absurd q9.1 (by decide)) (fun h9 => h9.elim (fun q9 => absurd q9.1 (by decide)) (fun q9 => absurd q9.1 (by decide))))))))))))))) hI_112_ad26
  have hv_16 : hI S_10 113 (ad 26) = 0 := hf_12.fi (wm_26 (S := S) hW) (fun h9 => h9.elim (fun q9 => absurd q9.1 (by decide)) (fun h9 => h9.elim (fun q9 => absurd q9.1 (by decide)) (fun h9 => h9.elim (fun q9 => absurd q9.1 (by decide)) (fun h9 => h9.elim (fun q9 => absurd q9.1 (by decide)) (fun h9 => h9.elim (fun q9 => absurd q9.1 (by decide)) (fun h9 => h9.elim (fun q9 => absurd q9.1 (by decide)) (fun h9 => h9.elim (fun q9 => absurd q9.1 (by decide)) (fun h9 => h9.elim (fun q9 => absurd q9.1 (by decide)) (fun h9 => h9.elim (fun q9 => absurd q9.1 (by decide)) (fun h9 => h9.elim (fun q9 => absurd q9.1 (by decide)) (fun h9 => h9.elim (fun q9 => absurd q9.1 (by decide)) (fun h9 => h9.elim (fun q9 => absurd q9.1 (by decide)) (fun h9 => h9.elim (fun q9 => absurd q9.1 (by decide)) (fun q9 => absurd q9.1 (by decide))))))))))))))) hI_113_ad26
  have hv_17 : hI S_10 114 (ad 26) = nI bw := hf_12.fi (wm_26 (S := S) hW) (fun h9 => h9.elim (fun q9 => absurd q9.1 (by decide)) (fun h9 => h9.elim (fun q9 => absurd q9.1 (by decide)) (fun h9 => h9.elim (fun q9 => absurd q9.1 (by decide)) (fun h9 => h9.elim (fun q9 => absurd q9.1 (by decide)) (fun h9 => h9.elim (fun q9 => absurd q9.1 (by decide)) (fun h9 => h9.elim (fun q9 => absurd q9.1 (by decide)) (fun h9 => h9.elim (fun q9 => absurd q9.1 (by decide)) (fun h9 => h9.elim (fun q9 => absurd q9.1 (by decide)) (fun h9 => h9.elim (fun q9 => absurd q9.1 (by decide)) (fun h9 => h9.elim (fun q9 => absurd q9.1 (by decide)) (fun h9 => h9.elim (fun q9 => absurd q9.1 (by decide)) (fun h9 => h9.elim (fun q9 => absurd q9.1 (by decide)) (fun h9 => h9.elim (fun q9 => absurd q9.1 (by decide)) (fun q9 => absurd q9.1 (by decide))))))))))))))) hI_114_ad26
  have hv_18 : hI S_10 115 (ad 26) = nI bh := hf_12.fi (wm_26 (S := S) hW) (fun h9 => h9.elim (fun q9 => absurd q9.1 (by decide)) (fun h9 => h9.elim (fun q9 => absurd q9.1 (by decide)) (fun h9 => h9.elim (fun q9 => absurd q9.1 (by decide)) (fun h9 => h9.elim (fun q9 => absurd q9.1 (by decide)) (fun h9 => h9.elim (fun q9 => absurd q9.1 (by decide)) (fun h9 => h9.elim (fun q9 => absurd q9.1 (by decide)) (fun h9 => h9.elim (fun q9 => absurd q9.1 (by decide)) (fun h9 => h9.elim (fun q9 => absurd q9.1 (by decide)) (fun h9 => h9.elim (fun q9 => absurd q9.1 (by decide)) (fun h9 => h9.elim (fun q9 => absurd q9.1 (by decide)) (fun h9 => h9.elim (fun q9 => absurd q9.1 (by decide)) (fun h9 => h9.elim (fun q9 => absurd q9.1 (by decide)) (fun h9 => h9.elim (fun q9 => absurd q9.1 (by decide)) (fun q9 => absurd q9.1 (by decide))))))))))))))) hI_115_ad26
  have hv_19 : hI S_10 118 (ad 26) = nI pn := hf_12.fi (wm_26 (S := S) hW) (fun h9 => h9.elim (fun q9 => absurd q9.1 (by decide)) (fun h9 => h9.elim (fun q9 => absurd q9.1 (by decide)) (fun h9 => h9.elim (fun q9 => absurd q9.1 (by decide)) (fun h9 => h9.elim (fun q9 => absurd q9.1 (by decide)) (fun h9 => h9.elim (fun q9 => absurd q9.1 (by decide)) (fun h9 => h9.elim (fun q9 => absurd q9.1 (by decide)) (fun h9 => h9.elim (fun q9 => absurd q9.1 (by decide)) (fun h9 => h9.elim (fun q9 => absurd q9.1 (by decide)) (fun h9 => h9.elim (fun q9 => absurd q9.1 (by decide)) (fun h9 => h9.elim (fun q9 => absurd q9.1 (by decide)) (fun h9 => h9.elim (fun q9 => absurd q9.1 (by decide)) (fun h9 => h9.elim (fun q9 => absurd q9.1 (by decide)) (fun h9 => h9.elim (fun q9 => absurd q9.1 (by decide)) (fun q9 => absurd q9.1 (by decide))))))))))))))) hI_118_ad26
  have hv_20 : hI S_10 5 (ad 12) = 0 := hf_12.fi (wm_12 (S := S) hW) (fun h9 => h9.elim (fun q9 => absurd q9.1 (by decide)) (fun h9 => h9.elim (fun q9 => absurd q9.1 (by decide)) (fun h9 => h9.elim (fun q9 => absurd q9.1 (by decide)) (fun h9 => h9.elim (fun q9 => absurd q9.1 (by decide)) (fun h9 => h9.elim (fun q9 => absurd q9.1 (by decide)) (fun h9 => h9.elim (fun q9 => absurd q9.1 (by decide)) (fun h9 => h9.elim (fun q9 => absurd q9.1 (by decide)) (fun h9 => h9.elim (fun q9 => absurd q9.1 (by decide)) (fun h9 => h9.elim (fun q9 => absurd q9.1 (by decide)) (fun h9 => h9.elim (fun q9 => absurd q9.1 (by decide)) (fun h9 => h9.elim (fun q9 => absurd q9.1 (by decide)) (fun h9 => h9.elim (fun q9 => absurd q9.1 (by decide)) (fun h9 => h9.elim (fun q9 => absurd q9.1 (by decide)) (fun q9 => absurd q9.1 (by decide))))))))))))))) hI_5_ad12
  have hv_21 : hI S_10 503 (ad 35) = 42 := hf_12.fi (wm_35 (S := S) hW) (fun h9 => h9.elim (fun q9 => absurd q9.1 (by decide)) (fun h9 => h9.elim (fun q9 => absurd q9.1 (by decide)) (fun h9 => h9.elim (fun q9 => absurd q9.1 (by decide)) (fun h9 => h9.elim (fun q9 => absurd q9.1 (by decide)) (fun h9 => h9.elim (fun q9 => absurd q9.1 (by decide)) (fun h9 => h9.elim (fun q9 => absurd q9.1 (by decide)) (fun h9 => h9.elim (fun q9 => absurd q9.1 (by decide)) (fun h9 => h9.elim (fun q9 => absurd q9.1 (by decide)) (fun h9 => h9.elim (fun q9 => absurd q9.1 (by decide)) (fun h9 => h9.elim (fun q9 => absurd q9.1 (by decide)) (fun h9 => h9.elim (fun q9 => absurd q9.1 (by decide)) (fun h9 => h9.elim (fun q9 => absurd q9.1 (by decide)) (fun h9 => h9.elim (fun q9 => absurd q9.1 (by decide)) (fun q9 => absurd q9.1 (by decide))))))))))))))) hI_503_ad35
  have hv_22 : hI S_10 504 (ad 35) = 99 := hf_12.fi (wm_35 (S := S) hW) (fun h9 => h9.elim (fun q9 => absurd q9.1 (by decide)) (fun h9 => h9.elim (fun q9 => absurd q9.1 (by decide)) (fun h9 => h9.elim (fun q9 => absurd q9.1 (by decide)) (fun h9 => h9.elim (fun q9 => absurd q9.1 (by decide)) (fun h9 => h9.elim (fun q9 => absurd q9.1 (by decide)) (fun h9 => h9.elim (fun q9 => absurd q9.1 (by decide)) (fun h9 => h9.elim (fun q9 => absurd q9.1 (by decide)) (fun h9 => h9.elim (fun q9 => absurd q9.1 (by decide)) (fun h9 => h9.elim (fun q9 => absurd q9.1 (by decide)) (fun h9 => h9.elim (fun q9 => absurd q9.1 (by decide)) (fun h9 => h9.elim (fun q9 => absurd q9.1 (by decide)) (fun h9 => h9.elim (fun q9 => absurd q9.1 (by decide)) (fun h9 => h9.elim (fun q9 => absurd q9.1 (by decide)) (fun q9 => absurd q9.1 (by decide))))))))))))))) hI_504_ad35
  have hv_23 : hI S_10 505 (ad 35) = 80 := hf_12.fi (wm_35 (S := S) hW) (fun h9 => h9.elim (fun q9 => absurd q9.1 (by decide)) (fun h9 => h9.elim (fun q9 => absurd q9.1 (by decide)) (fun h9 => h9.elim (fun q9 => absurd q9.1 (by decide)) (fun h9 => h9.elim (fun q9 => absurd q9.1 (by decide)) (fun h9 => h9.elim (fun q9 => absurd q9.1 (by decide)) (fun h9 => h9.elim (fun q9 => absurd q9.1 (by decide)) (fun h9 => h9.elim (fun q9 => absurd q9.1 (by decide)) (fun h9 => h9.elim (fun q9 => absurd q9.1 (by decide)) (fun h9 => h9.elim (fun q9 => absurd q9.1 (by decide)) (fun h9 => h9.elim (fun q9 => absurd q9.1 (by decide)) (fun h9 => h9.elim (fun q9 => absurd q9.1 (by decide)) (fun h9 => h9.elim (fun q9 => absurd q9.1 (by decide)) (fun h9 => h9.elim (fun q9 => absurd q9.1 (by decide)) (fun q9 => absurd q9.1 (by decide))))))))))))))) hI_505_ad35
  have hv_24 : hI S_10 508 (ad 35) = 0 := hf_12.fi (wm_35 (S := S) hW) (fun h9 => h9.elim (fun q9 => absurd q9.1 (by decide)) (fun h9 => h9.elim (fun q9 => absurd q9.1 (by decide)) (fun h9 => h9.elim (fun q9 => absurd q9.1 (by decide)) (fun h9 => h9.elim (fun q9 => absurd q9.1 (by decide)) (fun h9 => h9.elim (fun q9 => absurd q9.1 (by decide)) (fun h9 => h9.elim (fun q9 => absurd q9.1 (by decide)) (fun h9 => h9.elim (fun q9 => absurd q9.1 (by decide)) (fun h9 => h9.elim (fun q9 => absurd q9.1 (by decide)) (fun h9 => h9.elim (fun q9 => absurd q9.1 (by decide)) (fun h9 => h9.elim (fun q9 => absurd q9.1 (by decide)) (fun h9 => h9.elim (fun q9 => absurd q9.1 (by decide)) (fun h9 => h9.elim (fun q9 => absurd q9.1 (by decide)) (fun h9 => h9.elim (fun q9 => absurd q9.1 (by decide)) (fun q9 => absurd q9.1 (by decide))))))))))))))) hI_508_ad35
  have hv_25 : hI S_10 509 (ad 35) = 1 := hf_12.fi (wm_35 (S := S) hW) (fun h9 => h9.elim (fun q9 => absurd q9.1 (by decide)) (fun h9 => h9.elim (fun q9 => absurd q9.1 (by decide)) (fun h9 => h9.elim (fun q9 => absurd q9.1 (by decide)) (fun h9 => h9.elim (fun q9 => absurd q9.1 (by decide)) (fun h9 => h9.elim (fun q9 => absurd q9.1 (by decide)) (fun h9 => h9.elim (fun q9 => absurd q9.1 (by decide)) (fun h9 => h9.elim (fun q9 => absurd q9.1 (by decide)) (fun h9 => h9.elim (fun q9 => absurd q9.1 (by decide)) (fun h9 => h9.elim (fun q9 => absurd q9.1 (by decide)) (fun h9 => h9.elim (fun q9 => absurd q9.1 (by decide)) (fun h9 => h9.elim (fun q9 => absurd q9.1 (by decide)) (fun h9 => h9.elim (fun q9 => absurd q9.1 (by decide)) (fun h9 => h9.elim (fun q9 => absurd q9.1 (by decide)) (fun q9 => absurd q9.1 (by decide))))))))))))))) hI_509_ad35
  have hv_26 : hI S_10 603 (ad 5) = 0 := hf_12.fi (wm_5 (S := S) hW) (fun h9 => h9.elim (fun q9 => absurd q9.1 (by decide)) (fun h9 => h9.elim (fun q9 => absurd q9.1 (by decide)) (fun h9 => h9.elim (fun q9 => absurd q9.1 (by decide)) (fun h9 => h9.elim (fun q9 => absurd q9.1 (by decide)) (fun h9 => h9.elim (fun q9 => absurd q9.1 (by decide)) (fun h9 => h9.elim (fun q9 => absurd q9.1 (by decide)) (fun h9 => h9.elim (fun q9 => absurd q9.1 (by decide)) (fun h9 => h9.elim (fun q9 => absurd q9.1 (by decide)) (fun h9 => h9.elim (fun q9 => absurd q9.1 (by decide)) (fun h9 => h9.elim (fun q9 => absurd q9.1 (by decide)) (fun h9 => h9.elim (fun q9 => absurd q9.1 (by decide)) (fun h9 => h9.elim (fun q9 => absurd q9.1 (by decide)) (fun h9 => h9.elim (fun q9 => absurd q9.1 (by decide)) (fun q9 => absurd q9.1 (by decide))))))))))))))) hI_603_ad5
  have hv_27 : hI S_10 700 (ad 27) = 0 := hf_12.fi (wm_27 (S := S) hW) (fun h9 => h9.elim (fun q9 => absurd q9.1 (by decide)) (fun h9 => h9.elim (fun q9 => absurd q9.1 (by decide)) (fun h9 => h9.elim (fun q9 => absurd q9.1 (by decide)) (fun h9 => h9.elim (fun q9 => absurd q9.1 (by decide)) (fun h9 => h9.elim (fun q9 => absurd q9.1 (by decide)) (fun h9 => h9.elim (fun q9 => absurd q9.1 (by decide)) (fun h9 => h9.elim (fun q9 => absurd q9.1 (by decide)) (fun h9 => h9.elim (fun q9 => absurd q9.1 (by decide)) (fun h9 => h9.elim (fun q9 => absurd q9.1 (by decide)) (fun h9 => h9.elim (fun q9 => absurd q9.1 (by decide)) (fun h9 => h9.elim (fun q9 => absurd q9.1 (by decide)) (fun h9 => h9.elim (fun q9 => absurd q9.1 (by decide)) (fun h9 => h9.elim (fun q9 => absurd q9.1 (by decide)) (fun q9 => absurd q9.1 (by decide))))))))))))))) hI_700_ad27
  have hv_28 : hI S_10 701 (ad 27) = 0 := hf_12.fi (wm_27 (S := S) hW) (fun h9 => h9.elim (fun q9 => absurd q9.1 (by decide)) (fun h9 => h9.elim (fun q9 => absurd q9.1 (by decide)) (fun h9 => h9.elim (fun q9 => absurd q9.1 (by decide)) (fun h9 => h9.elim (fun q9 => absurd q9.1 (by decide)) (fun h9 => h9.elim (fun q9 => absurd q9.1 (by decide)) (fun h9 => h9.elim (fun q9 => absurd q9.1 (by decide)) (fun h9 => h9.elim (fun q9 => absurd q9.1 (by decide)) (fun h9 => h9.elim (fun q9 => absurd q9.1 (by decide)) (fun h9 => h9.elim (fun q9 => absurd q9.1 (by decide)) (fun h9 => h9.elim (fun q9 => absurd q9.1 (by decide)) (fun h9 => h9.elim (fun q9 => absurd q9.1 (by decide)) (fun h9 => h9.elim (fun q9 => absurd q9.1 (by decide)) (fun h9 => h9.elim (fun q9 => absurd q9.1 (by decide)) (fun q9 => absurd q9.1 (by decide))))))))))))))) hI_701_ad27
  have hv_29 : hI S_10 706 (ad 27) = nI xu := hf_12.fi (wm_27 (S := S) hW) (fun h9 => h9.elim (fun q9 => absurd q9.1 (by decide)) (fun h9 => h9.elim (fun q9 => absurd q9.1 (by decide)) (fun h9 => h9.elim (fun q9 => absurd q9.1 (by decide)) (fun h9 => h9.elim (fun q9 => absurd q9.1 (by decide)) (fun h9 => h9.elim (fun q9 => absurd q9.1 (by decide)) (fun h9 => h9.elim (fun q9 => absurd q9.1 (by decide)) (fun h9 => h9.elim (fun q9 => absurd q9.1 (by decide)) (fun h9 => h9.elim (fun q9 => absurd q9.1 (by decide)) (fun h9 => h9.elim (fun q9 => absurd q9.1 (by decide)) (fun h9 => h9.elim (fun q9 => absurd q9.1 (by decide)) (fun h9 => h9.elim (fun q9 => absurd q9.1 (by decide)) (fun h9 => h9.elim (fun q9 => absurd q9.1 (by decide)) (fun h9 => h9.elim (fun q9 => absurd q9.1 (by decide)) (fun q9 => absurd q9.1 (by decide))))))))))))))) hI_706_ad27
  have hv_30 : hI S_10 707 (ad 27) = nI yu := hf_12.fi (wm_27 (S := S) hW) (fun h9 => h9.elim (fun q9 => absurd q9.1 (by decide)) (fun h9 => h9.elim (fun q9 => absurd q9.1 (by decide)) (fun h9 => h9.elim (fun q9 => absurd q9.1 (by decide)) (fun h9 => h9.elim (fun q9 => absurd q9.1 (by decide)) (fun h9 => h9.elim (fun q9 => absurd q9.1 (by decide)) (fun h9 => h9.elim (fun q9 => absurd q9.1 (by decide)) (fun h9 => h9.elim (fun q9 => absurd q9.1 (by decide)) (fun h9 => h9.elim (fun q9 => absurd q9.1 (by decide)) (fun h9 => h9.elim (fun q9 => absurd q9.1 (by decide)) (fun h9 => h9.elim (fun q9 => absurd q9.1 (by decide)) (fun h9 => h9.elim (fun q9 => absurd q9.1 (by decide)) (fun h9 => h9.elim (fun q9 => absurd q9.1 (by decide)) (fun h9 => h9.elim (fun q9 => absurd q9.1 (by decide)) (fun q9 => absurd q9.1 (by decide))))))))))))))) hI_707_ad27
  have hv_31 : hI S_10 916 (ad 6) = nI gn := hf_12.fi (wm_6 (S := S) hW) (fun h9 => h9.elim (fun q9 => absurd q9.1 (by decide)) (fun h9 => h9.elim (fun q9 => absurd q9.1 (by decide)) (fun h9 => h9.elim (fun q9 => absurd q9.1 (by decide)) (fun h9 => h9.elim (fun q9 => absurd q9.1 (by decide)) (fun h9 => h9.elim (fun q9 => absurd q9.1 (by decide)) (fun h9 => h9.elim (fun q9 => absurd q9.1 (by decide)) (fun h9 => h9.elim (fun q9 => absurd q9.1 (by decide)) (fun h9 => h9.elim (fun q9 => absurd q9.1 (by decide)) (fun h9 => h9.elim (fun q9 => absurd q9.1 (by decide)) (fun h9 => h9.elim (fun q9 => absurd q9.1 (by decide)) (fun h9 => h9.elim (fun q9 => absurd q9.1 (by decide)) (fun h9 => h9.elim (fun q9 => absurd q9.1 (by decide)) (fun h9 => h9.elim (fun q9 => absurd q9.1 (by decide)) (fun q9 => absurd q9.1 (by decide))))))))))))))) hI_916_ad6
  have hv_32 : hR S_10 913 (ad 6) = (some (ad 35)) := hf_12.fr (wm_6 (S := S) hW) (fun q9 => absurd q9.1 (by decide)) hR_913_ad6
  have hf_33 : Fm (fun f9 b9 => (f9 = 1000 ∧ b9 = (ad 24)) ∨ (f9 = 1001 ∧ b9 = (ad 24)) ∨ (f9 = 1002 ∧ b9 = (ad 24)) ∨ (f9 = 2 ∧ b9 = (ad 12)) ∨ (f9 = 3 ∧ b9 = (ad 12)) ∨ (f9 = 4 ∧ b9 = (ad 12)) ∨ (f9 = 6 ∧ b9 = (ad 12)) ∨ (f9 = 7 ∧ b9 = (ad 12)) ∨ (f9 = 8 ∧ b9 = (ad 12)) ∨ (f9 = 9 ∧ b9 = (ad 12)) ∨ (f9 = 11 ∧ b9 = (ad 12)) ∨ (f9 = 12 ∧ b9 = (ad 12)) ∨ (f9 = 13 ∧ b9 = (ad 12)) ∨ (f9 = 14 ∧ b9 = (ad 12))) (fun f9 b9 => (f9 = 10 ∧ b9 = (ad 12))) (fun b9 => b9 = (ad 25) ∨ b9 = (ad 14) ∨ b9 = (ad 13)) S S_10 := (Fm.refl (WI := (fun f9 b9 => (f9 = 1000 ∧ b9 = (ad 24)) ∨ (f9 = 1001 ∧ b9 = (ad 24)) ∨ (f9 = 1002 ∧ b9 = (ad 24)) ∨ (f9 = 2 ∧ b9 = (ad 12)) ∨ (f9 = 3 ∧ b9 = (ad 12)) ∨ (f9 = 4 ∧ b9 = (ad 12)) ∨ (f9 = 6 ∧ b9 = (ad 12)) ∨ (f9 = 7 ∧ b9 = (ad 12)) ∨ (f9 = 8 ∧ b9 = (ad 12)) ∨ (f9 = 9 ∧ b9 = (ad 12)) ∨ (f9 = 11 ∧ b9 = (ad 12)) ∨ (f9 = 12 ∧ b9 = (ad 12)) ∨ (f9 = 13 ∧ b9 = (ad 12)) ∨ (f9 = 14 ∧ b9 = (ad 12)))) (WR := (fun f9 b9 => (f9 = 10 ∧ b9 = (ad 12)))) (WA := (fun b9 => b9 = (ad 25) ∨ b9 = (ad 14) ∨ b9 = (ad 13)))).then hf_12 (fun a9 ha9 => ⟨(fun f9 h9 => (fun h9 => h9.elim (fun h8 => (Or.inl h8)) (fun h9 => h9.elim (fun h8 => (Or.inr (Or.inl h8))) (fun h9 => h9.elim (fun h8 => (Or.inr (Or.inr (Or.inl h8)))) (fun h9 => h9.elim (fun h8 => (Or.inr (Or.inr (Or.inr (Or.inl h8))))) (fun h9 => h9.elim (fun h8 => (Or.inr (Or.inr (Or.inr (Or.inr (Or.inl h8)))))) (fun h9 => h9.elim (fun h8 => (Or.inr (Or.inr (Or.inr (Or.inr (Or.inr (Or.inl h8))))))) (fun h9 => h9.elim (fun h8 => (Or.inr (Or.inr (Or.inr (Or.inr (Or.inr (Or.inr (Or.inl h8)))))))) (fun h9 => h9.elim (fun h8 => (Or.inr (Or.inr (Or.inr (Or.inr (Or.inr (Or.inr (Or.inr (Or.inl h8))))))))) (fun h9 => h9.elim (fun h8 => (Or.inr (Or.inr (Or.inr (Or.inr (Or.inr (Or.inr (Or.inr (Or.inr (Or.inl h8)))))))))) (fun h9 => h9.elim (fun h8 => (Or.inr (Or.inr (Or.inr (Or.inr (Or.inr (Or.inr (Or.inr (Or.inr (Or.inr (Or.inl h8))))))))))) (fun h9 => h9.elim (fun h8 => (Or.inr (Or.inr (Or.inr (Or.inr (Or.inr (Or.inr (Or.inr (Or.inr (Or.inr (Or.inr (Or.inl h8)))))))))))) (fun h9 => h9.elim (fun h8 => (Or.inr (Or.inr (Or.inr (Or.inr (Or.inr (Or.inr (Or.inr (Or.inr (Or.inr (Or.inr (Or.inr (Or.inl h8))))))))))))) (fun h9 => h9.elim (fun h8 => (Or.inr (Or.inr (Or.inr (Or.inr (Or.inr (Or.inr (Or.inr (Or.inr (Or.inr (Or.inr (Or.inr (Or.inr (Or.inl h8)))))))))))))) (fun h8 => (Or.inr (Or.inr (Or.inr (Or.inr (Or.inr (Or.inr (Or.inr (Or.inr (Or.inr (Or.inr (Or.inr (Or.inr (Or.inr h8))))))))))))))))))))))))))) h9), (fun f9 h9 => (fun h8 => h8) h9), (fun h9 => (fun h9 => h9.elim (fun h8 => (Or.inl h8)) (fun h9 => h9.elim (fun h8 => (Or.inr (Or.inl h8))) (fun h8 => (Or.inr (Or.inr h8))))) h9)⟩)
  have hW_34 : Wd ad S_10 := hW.fm hf_12 (by intro p9 hp9 h9; obtain ⟨e1, e2⟩ := h9 <;> exact wp_dyn p9 hp9 (by rw [e1]; decide)) (by intro p9 hp9; simp only [wqL, List.mem_cons, List.not_mem_nil, or_false] at hp9; rcases hp9 with rfl | rfl <;> intro h9 <;> rcases h9 with h9 | h9 | h9 <;> exact absurd h9 (wn hW (by decide) (by decide) (by decide)))
  refine j_goto (tgt := 294) C dX9_obey_231 (by decide) ?_
  show J _ _ _ _ _ 294 _
  exact j_vret C M dX9_obey_294 (Nat.le_of_ble_eq_true rfl) (Nat.le_of_ble_eq_true rfl) ⟨rfl, hf_33, e_5, e_6, e_7, x_8⟩

set_option maxRecDepth 100000 in
set_option maxHeartbeats 4000000 in
theorem c_oB2 (S : Hp) (ad : Nat → Nat) (hW : Wd ad S) (xu : Nat) (yu : Nat) (bw : Nat) (bh : Nat) (cv : Nat) (mk : Nat) (gn : Nat) (pn : Nat) (po : Bool) (P : Nat → Nat → Bool) (hI_700_ad27 : hI S 700 (ad 27) = 0) (hI_701_ad27 : hI S 701 (ad 27) = 0) (hI_706_ad27 : hI S 706 (ad 27) = nI xu) (hI_707_ad27 : hI S 707 (ad 27) = nI yu) (hI_2_ad12 : hI S 2 (ad 12) = nI mk) (hI_3_ad12 : hI S 3 (ad 12) = nI mk) (hI_4_ad12 : hI S 4 (ad 12) = nI cv) (hI_916_ad6 : hI S 916 (ad 6) = nI gn) (hI_5_ad12 : hI S 5 (ad 12) = 0) (hI_603_ad5 : hI S 603 (ad 5) = 0) (hI_110_ad26 : hI S 110 (ad 26) = 0) (hI_111_ad26 : hI S 111 (ad 26) = cI po) (hI_112_ad26 : hI S 112 (ad 26) = 0) (hI_113_ad26 : hI S 113 (ad 26) = 0) (hI_114_ad26 : hI S 114 (ad 26) = nI bw) (hI_115_ad26 : hI S 115 (ad 26) = nI bh) (hI_118_ad26 : hI S 118 (ad 26) = nI pn) (hcv : CVP (aI S (ad 13)) P) (h1 : 1 ≤ pn) (h2 : pn ≤ 100) (hx : xu / 96 + bw ≤ 200) (hy : yu / 96 + bh ≤ 240) (hw : 0 < bw) (hh : 0 < bh) (hc : cv + bw * bh ≤ 5000000) (hm : mk < 2000) (hg : gn ≤ 60000) (hxu : xu < 100000) (hyu : yu < 100000) (hR_913_ad6 : hR S 913 (ad 6) = some (ad 35)) (hI_503_ad35 : hI S 503 (ad 35) = 42) (hI_504_ad35 : hI S 504 (ad 35) = 99) (hI_505_ad35 : hI S 505 (ad 35) = 80) (hI_508_ad35 : hI S 508 (ad 35) = 0) (hI_509_ad35 : hI S 509 (ad 35) = 2) : Ct 7 yX9_obey cX9_obey 1 none 0 0 [.ref (ad 6)] S (fun r S' => r = none ∧ Fm (fun f9 b9 => (f9 = 1000 ∧ b9 = (ad 24)) ∨ (f9 = 1001 ∧ b9 = (ad 24)) ∨ (f9 = 1002 ∧ b9 = (ad 24)) ∨ (f9 = 2 ∧ b9 = (ad 12)) ∨ (f9 = 3 ∧ b9 = (ad 12)) ∨ (f9 = 4 ∧ b9 = (ad 12)) ∨ (f9 = 6 ∧ b9 = (ad 12)) ∨ (f9 = 7 ∧ b9 = (ad 12)) ∨ (f9 = 8 ∧ b9 = (ad 12)) ∨ (f9 = 9 ∧ b9 = (ad 12)) ∨ (f9 = 11 ∧ b9 = (ad 12)) ∨ (f9 = 12 ∧ b9 = (ad 12)) ∨ (f9 = 13 ∧ b9 = (ad 12)) ∨ (f9 = 14 ∧ b9 = (ad 12))) (fun f9 b9 => (f9 = 10 ∧ b9 = (ad 12))) (fun b9 => b9 = (ad 25) ∨ b9 = (ad 14) ∨ b9 = (ad 13)) S S' ∧ hI S' 2 (ad 12) = nI (mk + 1) ∧ hI S' 3 (ad 12) = nI (mk + 1) ∧ hI S' 4 (ad 12) = nI (cv + bw * bh) ∧ CVP (aI S' (ad 13)) (boxP 2 pn po (xu / 96) (yu / 96) bw bh P)) := by
  refine ct_of (by decide) (Nat.le_of_ble_eq_true rfl) fun x hn9 C M hm9 => ?_
  have C : CB x RX9 cX9_obey := C
  refine J.eq (lv' := [(0, .ref (ad 6))]) rfl rfl rfl ?_
  refine j_aload_n C dX9_obey_0 rfl 0 rfl ?_
  refine j_getr (f := 913) (v := (ad 35)) C flX9_82 dX9_obey_1 (wm_6 (S := S) hW) (wk_6 (S := S) hW) (by decide) rfl hR_913_ad6 ?_
  refine j_geti (f := 503) (v := 42) C flX9_217 dX9_obey_4 (wm_35 (S := S) hW) (wk_35 (S := S) hW) (by decide) (by decide) rfl hI_503_ad35 ?_
  refine j_bipush (v := 8) C dX9_obey_7 (by decide) ?_
  refine j_ishl (v := 10752) C dX9_obey_9 (by decide) ?_
  refine j_aload_n C dX9_obey_10 rfl 0 rfl ?_
  refine j_getr (f := 913) (v := (ad 35)) C flX9_82 dX9_obey_11 (wm_6 (S := S) hW) (wk_6 (S := S) hW) (by decide) rfl hR_913_ad6 ?_
  refine j_geti (f := 504) (v := 99) C flX9_299 dX9_obey_14 (wm_35 (S := S) hW) (wk_35 (S := S) hW) (by decide) (by decide) rfl hI_504_ad35 ?_
  show J _ _ _ _ _ 17 _
  refine j_ior (v := 10851) C dX9_obey_17 (by decide) ?_
  refine j_look (off := 202) (tgt := 220) C dX9_obey_18 (by decide) (by decide) (by decide) ?_
  refine j_aload_n C dX9_obey_220 rfl 0 rfl ?_
  refine j_aload_n C dX9_obey_221 rfl 0 rfl ?_
  refine j_getr (f := 913) (v := (ad 35)) C flX9_82 dX9_obey_222 (wm_6 (S := S) hW) (wk_6 (S := S) hW) (by decide) rfl hR_913_ad6 ?_
  refine j_callV (ci := 5) C [] [.ref (ad 6)] mlX9_333 mcX5_n (c_X5_n S ad hW 2 hI_508_ad35 hI_509_ad35) (wm_35 (S := S) hW) (wk_35 (S := S) hW) rfl (M.rm (by decide) (by decide) (Nat.le_of_ble_eq_true rfl) (Nat.le_of_ble_eq_true rfl)) rfl rfl (Nat.le_of_ble_eq_true rfl) dX9_obey_225 (fun r_1 S_2 hp_3 => ?_)
  obtain ⟨rfl, e_4⟩ := hp_3
  refine J.eq (S' := S) (st' := [.int 2, .ref (ad 6)]) (lv' := [(0, .ref (ad 6))]) e_4 rfl rfl ?_
  refine j_callV (ci := 9) C [.int 2] [] mlX9_368 mcX9_controlField (c_cfP2 S ad hW xu yu bw bh cv mk gn pn po P hI_700_ad27 hI_701_ad27 hI_706_ad27 hI_707_ad27 hI_2_ad12 hI_3_ad12 hI_4_ad12 hI_916_ad6 hI_5_ad12 hI_603_ad5 hI_110_ad26 hI_111_ad26 hI_112_ad26 hI_113_ad26 hI_114_ad26 hI_115_ad26 hI_118_ad26 hcv h1 h2 hx hy hw hh hc hm hg hxu hyu hR_913_ad6 hI_505_ad35) (wm_6 (S := S) hW) (wk_6 (S := S) hW) rfl (M.rm (by decide) (by decide) (Nat.le_of_ble_eq_true rfl) (Nat.le_of_ble_eq_true rfl)) rfl rfl (Nat.le_of_ble_eq_true rfl) dX9_obey_228 (fun r_9 S_10 hp_11 => ?_)
  obtain ⟨rfl, hf_12, e_5, e_6, e_7, x_8⟩ := hp_11
  refine J.eq (st' := []) rfl rfl rfl ?_
  have hv_13 : hI S_10 110 (ad 26) = 0 := hf_12.fi (wm_26 (S := S) hW) (fun h9 => h9.elim (fun q9 => absurd q9.1 (by decide)) (fun h9 => h9.elim (fun q9 => absurd q9.1 (by decide)) (fun h9 => h9.elim (fun q9 => absurd q9.1 (by decide)) (fun h9 => h9.elim (fun q9 => absurd q9.1 (by decide)) (fun h9 => h9.elim (fun q9 => absurd q9.1 (by decide)) (fun h9 => h9.elim (fun q9 => absurd q9.1 (by decide)) (fun h9 => h9.elim (fun q9 => absurd q9.1 (by decide)) (fun h9 => h9.elim (fun q9 => absurd q9.1 (by decide)) (fun h9 => h9.elim (fun q9 => absurd q9.1 (by decide)) (fun h9 => h9.elim (fun q9 => absurd q9.1 (by decide)) (fun h9 => h9.elim (fun q9 => absurd q9.1 (by decide)) (fun h9 => h9.elim (fun q9 => absurd q9.1 (by decide)) (fun h9 => h9.elim (fun q9 => absurd q9.1 (by decide)) (fun q9 => absurd q9.1 (by decide))))))))))))))) hI_110_ad26
  have hv_14 : hI S_10 111 (ad 26) = cI po := hf_12.fi (wm_26 (S := S) hW) (fun h9 => h9.elim (fun q9 => absurd q9.1 (by decide)) (fun h9 => h9.elim (fun q9 => absurd q9.1 (by decide)) (fun h9 => h9.elim (fun q9 => absurd q9.1 (by decide)) (fun h9 => h9.elim (fun q9 => absurd q9.1 (by decide)) (fun h9 => h9.elim (fun q9 => absurd q9.1 (by decide)) (fun h9 => h9.elim (fun q9 => absurd q9.1 (by decide)) (fun h9 => h9.elim (fun q9 => absurd q9.1 (by decide)) (fun h9 => h9.elim (fun q9 => absurd q9.1 (by decide)) (fun h9 => h9.elim (fun q9 => absurd q9.1 (by decide)) (fun h9 => h9.elim (fun q9 => absurd q9.1 (by decide)) (fun h9 => h9.elim (fun q9 => absurd q9.1 (by decide)) (fun h9 => h9.elim (fun q9 => absurd q9.1 (by decide)) (fun h9 => h9.elim (fun q9 => absurd q9.1 (by decide)) (fun q9 => absurd q9.1 (by decide))))))))))))))) hI_111_ad26
  have hv_15 : hI S_10 112 (ad 26) = 0 := hf_12.fi (wm_26 (S := S) hW) (fun h9 => h9.elim (fun q9 => absurd q9.1 (by decide)) (fun h9 => h9.elim (fun q9 => absurd q9.1 (by decide)) (fun h9 => h9.elim (fun q9 => absurd q9.1 (by decide)) (fun h9 => h9.elim (fun q9 => absurd q9.1 (by decide)) (fun h9 => h9.elim (fun q9 => absurd q9.1 (by decide)) (fun h9 => h9.elim (fun q9 => absurd q9.1 (by decide)) (fun h9 => h9.elim (fun q9 => absurd q9.1 (by decide)) (fun h9 => h9.elim (fun q9 => absurd q9.1 (by decide)) (fun h9 => h9.elim (fun q9 => absurd q9.1 (by decide)) (fun h9 => h9.elim (fun q9 => absurd q9.1 (by decide)) (fun h9 => h9.elim (fun q9 => absurd q9.1 (by decide)) (fun h9 => h9.elim (fun q9 => absurd q9.1 (by decide)) (fun h9 => h9.elim (fun q9 => absurd q9.1 (by decide)) (fun q9 => absurd q9.1 (by decide))))))))))))))) hI_112_ad26
  have hv_16 : hI S_10 113 (ad 26) = 0 := hf_12.fi (wm_26 (S := S) hW) (fun h9 => h9.elim (fun q9 => absurd q9.1 (by decide)) (fun h9 => h9.elim (fun q9 => absurd q9.1 (by decide)) (fun h9 => h9.elim (fun q9 => absurd q9.1 (by decide)) (fun h9 => h9.elim (fun q9 => absurd q9.1 (by decide)) (fun h9 => h9.elim (fun q9 => absurd q9.1 (by decide)) (fun h9 => h9.elim (fun q9 => absurd q9.1 (by decide)) (fun h9 => h9.elim (fun q9 => absurd q9.1 (by decide)) (fun h9 => h9.elim (fun q9 => absurd q9.1 (by decide)) (fun h9 => h9.elim (fun q9 => absurd q9.1 (by decide)) (fun h9 => h9.elim (fun q9 => absurd q9.1 (by decide)) (fun h9 => h9.elim (fun q9 => absurd q9.1 (by decide)) (fun h9 => h9.elim (fun q9 => absurd q9.1 (by decide)) (fun h9 => h9.elim (fun q9 => absurd q9.1 (by decide)) (fun q9 => absurd q9.1 (by decide))))))))))))))) hI_113_ad26
  have hv_17 : hI S_10 114 (ad 26) = nI bw := hf_12.fi (wm_26 (S := S) hW) (fun h9 => h9.elim (fun q9 => absurd q9.1 (by decide)) (fun h9 => h9.elim (fun q9 => absurd q9.1 (by decide)) (fun h9 => h9.elim (fun q9 => absurd q9.1 (by decide)) (fun h9 => h9.elim (fun q9 => absurd q9.1 (by decide)) (fun h9 => h9.elim (fun q9 => absurd q9.1 (by decide)) (fun h9 => h9.elim (fun q9 => absurd q9.1 (by decide)) (fun h9 => h9.elim (fun q9 => absurd q9.1 (by decide)) (fun h9 => h9.elim (fun q9 => absurd q9.1 (by decide)) (fun h9 => h9.elim (fun q9 => absurd q9.1 (by decide)) (fun h9 => h9.elim (fun q9 => absurd q9.1 (by decide)) (fun h9 => h9.elim (fun q9 => absurd q9.1 (by decide)) (fun h9 => h9.elim (fun q9 => absurd q9.1 (by decide)) (fun h9 => h9.elim (fun q9 => absurd q9.1 (by decide)) (fun q9 => absurd q9.1 (by decide))))))))))))))) hI_114_ad26
  have hv_18 : hI S_10 115 (ad 26) = nI bh := hf_12.fi (wm_26 (S := S) hW) (fun h9 => h9.elim (fun q9 => absurd q9.1 (by decide)) (fun h9 => h9.elim (fun q9 => absurd q9.1 (by decide)) (fun h9 => h9.elim (fun q9 => absurd q9.1 (by decide)) (fun h9 => h9.elim (fun q9 => absurd q9.1 (by decide)) (fun h9 => h9.elim (fun q9 => absurd q9.1 (by decide)) (fun h9 => h9.elim (fun q9 => absurd q9.1 (by decide)) (fun h9 => h9.elim (fun q9 => absurd q9.1 (by decide)) (fun h9 => h9.elim (fun q9 => absurd q9.1 (by decide)) (fun h9 => h9.elim (fun q9 => absurd q9.1 (by decide)) (fun h9 => h9.elim (fun q9 => absurd q9.1 (by decide)) (fun h9 => h9.elim (fun q9 => absurd q9.1 (by decide)) (fun h9 => h9.elim (fun q9 => absurd q9.1 (by decide)) (fun h9 => h9.elim (fun q9 => absurd q9.1 (by decide)) (fun q9 => absurd q9.1 (by decide))))))))))))))) hI_115_ad26
  have hv_19 : hI S_10 118 (ad 26) = nI pn := hf_12.fi (wm_26 (S := S) hW) (fun h9 => h9.elim (fun q9 => absurd q9.1 (by decide)) (fun h9 => h9.elim (fun q9 => absurd q9.1 (by decide)) (fun h9 => h9.elim (fun q9 => absurd q9.1 (by decide)) (fun h9 => h9.elim (fun q9 => absurd q9.1 (by decide)) (fun h9 => h9.elim (fun q9 => absurd q9.1 (by decide)) (fun h9 => h9.elim (fun q9 => absurd q9.1 (by decide)) (fun h9 => h9.elim (fun q9 => absurd q9.1 (by decide)) (fun h9 => h9.elim (fun q9 => absurd q9.1 (by decide)) (fun h9 => h9.elim (fun q9 => absurd q9.1 (by decide)) (fun h9 => h9.elim (fun q9 => absurd q9.1 (by decide)) (fun h9 => h9.elim (fun q9 => absurd q9.1 (by decide)) (fun h9 => h9.elim (fun q9 => absurd q9.1 (by decide)) (fun h9 => h9.elim (fun q9 => absurd q9.1 (by decide)) (fun q9 => absurd q9.1 (by decide))))))))))))))) hI_118_ad26
  have hv_20 : hI S_10 5 (ad 12) = 0 := hf_12.fi (wm_12 (S := S) hW) (fun h9 => h9.elim (fun q9 => absurd q9.1 (by decide)) (fun h9 => h9.elim (fun q9 => absurd q9.1 (by decide)) (fun h9 => h9.elim (fun q9 => absurd q9.1 (by decide)) (fun h9 => h9.elim (fun q9 => absurd q9.1 (by decide)) (fun h9 => h9.elim (fun q9 => absurd q9.1 (by decide)) (fun h9 => h9.elim (fun q9 => absurd q9.1 (by decide)) (fun h9 => h9.elim (fun q9 => absurd q9.1 (by decide)) (fun h9 => h9.elim (fun q9 => absurd q9.1 (by decide)) (fun h9 => h9.elim (fun q9 => absurd q9.1 (by decide)) (fun h9 => h9.elim (fun q9 => absurd q9.1 (by decide)) (fun h9 => h9.elim (fun q9 => absurd q9.1 (by decide)) (fun h9 => h9.elim (fun q9 => absurd q9.1 (by decide)) (fun h9 => h9.elim (fun q9 => absurd q9.1 (by decide)) (fun q9 => absurd q9.1 (by decide))))))))))))))) hI_5_ad12
  have hv_21 : hI S_10 503 (ad 35) = 42 := hf_12.fi (wm_35 (S := S) hW) (fun h9 => h9.elim (fun q9 => absurd q9.1 (by decide)) (fun h9 => h9.elim (fun q9 => absurd q9.1 (by decide)) (fun h9 => h9.elim (fun q9 => absurd q9.1 (by decide)) (fun h9 => h9.elim (fun q9 => absurd q9.1 (by decide)) (fun h9 => h9.elim (fun q9 => absurd q9.1 (by decide)) (fun h9 => h9.elim (fun q9 => absurd q9.1 (by decide)) (fun h9 => h9.elim (fun q9 => absurd q9.1 (by decide)) (fun h9 => h9.elim (fun q9 => absurd q9.1 (by decide)) (fun h9 => h9.elim (fun q9 => absurd q9.1 (by decide)) (fun h9 => h9.elim (fun q9 => absurd q9.1 (by decide)) (fun h9 => h9.elim (fun q9 => absurd q9.1 (by decide)) (fun h9 => h9.elim (fun q9 => absurd q9.1 (by decide)) (fun h9 => h9.elim (fun q9 => absurd q9.1 (by decide)) (fun q9 => absurd q9.1 (by decide))))))))))))))) hI_503_ad35
  have hv_22 : hI S_10 504 (ad 35) = 99 := hf_12.fi (wm_35 (S := S) hW) (fun h9 => h9.elim (fun q9 => absurd q9.1 (by decide)) (fun h9 => h9.elim (fun q9 => absurd q9.1 (by decide)) (fun h9 => h9.elim (fun q9 => absurd q9.1 (by decide)) (fun h9 => h9.elim (fun q9 => absurd q9.1 (by decide)) (fun h9 => h9.elim (fun q9 => absurd q9.1 (by decide)) (fun h9 => h9.elim (fun q9 => absurd q9.1 (by decide)) (fun h9 => h9.elim (fun q9 => absurd q9.1 (by decide)) (fun h9 => h9.elim (fun q9 => absurd q9.1 (by decide)) (fun h9 => h9.elim (fun q9 => absurd q9.1 (by decide)) (fun h9 => h9.elim (fun q9 => absurd q9.1 (by decide)) (fun h9 => h9.elim (fun q9 => absurd q9.1 (by decide)) (fun h9 => h9.elim (fun q9 => absurd q9.1 (by decide)) (fun h9 => h9.elim (fun q9 => absurd q9.1 (by decide)) (fun q9 => absurd q9.1 (by decide))))))))))))))) hI_504_ad35
  have hv_23 : hI S_10 505 (ad 35) = 80 := hf_12.fi (wm_35 (S := S) hW) (fun h9 => h9.elim (fun q9 => absurd q9.1 (by decide)) (fun h9 => h9.elim (fun q9 => absurd q9.1 (by decide)) (fun h9 => h9.elim (fun q9 => absurd q9.1 (by decide)) (fun h9 => h9.elim (fun q9 => absurd q9.1 (by decide)) (fun h9 => h9.elim (fun q9 => absurd q9.1 (by decide)) (fun h9 => h9.elim (fun q9 => absurd q9.1 (by decide)) (fun h9 => h9.elim (fun q9 => absurd q9.1 (by decide)) (fun h9 => h9.elim (fun q9 => absurd q9.1 (by decide)) (fun h9 => h9.elim (fun q9 => absurd q9.1 (by decide)) (fun h9 => h9.elim (fun q9 => absurd q9.1 (by decide)) (fun h9 => h9.elim (fun q9 => absurd q9.1 (by decide)) (fun h9 => h9.elim (fun q9 => absurd q9.1 (by decide)) (fun h9 => h9.elim (fun q9 => absurd q9.1 (by decide)) (fun q9 => absurd q9.1 (by decide))))))))))))))) hI_505_ad35
  have hv_24 : hI S_10 508 (ad 35) = 0 := hf_12.fi (wm_35 (S := S) hW) (fun h9 => h9.elim (fun q9 => absurd q9.1 (by decide)) (fun h9 => h9.elim (fun q9 => absurd q9.1 (by decide)) (fun h9 => h9.elim (fun q9 => absurd q9.1 (by decide)) (fun h9 => h9.elim (fun q9 => absurd q9.1 (by decide)) (fun h9 => h9.elim (fun q9 => absurd q9.1 (by decide)) (fun h9 => h9.elim (fun q9 => absurd q9.1 (by decide)) (fun h9 => h9.elim (fun q9 => absurd q9.1 (by decide)) (fun h9 => h9.elim (fun q9 => absurd q9.1 (by decide)) (fun h9 => h9.elim (fun q9 => absurd q9.1 (by decide)) (fun h9 => h9.elim (fun q9 => absurd q9.1 (by decide)) (fun h9 => h9.elim (fun q9 => absurd q9.1 (by decide)) (fun h9 => h9.elim (fun q9 => absurd q9.1 (by decide)) (fun h9 => h9.elim (fun q9 => absurd q9.1 (by decide)) (fun q9 => absurd q9.1 (by decide))))))))))))))) hI_508_ad35
  have hv_25 : hI S_10 509 (ad 35) = 2 := hf_12.fi (wm_35 (S := S) hW) (fun h9 => h9.elim (fun q9 => absurd q9.1 (by decide)) (fun h9 => h9.elim (fun q9 => absurd q9.1 (by decide)) (fun h9 => h9.elim (fun q9 => absurd q9.1 (by decide)) (fun h9 => h9.elim (fun q9 => absurd q9.1 (by decide)) (fun h9 => h9.elim (fun q9 => absurd q9.1 (by decide)) (fun h9 => h9.elim (fun q9 => absurd q9.1 (by decide)) (fun h9 => h9.elim (fun q9 => absurd q9.1 (by decide)) (fun h9 => h9.elim (fun q9 => absurd q9.1 (by decide)) (fun h9 => h9.elim (fun q9 => absurd q9.1 (by decide)) (fun h9 => h9.elim (fun q9 => absurd q9.1 (by decide)) (fun h9 => h9.elim (fun q9 => absurd q9.1 (by decide)) (fun h9 => h9.elim (fun q9 => absurd q9.1 (by decide)) (fun h9 => h9.elim (fun q9 => absurd q9.1 (by decide)) (fun q9 => absurd q9.1 (by decide))))))))))))))) hI_509_ad35
  have hv_26 : hI S_10 603 (ad 5) = 0 := hf_12.fi (wm_5 (S := S) hW) (fun h9 => h9.elim (fun q9 => absurd q9.1 (by decide)) (fun h9 => h9.elim (fun q9 => absurd q9.1 (by decide)) (fun h9 => h9.elim (fun q9 => absurd q9.1 (by decide)) (fun h9 => h9.elim (fun q9 => absurd q9.1 (by decide)) (fun h9 => h9.elim (fun q9 => absurd q9.1 (by decide)) (fun h9 => h9.elim (fun q9 => absurd q9.1 (by decide)) (fun h9 => h9.elim (fun q9 => absurd q9.1 (by decide)) (fun h9 => h9.elim (fun q9 => absurd q9.1 (by decide)) (fun h9 => h9.elim (fun q9 => absurd q9.1 (by decide)) (fun h9 => h9.elim (fun q9 => absurd q9.1 (by decide)) (fun h9 => h9.elim (fun q9 => absurd q9.1 (by decide)) (fun h9 => h9.elim (fun q9 => absurd q9.1 (by decide)) (fun h9 => h9.elim (fun q9 => absurd q9.1 (by decide)) (fun q9 => absurd q9.1 (by decide))))))))))))))) hI_603_ad5
  have hv_27 : hI S_10 700 (ad 27) = 0 := hf_12.fi (wm_27 (S := S) hW) (fun h9 => h9.elim (fun q9 => absurd q9.1 (by decide)) (fun h9 => h9.elim (fun q9 => absurd q9.1 (by decide)) (fun h9 => h9.elim (fun q9 => absurd q9.1 (by decide)) (fun h9 => h9.elim (fun q9 => absurd q9.1 (by decide)) (fun h9 => h9.elim (fun q9 => absurd q9.1 (by decide)) (fun h9 => h9.elim (fun q9 => absurd q9.1 (by decide)) (fun h9 => h9.elim (fun q9 => absurd q9.1 (by decide)) (fun h9 => h9.elim (fun q9 => absurd q9.1 (by decide)) (fun h9 => h9.elim (fun q9 => absurd q9.1 (by decide)) (fun h9 => h9.elim (fun q9 => absurd q9.1 (by decide)) (fun h9 => h9.elim (fun q9 => absurd q9.1 (by decide)) (fun h9 => h9.elim (fun q9 => absurd q9.1 (by decide)) (fun h9 => h9.elim (fun q9 => absurd q9.1 (by decide)) (fun q9 => absurd q9.1 (by decide))))))))))))))) hI_700_ad27
  have hv_28 : hI S_10 701 (ad 27) = 0 := hf_12.fi (wm_27 (S := S) hW) (fun h9 => h9.elim (fun q9 => absurd q9.1 (by decide)) (fun h9 => h9.elim (fun q9 => absurd q9.1 (by decide)) (fun h9 => h9.elim (fun q9 => absurd q9.1 (by decide)) (fun h9 => h9.elim (fun q9 => absurd q9.1 (by decide)) (fun h9 => h9.elim (fun q9 => absurd q9.1 (by decide)) (fun h9 => h9.elim (fun q9 => absurd q9.1 (by decide)) (fun h9 => h9.elim (fun q9 => absurd q9.1 (by decide)) (fun h9 => h9.elim (fun q9 => absurd q9.1 (by decide)) (fun h9 => h9.elim (fun q9 => absurd q9.1 (by decide)) (fun h9 => h9.elim (fun q9 => absurd q9.1 (by decide)) (fun h9 => h9.elim (fun q9 => absurd q9.1 (by decide)) (fun h9 => h9.elim (fun q9 => absurd q9.1 (by decide)) (fun h9 => h9.elim (fun q9 => absurd q9.1 (by decide)) (fun q9 => absurd q9.1 (by decide))))))))))))))) hI_701_ad27
  have hv_29 : hI S_10 706 (ad 27) = nI xu := hf_12.fi (wm_27 (S := S) hW) (fun h9 => h9.elim (fun q9 => absurd q9.1 (by decide)) (fun h9 => h9.elim (fun q9 => absurd q9.1 (by decide)) (fun h9 => h9.elim (fun q9 => absurd q9.1 (by decide)) (fun h9 => h9.elim (fun q9 => absurd q9.1 (by decide)) (fun h9 => h9.elim (fun q9 => absurd q9.1 (by decide)) (fun h9 => h9.elim (fun q9 => absurd q9.1 (by decide)) (fun h9 => h9.elim (fun q9 => absurd q9.1 (by decide)) (fun h9 => h9.elim (fun q9 => absurd q9.1 (by decide)) (fun h9 => h9.elim (fun q9 => absurd q9.1 (by decide)) (fun h9 => h9.elim (fun q9 => absurd q9.1 (by decide)) (fun h9 => h9.elim (fun q9 => absurd q9.1 (by decide)) (fun h9 => h9.elim (fun q9 => absurd q9.1 (by decide)) (fun h9 => h9.elim (fun q9 => absurd q9.1 (by decide)) (fun q9 => absurd q9.1 (by decide))))))))))))))) hI_706_ad27
  have hv_30 : hI S_10 707 (ad 27) = nI yu := hf_12.fi (wm_27 (S := S) hW) (fun h9 => h9.elim (fun q9 => absurd q9.1 (by decide)) (fun h9 => h9.elim (fun q9 => absurd q9.1 (by decide)) (fun h9 => h9.elim (fun q9 => absurd q9.1 (by decide)) (fun h9 => h9.elim (fun q9 => absurd q9.1 (by decide)) (fun h9 => h9.elim (fun q9 => absurd q9.1 (by decide)) (fun h9 => h9.elim (fun q9 => absurd q9.1 (by decide)) (fun h9 => h9.elim (fun q9 => absurd q9.1 (by decide)) (fun h9 => h9.elim (fun q9 => absurd q9.1 (by decide)) (fun h9 => h9.elim (fun q9 => absurd q9.1 (by decide)) (fun h9 => h9.elim (fun q9 => absurd q9.1 (by decide)) (fun h9 => h9.elim (fun q9 => absurd q9.1 (by decide)) (fun h9 => h9.elim (fun q9 => absurd q9.1 (by decide)) (fun h9 => h9.elim (fun q9 => absurd q9.1 (by decide)) (fun q9 => absurd q9.1 (by decide))))))))))))))) hI_707_ad27
  have hv_31 : hI S_10 916 (ad 6) = nI gn := hf_12.fi (wm_6 (S := S) hW) (fun h9 => h9.elim (fun q9 => absurd q9.1 (by decide)) (fun h9 => h9.elim (fun q9 => absurd q9.1 (by decide)) (fun h9 => h9.elim (fun q9 => absurd q9.1 (by decide)) (fun h9 => h9.elim (fun q9 => absurd q9.1 (by decide)) (fun h9 => h9.elim (fun q9 => absurd q9.1 (by decide)) (fun h9 => h9.elim (fun q9 => absurd q9.1 (by decide)) (fun h9 => h9.elim (fun q9 => absurd q9.1 (by decide)) (fun h9 => h9.elim (fun q9 => absurd q9.1 (by decide)) (fun h9 => h9.elim (fun q9 => absurd q9.1 (by decide)) (fun h9 => h9.elim (fun q9 => absurd q9.1 (by decide)) (fun h9 => h9.elim (fun q9 => absurd q9.1 (by decide)) (fun h9 => h9.elim (fun q9 => absurd q9.1 (by decide)) (fun h9 => h9.elim (fun q9 => absurd q9.1 (by decide)) (fun q9 => absurd q9.1 (by decide))))))))))))))) hI_916_ad6
  have hv_32 : hR S_10 913 (ad 6) = (some (ad 35)) := hf_12.fr (wm_6 (S := S) hW) (fun q9 => absurd q9.1 (by decide)) hR_913_ad6
  have hf_33 : Fm (fun f9 b9 => (f9 = 1000 ∧ b9 = (ad 24)) ∨ (f9 = 1001 ∧ b9 = (ad 24)) ∨ (f9 = 1002 ∧ b9 = (ad 24)) ∨ (f9 = 2 ∧ b9 = (ad 12)) ∨ (f9 = 3 ∧ b9 = (ad 12)) ∨ (f9 = 4 ∧ b9 = (ad 12)) ∨ (f9 = 6 ∧ b9 = (ad 12)) ∨ (f9 = 7 ∧ b9 = (ad 12)) ∨ (f9 = 8 ∧ b9 = (ad 12)) ∨ (f9 = 9 ∧ b9 = (ad 12)) ∨ (f9 = 11 ∧ b9 = (ad 12)) ∨ (f9 = 12 ∧ b9 = (ad 12)) ∨ (f9 = 13 ∧ b9 = (ad 12)) ∨ (f9 = 14 ∧ b9 = (ad 12))) (fun f9 b9 => (f9 = 10 ∧ b9 = (ad 12))) (fun b9 => b9 = (ad 25) ∨ b9 = (ad 14) ∨ b9 = (ad 13)) S S_10 := (Fm.refl (WI := (fun f9 b9 => (f9 = 1000 ∧ b9 = (ad 24)) ∨ (f9 = 1001 ∧ b9 = (ad 24)) ∨ (f9 = 1002 ∧ b9 = (ad 24)) ∨ (f9 = 2 ∧ b9 = (ad 12)) ∨ (f9 = 3 ∧ b9 = (ad 12)) ∨ (f9 = 4 ∧ b9 = (ad 12)) ∨ (f9 = 6 ∧ b9 = (ad 12)) ∨ (f9 = 7 ∧ b9 = (ad 12)) ∨ (f9 = 8 ∧ b9 = (ad 12)) ∨ (f9 = 9 ∧ b9 = (ad 12)) ∨ (f9 = 11 ∧ b9 = (ad 12)) ∨ (f9 = 12 ∧ b9 = (ad 12)) ∨ (f9 = 13 ∧ b9 = (ad 12)) ∨ (f9 = 14 ∧ b9 = (ad 12)))) (WR := (fun f9 b9 => (f9 = 10 ∧ b9 = (ad 12)))) (WA := (fun b9 => b9 = (ad 25) ∨ b9 = (ad 14) ∨ b9 = (ad 13)))).then hf_12 (fun a9 ha9 => ⟨(fun f9 h9 => (fun h9 => h9.elim (fun h8 => (Or.inl h8)) (fun h9 => h9.elim (fun h8 => (Or.inr (Or.inl h8))) (fun h9 => h9.elim (fun h8 => (Or.inr (Or.inr (Or.inl h8)))) (fun h9 => h9.elim (fun h8 => (Or.inr (Or.inr (Or.inr (Or.inl h8))))) (fun h9 => h9.elim (fun h8 => (Or.inr (Or.inr (Or.inr (Or.inr (Or.inl h8)))))) (fun h9 => h9.elim (fun h8 => (Or.inr (Or.inr (Or.inr (Or.inr (Or.inr (Or.inl h8))))))) (fun h9 => h9.elim (fun h8 => (Or.inr (Or.inr (Or.inr (Or.inr (Or.inr (Or.inr (Or.inl h8)))))))) (fun h9 => h9.elim (fun h8 => (Or.inr (Or.inr (Or.inr (Or.inr (Or.inr (Or.inr (Or.inr (Or.inl h8))))))))) (fun h9 => h9.elim (fun h8 => (Or.inr (Or.inr (Or.inr (Or.inr (Or.inr (Or.inr (Or.inr (Or.inr (Or.inl h8)))))))))) (fun h9 => h9.elim (fun h8 => (Or.inr (Or.inr (Or.inr (Or.inr (Or.inr (Or.inr (Or.inr (Or.inr (Or.inr (Or.inl h8))))))))))) (fun h9 => h9.elim (fun h8 => (Or.inr (Or.inr (Or.inr (Or.inr (Or.inr (Or.inr (Or.inr (Or.inr (Or.inr (Or.inr (Or.inl h8)))))))))))) (fun h9 => h9.elim (fun h8 => (Or.inr (Or.inr (Or.inr (Or.inr (Or.inr (Or.inr (Or.inr (Or.inr (Or.inr (Or.inr (Or.inr (Or.inl h8))))))))))))) (fun h9 => h9.elim (fun h8 => (Or.inr (Or.inr (Or.inr (Or.inr (Or.inr (Or.inr (Or.inr (Or.inr (Or.inr (Or.inr (Or.inr (Or.inr (Or.inl h8)))))))))))))) (fun h8 => (Or.inr (Or.inr (Or.inr (Or.inr (Or.inr (Or.inr (Or.inr (Or.inr (Or.inr (Or.inr (Or.inr (Or.inr (Or.inr h8))))))))))))))))))))))))))) h9), (fun f9 h9 => (fun h8 => h8) h9), (fun h9 => (fun h9 => h9.elim (fun h8 => (Or.inl h8)) (fun h9 => h9.elim (fun h8 => (Or.inr (Or.inl h8))) (fun h8 => (Or.inr (Or.inr h8))))) h9)⟩)
  have hW_34 : Wd ad S_10 := hW.fm hf_12 (by intro p9 hp9 h9; obtain ⟨e1, e2⟩ := h9 <;> exact wp_dyn p9 hp9 (by rw [e1]; decide)) (by intro p9 hp9; simp only [wqL, List.mem_cons, List.not_mem_nil, or_false] at hp9; rcases hp9 with rfl | rfl <;> intro h9 <;> rcases h9 with h9 | h9 | h9 <;> exact absurd h9 (wn hW (by decide) (by decide) (by decide)))
  refine j_goto (tgt := 294) C dX9_obey_231 (by decide) ?_
  show J _ _ _ _ _ 294 _
  exact j_vret C M dX9_obey_294 (Nat.le_of_ble_eq_true rfl) (Nat.le_of_ble_eq_true rfl) ⟨rfl, hf_33, e_5, e_6, e_7, x_8⟩
