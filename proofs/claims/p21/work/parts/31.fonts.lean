theorem dJ9_abs_0f7a4_0 : decode cJ9_abs_0f7a4 0 = .ok (.iload_n 0, 1) := by decide +kernel
theorem dJ9_abs_0f7a4_1 : decode cJ9_abs_0f7a4 1 = .ok (.ifCond .ge 8, 3) := by decide +kernel
theorem dJ9_abs_0f7a4_4 : decode cJ9_abs_0f7a4 4 = .ok (.iload_n 0, 1) := by decide +kernel
theorem dJ9_abs_0f7a4_5 : decode cJ9_abs_0f7a4 5 = .ok (.ineg, 1) := by decide +kernel
theorem dJ9_abs_0f7a4_6 : decode cJ9_abs_0f7a4 6 = .ok (.goto 4, 3) := by decide +kernel
theorem dJ9_abs_0f7a4_9 : decode cJ9_abs_0f7a4 9 = .ok (.iload_n 0, 1) := by decide +kernel
theorem dJ9_abs_0f7a4_10 : decode cJ9_abs_0f7a4 10 = .ok (.ireturn, 1) := by decide +kernel

set_option maxRecDepth 100000 in
set_option maxHeartbeats 4000000 in
theorem c_J9_abs_0f7a4 (S : Hp) (x0 : Int32) : Ct 1 yJ9_abs_0f7a4 cJ9_abs_0f7a4 1 (some .int) 0 0 [.int x0] S (fun r S' => r = some (.int (if x0 < 0 then -x0 else x0)) ∧ S' = S) := by
  refine ct_ofF (by decide +kernel) (Nat.le_of_ble_eq_true rfl) fun x hn9 C M hm9 => ?_
  have C : CB x RJ9 cJ9_abs_0f7a4 := C
  refine J.eq (lv' := [(0, .int x0)]) rfl rfl rfl ?_
  refine j_iload_n C dJ9_abs_0f7a4_0 rfl 0 rfl ?_
  refine j_if_ge (tgt := 9) C dJ9_abs_0f7a4_1 (by decide) (fun c_1 => ?_) (fun c_1 => ?_)
  · skip
    refine j_iload_n C dJ9_abs_0f7a4_9 rfl 0 rfl ?_
    exact j_iret C M dJ9_abs_0f7a4_10 (by decide) (by decide) ⟨congrArg (fun z9 => some (Value.int z9)) (by first | exact (if_pos c_1).symm | exact (if_neg c_1).symm | exact (if_pos (Int32.not_le.mp c_1)).symm | exact (if_neg (Int32.not_lt.mpr c_1)).symm), rfl⟩
  · skip
    refine j_iload_n C dJ9_abs_0f7a4_4 rfl 0 rfl ?_
    refine j_ineg C dJ9_abs_0f7a4_5 rfl ?_
    refine j_goto (tgt := 10) C dJ9_abs_0f7a4_6 (by decide) ?_
    exact j_iret C M dJ9_abs_0f7a4_10 (by decide) (by decide) ⟨congrArg (fun z9 => some (Value.int z9)) (by first | exact (if_pos c_1).symm | exact (if_neg c_1).symm | exact (if_pos (Int32.not_le.mp c_1)).symm | exact (if_neg (Int32.not_lt.mpr c_1)).symm), rfl⟩

set_option maxRecDepth 100000 in
set_option maxHeartbeats 4000000 in
theorem c_hasf (S : Hp) (ad : Nat → Nat) (hW : Wd ad S) (v : Int32) (z_ad17 : ∀ j, aI S (ad 17) j = 0) : Ct 1 yX8_has cX8_has 2 (some .boolean) 0 0 [.ref (ad 16), .int v] S (fun r S' => r = some (.int 0) ∧ S' = S) := by
  refine ct_of (by decide) (Nat.le_of_ble_eq_true rfl) fun x hn9 C M hm9 => ?_
  have C : CB x RX8 cX8_has := C
  refine J.eq (lv' := [(0, .ref (ad 16)), (1, .int v)]) rfl rfl rfl ?_
  refine j_iload_n C dX8_has_0 rfl 1 rfl ?_
  refine j_if_lt (tgt := 23) C dX8_has_1 (by decide) (fun c_1 => ?_) (fun c_1 => ?_)
  · skip
    refine j_iconst (v := 0) C dX8_has_23 (by decide) ?_
    exact j_zret C M rfl dX8_has_24 (by decide) (by decide) ⟨rfl, rfl⟩
  · skip
    refine j_iload_n C dX8_has_4 rfl 1 rfl ?_
    refine j_bipush (v := 16) C dX8_has_5 (by decide) ?_
    refine j_ic_ge (tgt := 23) C dX8_has_7 (by decide) (fun c_7 => ?_) (fun c_7 => ?_)
    · skip
      refine j_iconst (v := 0) C dX8_has_23 (by decide) ?_
      exact j_zret C M rfl dX8_has_24 (by decide) (by decide) ⟨rfl, rfl⟩
    · skip
      refine j_aload_n C dX8_has_10 rfl 0 rfl ?_
      refine j_getr (f := 800) (v := (ad 17)) C flX8_9 dX8_has_11 (wm_16 (S := S) hW) (wk_16 (S := S) hW) (by decide) rfl (wr_800_16 (S := S) hW) ?_
      refine j_iload_n C dX8_has_14 rfl 1 rfl ?_
      show J _ _ _ _ _ 15 _
      refine j_iald (j := (Int32.toNatClampNeg v)) (v := 0) C dX8_has_15 (wm_17 (S := S) hW) (wk_17 (S := S) hW) (inr_of (n := 16) (wl_17 (S := S) hW) (vp_ge c_1 c_7)) rfl (z_ad17 _) ?_
      refine j_if_eq (tgt := 23) C dX8_has_16 (by decide) (fun c9 => ?_) (fun c9 => absurd (by decide) c9)
      refine j_iconst (v := 0) C dX8_has_23 (by decide) ?_
      exact j_zret C M rfl dX8_has_24 (by decide) (by decide) ⟨rfl, rfl⟩

theorem dX8_isTemporary_0 : decode cX8_isTemporary 0 = .ok (.aload_n 0, 1) := by decide +kernel
theorem dX8_isTemporary_1 : decode cX8_isTemporary 1 = .ok (.iload_n 1, 1) := by decide +kernel
theorem dX8_isTemporary_2 : decode cX8_isTemporary 2 = .ok (.invokevirtual 13, 3) := by decide +kernel
theorem dX8_isTemporary_5 : decode cX8_isTemporary 5 = .ok (.ifCond .eq 17, 3) := by decide +kernel
theorem dX8_isTemporary_8 : decode cX8_isTemporary 8 = .ok (.aload_n 0, 1) := by decide +kernel
theorem dX8_isTemporary_9 : decode cX8_isTemporary 9 = .ok (.getfield 9, 3) := by decide +kernel
theorem dX8_isTemporary_12 : decode cX8_isTemporary 12 = .ok (.iload_n 1, 1) := by decide +kernel
theorem dX8_isTemporary_13 : decode cX8_isTemporary 13 = .ok (.iaload, 1) := by decide +kernel
theorem dX8_isTemporary_14 : decode cX8_isTemporary 14 = .ok (.iconst 1, 1) := by decide +kernel
theorem dX8_isTemporary_15 : decode cX8_isTemporary 15 = .ok (.if_icmp .ne 7, 3) := by decide +kernel
theorem dX8_isTemporary_18 : decode cX8_isTemporary 18 = .ok (.iconst 1, 1) := by decide +kernel
theorem dX8_isTemporary_19 : decode cX8_isTemporary 19 = .ok (.goto 4, 3) := by decide +kernel
theorem dX8_isTemporary_22 : decode cX8_isTemporary 22 = .ok (.iconst 0, 1) := by decide +kernel
theorem dX8_isTemporary_23 : decode cX8_isTemporary 23 = .ok (.ireturn, 1) := by decide +kernel

set_option maxRecDepth 100000 in
set_option maxHeartbeats 4000000 in
theorem c_X8_isTemporary (S : Hp) (ad : Nat → Nat) (hW : Wd ad S) (v : Int32) (z_ad17 : ∀ j, aI S (ad 17) j = 0) : Ct 2 yX8_isTemporary cX8_isTemporary 2 (some .boolean) 0 0 [.ref (ad 16), .int v] S (fun r S' => r = some (.int 0) ∧ S' = S) := by
  refine ct_of (by decide) (Nat.le_of_ble_eq_true rfl) fun x hn9 C M hm9 => ?_
  have C : CB x RX8 cX8_isTemporary := C
  refine J.eq (lv' := [(0, .ref (ad 16)), (1, .int v)]) rfl rfl rfl ?_
  refine j_aload_n C dX8_isTemporary_0 rfl 0 rfl ?_
  refine j_iload_n C dX8_isTemporary_1 rfl 1 rfl ?_
  refine j_callV (ci := 8) C [.int v] [] mlX8_13 mcX8_has (c_hasf S ad hW v z_ad17) (wm_16 (S := S) hW) (wk_16 (S := S) hW) rfl (M.rm (by decide) (by decide) (Nat.le_of_ble_eq_true rfl) (Nat.le_of_ble_eq_true rfl)) rfl rfl (Nat.le_of_ble_eq_true rfl) dX8_isTemporary_2 (fun r_1 S_2 hp_3 => ?_)
  obtain ⟨rfl, e_4⟩ := hp_3
  refine J.eq (S' := S) (st' := [.int 0]) (lv' := [(0, .ref (ad 16)), (1, .int v)]) e_4 rfl rfl ?_
  refine j_if_eq (tgt := 22) C dX8_isTemporary_5 (by decide) (fun c9 => ?_) (fun c9 => absurd (by decide) c9)
  refine j_iconst (v := 0) C dX8_isTemporary_22 (by decide) ?_
  exact j_zret C M rfl dX8_isTemporary_23 (Nat.le_of_ble_eq_true rfl) (Nat.le_of_ble_eq_true rfl) ⟨rfl, rfl⟩

theorem dX8_removeMany_0 : decode cX8_removeMany 0 = .ok (.iconst 0, 1) := by decide +kernel
theorem dX8_removeMany_1 : decode cX8_removeMany 1 = .ok (.istore_n 2, 1) := by decide +kernel
theorem dX8_removeMany_2 : decode cX8_removeMany 2 = .ok (.iload_n 2, 1) := by decide +kernel
theorem dX8_removeMany_3 : decode cX8_removeMany 3 = .ok (.bipush 16, 2) := by decide +kernel
theorem dX8_removeMany_5 : decode cX8_removeMany 5 = .ok (.if_icmp .ge 30, 3) := by decide +kernel
theorem dX8_removeMany_8 : decode cX8_removeMany 8 = .ok (.iload_n 1, 1) := by decide +kernel
theorem dX8_removeMany_9 : decode cX8_removeMany 9 = .ok (.ifCond .eq 13, 3) := by decide +kernel
theorem dX8_removeMany_12 : decode cX8_removeMany 12 = .ok (.aload_n 0, 1) := by decide +kernel
theorem dX8_removeMany_13 : decode cX8_removeMany 13 = .ok (.getfield 9, 3) := by decide +kernel
theorem dX8_removeMany_16 : decode cX8_removeMany 16 = .ok (.iload_n 2, 1) := by decide +kernel
theorem dX8_removeMany_17 : decode cX8_removeMany 17 = .ok (.iaload, 1) := by decide +kernel
theorem dX8_removeMany_18 : decode cX8_removeMany 18 = .ok (.iconst 1, 1) := by decide +kernel
theorem dX8_removeMany_19 : decode cX8_removeMany 19 = .ok (.if_icmp .ne 10, 3) := by decide +kernel
theorem dX8_removeMany_22 : decode cX8_removeMany 22 = .ok (.aload_n 0, 1) := by decide +kernel
theorem dX8_removeMany_23 : decode cX8_removeMany 23 = .ok (.getfield 9, 3) := by decide +kernel
theorem dX8_removeMany_26 : decode cX8_removeMany 26 = .ok (.iload_n 2, 1) := by decide +kernel
theorem dX8_removeMany_27 : decode cX8_removeMany 27 = .ok (.iconst 0, 1) := by decide +kernel
theorem dX8_removeMany_28 : decode cX8_removeMany 28 = .ok (.iastore, 1) := by decide +kernel
theorem dX8_removeMany_29 : decode cX8_removeMany 29 = .ok (.iinc 2 1, 3) := by decide +kernel
theorem dX8_removeMany_32 : decode cX8_removeMany 32 = .ok (.goto (-30), 3) := by decide +kernel
theorem dX8_removeMany_35 : decode cX8_removeMany 35 = .ok (.return_, 1) := by decide +kernel

set_option maxRecDepth 100000 in
set_option maxHeartbeats 4000000 in
theorem c_rmt (S : Hp) (ad : Nat → Nat) (hW : Wd ad S) (z_ad21 : ∀ j, aI S (ad 21) j = 0) : Ct 2 yX8_removeMany cX8_removeMany 3 none 0 0 [.ref (ad 20), .int 1] S (fun r S' => r = none ∧ S' = S) := by
  refine ct_of (by decide) (Nat.le_of_ble_eq_true rfl) fun x hn9 C M hm9 => ?_
  have C : CB x RX8 cX8_removeMany := C
  refine J.eq (lv' := [(0, .ref (ad 20)), (1, .int 1)]) rfl rfl rfl ?_
  refine j_iconst (v := 0) C dX8_removeMany_0 (by decide) ?_
  refine j_istore_n (lv' := [(2, .int 0), (0, .ref (ad 20)), (1, .int 1)]) C dX8_removeMany_1 rfl (by rw [hn9]; decide) rfl ?_
  refine j_iload_n C dX8_removeMany_2 rfl 0 rfl ?_
  refine j_bipush (v := 16) C dX8_removeMany_3 (by decide) ?_
  refine j_ic_ge (tgt := 35) C dX8_removeMany_5 (by decide) (fun c9 => absurd c9 (by decide)) (fun c9 => ?_)
  refine j_iload_n C dX8_removeMany_8 rfl 2 rfl ?_
  refine j_if_eq (tgt := 22) C dX8_removeMany_9 (by decide) (fun c9 => absurd c9 (by decide)) (fun c9 => ?_)
  refine j_aload_n C dX8_removeMany_12 rfl 1 rfl ?_
  show J _ _ _ _ _ 13 _
  refine j_getr (f := 800) (v := (ad 21)) C flX8_9 dX8_removeMany_13 (wm_20 (S := S) hW) (wk_20 (S := S) hW) (by decide) rfl (wr_800_20 (S := S) hW) ?_
  refine j_iload_n C dX8_removeMany_16 rfl 0 rfl ?_
  refine j_iald (j := 0) (v := 0) C dX8_removeMany_17 (wm_21 (S := S) hW) (wk_21 (S := S) hW) (inr_of (n := 16) (wl_21 (S := S) hW) (vp_lit (by decide))) (by decide) (z_ad21 _) ?_
  refine j_iconst (v := 1) C dX8_removeMany_18 (by decide) ?_
  refine j_ic_ne (tgt := 29) C dX8_removeMany_19 (by decide) (fun c9 => ?_) (fun c9 => absurd c9 (by decide))
  refine j_iinc (q := 0) (v := 1) (lv' := [(2, .int 1), (0, .ref (ad 20)), (1, .int 1)]) C dX8_removeMany_29 rfl (by decide) (by rw [hn9]; decide) rfl ?_
  refine j_goto (tgt := 2) C dX8_removeMany_32 (by decide) ?_
  refine j_iload_n C dX8_removeMany_2 rfl 0 rfl ?_
  show J _ _ _ _ _ 3 _
  refine j_bipush (v := 16) C dX8_removeMany_3 (by decide) ?_
  refine j_ic_ge (tgt := 35) C dX8_removeMany_5 (by decide) (fun c9 => absurd c9 (by decide)) (fun c9 => ?_)
  refine j_iload_n C dX8_removeMany_8 rfl 2 rfl ?_
  refine j_if_eq (tgt := 22) C dX8_removeMany_9 (by decide) (fun c9 => absurd c9 (by decide)) (fun c9 => ?_)
  refine j_aload_n C dX8_removeMany_12 rfl 1 rfl ?_
  refine j_getr (f := 800) (v := (ad 21)) C flX8_9 dX8_removeMany_13 (wm_20 (S := S) hW) (wk_20 (S := S) hW) (by decide) rfl (wr_800_20 (S := S) hW) ?_
  refine j_iload_n C dX8_removeMany_16 rfl 0 rfl ?_
  refine j_iald (j := 1) (v := 0) C dX8_removeMany_17 (wm_21 (S := S) hW) (wk_21 (S := S) hW) (inr_of (n := 16) (wl_21 (S := S) hW) (vp_lit (by decide))) (by decide) (z_ad21 _) ?_
  show J _ _ _ _ _ 18 _
  refine j_iconst (v := 1) C dX8_removeMany_18 (by decide) ?_
  refine j_ic_ne (tgt := 29) C dX8_removeMany_19 (by decide) (fun c9 => ?_) (fun c9 => absurd c9 (by decide))
  refine j_iinc (q := 0) (v := 2) (lv' := [(2, .int 2), (0, .ref (ad 20)), (1, .int 1)]) C dX8_removeMany_29 rfl (by decide) (by rw [hn9]; decide) rfl ?_
  refine j_goto (tgt := 2) C dX8_removeMany_32 (by decide) ?_
  refine j_iload_n C dX8_removeMany_2 rfl 0 rfl ?_
  refine j_bipush (v := 16) C dX8_removeMany_3 (by decide) ?_
  refine j_ic_ge (tgt := 35) C dX8_removeMany_5 (by decide) (fun c9 => absurd c9 (by decide)) (fun c9 => ?_)
  refine j_iload_n C dX8_removeMany_8 rfl 2 rfl ?_
  show J _ _ _ _ _ 9 _
  refine j_if_eq (tgt := 22) C dX8_removeMany_9 (by decide) (fun c9 => absurd c9 (by decide)) (fun c9 => ?_)
  refine j_aload_n C dX8_removeMany_12 rfl 1 rfl ?_
  refine j_getr (f := 800) (v := (ad 21)) C flX8_9 dX8_removeMany_13 (wm_20 (S := S) hW) (wk_20 (S := S) hW) (by decide) rfl (wr_800_20 (S := S) hW) ?_
  refine j_iload_n C dX8_removeMany_16 rfl 0 rfl ?_
  refine j_iald (j := 2) (v := 0) C dX8_removeMany_17 (wm_21 (S := S) hW) (wk_21 (S := S) hW) (inr_of (n := 16) (wl_21 (S := S) hW) (vp_lit (by decide))) (by decide) (z_ad21 _) ?_
  refine j_iconst (v := 1) C dX8_removeMany_18 (by decide) ?_
  refine j_ic_ne (tgt := 29) C dX8_removeMany_19 (by decide) (fun c9 => ?_) (fun c9 => absurd c9 (by decide))
  refine j_iinc (q := 0) (v := 3) (lv' := [(2, .int 3), (0, .ref (ad 20)), (1, .int 1)]) C dX8_removeMany_29 rfl (by decide) (by rw [hn9]; decide) rfl ?_
  show J _ _ _ _ _ 32 _
  refine j_goto (tgt := 2) C dX8_removeMany_32 (by decide) ?_
  refine j_iload_n C dX8_removeMany_2 rfl 0 rfl ?_
  refine j_bipush (v := 16) C dX8_removeMany_3 (by decide) ?_
  refine j_ic_ge (tgt := 35) C dX8_removeMany_5 (by decide) (fun c9 => absurd c9 (by decide)) (fun c9 => ?_)
  refine j_iload_n C dX8_removeMany_8 rfl 2 rfl ?_
  refine j_if_eq (tgt := 22) C dX8_removeMany_9 (by decide) (fun c9 => absurd c9 (by decide)) (fun c9 => ?_)
  refine j_aload_n C dX8_removeMany_12 rfl 1 rfl ?_
  refine j_getr (f := 800) (v := (ad 21)) C flX8_9 dX8_removeMany_13 (wm_20 (S := S) hW) (wk_20 (S := S) hW) (by decide) rfl (wr_800_20 (S := S) hW) ?_
  show J _ _ _ _ _ 16 _
  refine j_iload_n C dX8_removeMany_16 rfl 0 rfl ?_
  refine j_iald (j := 3) (v := 0) C dX8_removeMany_17 (wm_21 (S := S) hW) (wk_21 (S := S) hW) (inr_of (n := 16) (wl_21 (S := S) hW) (vp_lit (by decide))) (by decide) (z_ad21 _) ?_
  refine j_iconst (v := 1) C dX8_removeMany_18 (by decide) ?_
  refine j_ic_ne (tgt := 29) C dX8_removeMany_19 (by decide) (fun c9 => ?_) (fun c9 => absurd c9 (by decide))
  refine j_iinc (q := 0) (v := 4) (lv' := [(2, .int 4), (0, .ref (ad 20)), (1, .int 1)]) C dX8_removeMany_29 rfl (by decide) (by rw [hn9]; decide) rfl ?_
  refine j_goto (tgt := 2) C dX8_removeMany_32 (by decide) ?_
  refine j_iload_n C dX8_removeMany_2 rfl 0 rfl ?_
  refine j_bipush (v := 16) C dX8_removeMany_3 (by decide) ?_
  show J _ _ _ _ _ 5 _
  refine j_ic_ge (tgt := 35) C dX8_removeMany_5 (by decide) (fun c9 => absurd c9 (by decide)) (fun c9 => ?_)
  refine j_iload_n C dX8_removeMany_8 rfl 2 rfl ?_
  refine j_if_eq (tgt := 22) C dX8_removeMany_9 (by decide) (fun c9 => absurd c9 (by decide)) (fun c9 => ?_)
  refine j_aload_n C dX8_removeMany_12 rfl 1 rfl ?_
  refine j_getr (f := 800) (v := (ad 21)) C flX8_9 dX8_removeMany_13 (wm_20 (S := S) hW) (wk_20 (S := S) hW) (by decide) rfl (wr_800_20 (S := S) hW) ?_
  refine j_iload_n C dX8_removeMany_16 rfl 0 rfl ?_
  refine j_iald (j := 4) (v := 0) C dX8_removeMany_17 (wm_21 (S := S) hW) (wk_21 (S := S) hW) (inr_of (n := 16) (wl_21 (S := S) hW) (vp_lit (by decide))) (by decide) (z_ad21 _) ?_
  refine j_iconst (v := 1) C dX8_removeMany_18 (by decide) ?_
  show J _ _ _ _ _ 19 _
  refine j_ic_ne (tgt := 29) C dX8_removeMany_19 (by decide) (fun c9 => ?_) (fun c9 => absurd c9 (by decide))
  refine j_iinc (q := 0) (v := 5) (lv' := [(2, .int 5), (0, .ref (ad 20)), (1, .int 1)]) C dX8_removeMany_29 rfl (by decide) (by rw [hn9]; decide) rfl ?_
  refine j_goto (tgt := 2) C dX8_removeMany_32 (by decide) ?_
  refine j_iload_n C dX8_removeMany_2 rfl 0 rfl ?_
  refine j_bipush (v := 16) C dX8_removeMany_3 (by decide) ?_
  refine j_ic_ge (tgt := 35) C dX8_removeMany_5 (by decide) (fun c9 => absurd c9 (by decide)) (fun c9 => ?_)
  refine j_iload_n C dX8_removeMany_8 rfl 2 rfl ?_
  refine j_if_eq (tgt := 22) C dX8_removeMany_9 (by decide) (fun c9 => absurd c9 (by decide)) (fun c9 => ?_)
  show J _ _ _ _ _ 12 _
  refine j_aload_n C dX8_removeMany_12 rfl 1 rfl ?_
  refine j_getr (f := 800) (v := (ad 21)) C flX8_9 dX8_removeMany_13 (wm_20 (S := S) hW) (wk_20 (S := S) hW) (by decide) rfl (wr_800_20 (S := S) hW) ?_
  refine j_iload_n C dX8_removeMany_16 rfl 0 rfl ?_
  refine j_iald (j := 5) (v := 0) C dX8_removeMany_17 (wm_21 (S := S) hW) (wk_21 (S := S) hW) (inr_of (n := 16) (wl_21 (S := S) hW) (vp_lit (by decide))) (by decide) (z_ad21 _) ?_
  refine j_iconst (v := 1) C dX8_removeMany_18 (by decide) ?_
  refine j_ic_ne (tgt := 29) C dX8_removeMany_19 (by decide) (fun c9 => ?_) (fun c9 => absurd c9 (by decide))
  refine j_iinc (q := 0) (v := 6) (lv' := [(2, .int 6), (0, .ref (ad 20)), (1, .int 1)]) C dX8_removeMany_29 rfl (by decide) (by rw [hn9]; decide) rfl ?_
  refine j_goto (tgt := 2) C dX8_removeMany_32 (by decide) ?_
  show J _ _ _ _ _ 2 _
  refine j_iload_n C dX8_removeMany_2 rfl 0 rfl ?_
  refine j_bipush (v := 16) C dX8_removeMany_3 (by decide) ?_
  refine j_ic_ge (tgt := 35) C dX8_removeMany_5 (by decide) (fun c9 => absurd c9 (by decide)) (fun c9 => ?_)
  refine j_iload_n C dX8_removeMany_8 rfl 2 rfl ?_
  refine j_if_eq (tgt := 22) C dX8_removeMany_9 (by decide) (fun c9 => absurd c9 (by decide)) (fun c9 => ?_)
  refine j_aload_n C dX8_removeMany_12 rfl 1 rfl ?_
  refine j_getr (f := 800) (v := (ad 21)) C flX8_9 dX8_removeMany_13 (wm_20 (S := S) hW) (wk_20 (S := S) hW) (by decide) rfl (wr_800_20 (S := S) hW) ?_
  refine j_iload_n C dX8_removeMany_16 rfl 0 rfl ?_
  show J _ _ _ _ _ 17 _
  refine j_iald (j := 6) (v := 0) C dX8_removeMany_17 (wm_21 (S := S) hW) (wk_21 (S := S) hW) (inr_of (n := 16) (wl_21 (S := S) hW) (vp_lit (by decide))) (by decide) (z_ad21 _) ?_
  refine j_iconst (v := 1) C dX8_removeMany_18 (by decide) ?_
  refine j_ic_ne (tgt := 29) C dX8_removeMany_19 (by decide) (fun c9 => ?_) (fun c9 => absurd c9 (by decide))
  refine j_iinc (q := 0) (v := 7) (lv' := [(2, .int 7), (0, .ref (ad 20)), (1, .int 1)]) C dX8_removeMany_29 rfl (by decide) (by rw [hn9]; decide) rfl ?_
  refine j_goto (tgt := 2) C dX8_removeMany_32 (by decide) ?_
  refine j_iload_n C dX8_removeMany_2 rfl 0 rfl ?_
  refine j_bipush (v := 16) C dX8_removeMany_3 (by decide) ?_
  refine j_ic_ge (tgt := 35) C dX8_removeMany_5 (by decide) (fun c9 => absurd c9 (by decide)) (fun c9 => ?_)
  show J _ _ _ _ _ 8 _
  refine j_iload_n C dX8_removeMany_8 rfl 2 rfl ?_
  refine j_if_eq (tgt := 22) C dX8_removeMany_9 (by decide) (fun c9 => absurd c9 (by decide)) (fun c9 => ?_)
  refine j_aload_n C dX8_removeMany_12 rfl 1 rfl ?_
  refine j_getr (f := 800) (v := (ad 21)) C flX8_9 dX8_removeMany_13 (wm_20 (S := S) hW) (wk_20 (S := S) hW) (by decide) rfl (wr_800_20 (S := S) hW) ?_
  refine j_iload_n C dX8_removeMany_16 rfl 0 rfl ?_
  refine j_iald (j := 7) (v := 0) C dX8_removeMany_17 (wm_21 (S := S) hW) (wk_21 (S := S) hW) (inr_of (n := 16) (wl_21 (S := S) hW) (vp_lit (by decide))) (by decide) (z_ad21 _) ?_
  refine j_iconst (v := 1) C dX8_removeMany_18 (by decide) ?_
  refine j_ic_ne (tgt := 29) C dX8_removeMany_19 (by decide) (fun c9 => ?_) (fun c9 => absurd c9 (by decide))
  show J _ _ _ _ _ 29 _
  refine j_iinc (q := 0) (v := 8) (lv' := [(2, .int 8), (0, .ref (ad 20)), (1, .int 1)]) C dX8_removeMany_29 rfl (by decide) (by rw [hn9]; decide) rfl ?_
  refine j_goto (tgt := 2) C dX8_removeMany_32 (by decide) ?_
  refine j_iload_n C dX8_removeMany_2 rfl 0 rfl ?_
  refine j_bipush (v := 16) C dX8_removeMany_3 (by decide) ?_
  refine j_ic_ge (tgt := 35) C dX8_removeMany_5 (by decide) (fun c9 => absurd c9 (by decide)) (fun c9 => ?_)
  refine j_iload_n C dX8_removeMany_8 rfl 2 rfl ?_
  refine j_if_eq (tgt := 22) C dX8_removeMany_9 (by decide) (fun c9 => absurd c9 (by decide)) (fun c9 => ?_)
  refine j_aload_n C dX8_removeMany_12 rfl 1 rfl ?_
  show J _ _ _ _ _ 13 _
  refine j_getr (f := 800) (v := (ad 21)) C flX8_9 dX8_removeMany_13 (wm_20 (S := S) hW) (wk_20 (S := S) hW) (by decide) rfl (wr_800_20 (S := S) hW) ?_
  refine j_iload_n C dX8_removeMany_16 rfl 0 rfl ?_
  refine j_iald (j := 8) (v := 0) C dX8_removeMany_17 (wm_21 (S := S) hW) (wk_21 (S := S) hW) (inr_of (n := 16) (wl_21 (S := S) hW) (vp_lit (by decide))) (by decide) (z_ad21 _) ?_
  refine j_iconst (v := 1) C dX8_removeMany_18 (by decide) ?_
  refine j_ic_ne (tgt := 29) C dX8_removeMany_19 (by decide) (fun c9 => ?_) (fun c9 => absurd c9 (by decide))
  refine j_iinc (q := 0) (v := 9) (lv' := [(2, .int 9), (0, .ref (ad 20)), (1, .int 1)]) C dX8_removeMany_29 rfl (by decide) (by rw [hn9]; decide) rfl ?_
  refine j_goto (tgt := 2) C dX8_removeMany_32 (by decide) ?_
  refine j_iload_n C dX8_removeMany_2 rfl 0 rfl ?_
  show J _ _ _ _ _ 3 _
  refine j_bipush (v := 16) C dX8_removeMany_3 (by decide) ?_
  refine j_ic_ge (tgt := 35) C dX8_removeMany_5 (by decide) (fun c9 => absurd c9 (by decide)) (fun c9 => ?_)
  refine j_iload_n C dX8_removeMany_8 rfl 2 rfl ?_
  refine j_if_eq (tgt := 22) C dX8_removeMany_9 (by decide) (fun c9 => absurd c9 (by decide)) (fun c9 => ?_)
  refine j_aload_n C dX8_removeMany_12 rfl 1 rfl ?_
  refine j_getr (f := 800) (v := (ad 21)) C flX8_9 dX8_removeMany_13 (wm_20 (S := S) hW) (wk_20 (S := S) hW) (by decide) rfl (wr_800_20 (S := S) hW) ?_
  refine j_iload_n C dX8_removeMany_16 rfl 0 rfl ?_
  refine j_iald (j := 9) (v := 0) C dX8_removeMany_17 (wm_21 (S := S) hW) (wk_21 (S := S) hW) (inr_of (n := 16) (wl_21 (S := S) hW) (vp_lit (by decide))) (by decide) (z_ad21 _) ?_
  show J _ _ _ _ _ 18 _
  refine j_iconst (v := 1) C dX8_removeMany_18 (by decide) ?_
  refine j_ic_ne (tgt := 29) C dX8_removeMany_19 (by decide) (fun c9 => ?_) (fun c9 => absurd c9 (by decide))
  refine j_iinc (q := 0) (v := 10) (lv' := [(2, .int 10), (0, .ref (ad 20)), (1, .int 1)]) C dX8_removeMany_29 rfl (by decide) (by rw [hn9]; decide) rfl ?_
  refine j_goto (tgt := 2) C dX8_removeMany_32 (by decide) ?_
  refine j_iload_n C dX8_removeMany_2 rfl 0 rfl ?_
  refine j_bipush (v := 16) C dX8_removeMany_3 (by decide) ?_
  refine j_ic_ge (tgt := 35) C dX8_removeMany_5 (by decide) (fun c9 => absurd c9 (by decide)) (fun c9 => ?_)
  refine j_iload_n C dX8_removeMany_8 rfl 2 rfl ?_
  show J _ _ _ _ _ 9 _
  refine j_if_eq (tgt := 22) C dX8_removeMany_9 (by decide) (fun c9 => absurd c9 (by decide)) (fun c9 => ?_)
  refine j_aload_n C dX8_removeMany_12 rfl 1 rfl ?_
  refine j_getr (f := 800) (v := (ad 21)) C flX8_9 dX8_removeMany_13 (wm_20 (S := S) hW) (wk_20 (S := S) hW) (by decide) rfl (wr_800_20 (S := S) hW) ?_
  refine j_iload_n C dX8_removeMany_16 rfl 0 rfl ?_
  refine j_iald (j := 10) (v := 0) C dX8_removeMany_17 (wm_21 (S := S) hW) (wk_21 (S := S) hW) (inr_of (n := 16) (wl_21 (S := S) hW) (vp_lit (by decide))) (by decide) (z_ad21 _) ?_
  refine j_iconst (v := 1) C dX8_removeMany_18 (by decide) ?_
  refine j_ic_ne (tgt := 29) C dX8_removeMany_19 (by decide) (fun c9 => ?_) (fun c9 => absurd c9 (by decide))
  refine j_iinc (q := 0) (v := 11) (lv' := [(2, .int 11), (0, .ref (ad 20)), (1, .int 1)]) C dX8_removeMany_29 rfl (by decide) (by rw [hn9]; decide) rfl ?_
  show J _ _ _ _ _ 32 _
  refine j_goto (tgt := 2) C dX8_removeMany_32 (by decide) ?_
  refine j_iload_n C dX8_removeMany_2 rfl 0 rfl ?_
  refine j_bipush (v := 16) C dX8_removeMany_3 (by decide) ?_
  refine j_ic_ge (tgt := 35) C dX8_removeMany_5 (by decide) (fun c9 => absurd c9 (by decide)) (fun c9 => ?_)
  refine j_iload_n C dX8_removeMany_8 rfl 2 rfl ?_
  refine j_if_eq (tgt := 22) C dX8_removeMany_9 (by decide) (fun c9 => absurd c9 (by decide)) (fun c9 => ?_)
  refine j_aload_n C dX8_removeMany_12 rfl 1 rfl ?_
  refine j_getr (f := 800) (v := (ad 21)) C flX8_9 dX8_removeMany_13 (wm_20 (S := S) hW) (wk_20 (S := S) hW) (by decide) rfl (wr_800_20 (S := S) hW) ?_
  show J _ _ _ _ _ 16 _
  refine j_iload_n C dX8_removeMany_16 rfl 0 rfl ?_
  refine j_iald (j := 11) (v := 0) C dX8_removeMany_17 (wm_21 (S := S) hW) (wk_21 (S := S) hW) (inr_of (n := 16) (wl_21 (S := S) hW) (vp_lit (by decide))) (by decide) (z_ad21 _) ?_
  refine j_iconst (v := 1) C dX8_removeMany_18 (by decide) ?_
  refine j_ic_ne (tgt := 29) C dX8_removeMany_19 (by decide) (fun c9 => ?_) (fun c9 => absurd c9 (by decide))
  refine j_iinc (q := 0) (v := 12) (lv' := [(2, .int 12), (0, .ref (ad 20)), (1, .int 1)]) C dX8_removeMany_29 rfl (by decide) (by rw [hn9]; decide) rfl ?_
  refine j_goto (tgt := 2) C dX8_removeMany_32 (by decide) ?_
  refine j_iload_n C dX8_removeMany_2 rfl 0 rfl ?_
  refine j_bipush (v := 16) C dX8_removeMany_3 (by decide) ?_
  show J _ _ _ _ _ 5 _
  refine j_ic_ge (tgt := 35) C dX8_removeMany_5 (by decide) (fun c9 => absurd c9 (by decide)) (fun c9 => ?_)
  refine j_iload_n C dX8_removeMany_8 rfl 2 rfl ?_
  refine j_if_eq (tgt := 22) C dX8_removeMany_9 (by decide) (fun c9 => absurd c9 (by decide)) (fun c9 => ?_)
  refine j_aload_n C dX8_removeMany_12 rfl 1 rfl ?_
  refine j_getr (f := 800) (v := (ad 21)) C flX8_9 dX8_removeMany_13 (wm_20 (S := S) hW) (wk_20 (S := S) hW) (by decide) rfl (wr_800_20 (S := S) hW) ?_
  refine j_iload_n C dX8_removeMany_16 rfl 0 rfl ?_
  refine j_iald (j := 12) (v := 0) C dX8_removeMany_17 (wm_21 (S := S) hW) (wk_21 (S := S) hW) (inr_of (n := 16) (wl_21 (S := S) hW) (vp_lit (by decide))) (by decide) (z_ad21 _) ?_
  refine j_iconst (v := 1) C dX8_removeMany_18 (by decide) ?_
  show J _ _ _ _ _ 19 _
  refine j_ic_ne (tgt := 29) C dX8_removeMany_19 (by decide) (fun c9 => ?_) (fun c9 => absurd c9 (by decide))
  refine j_iinc (q := 0) (v := 13) (lv' := [(2, .int 13), (0, .ref (ad 20)), (1, .int 1)]) C dX8_removeMany_29 rfl (by decide) (by rw [hn9]; decide) rfl ?_
  refine j_goto (tgt := 2) C dX8_removeMany_32 (by decide) ?_
  refine j_iload_n C dX8_removeMany_2 rfl 0 rfl ?_
  refine j_bipush (v := 16) C dX8_removeMany_3 (by decide) ?_
  refine j_ic_ge (tgt := 35) C dX8_removeMany_5 (by decide) (fun c9 => absurd c9 (by decide)) (fun c9 => ?_)
  refine j_iload_n C dX8_removeMany_8 rfl 2 rfl ?_
  refine j_if_eq (tgt := 22) C dX8_removeMany_9 (by decide) (fun c9 => absurd c9 (by decide)) (fun c9 => ?_)
  show J _ _ _ _ _ 12 _
  refine j_aload_n C dX8_removeMany_12 rfl 1 rfl ?_
  refine j_getr (f := 800) (v := (ad 21)) C flX8_9 dX8_removeMany_13 (wm_20 (S := S) hW) (wk_20 (S := S) hW) (by decide) rfl (wr_800_20 (S := S) hW) ?_
  refine j_iload_n C dX8_removeMany_16 rfl 0 rfl ?_
  refine j_iald (j := 13) (v := 0) C dX8_removeMany_17 (wm_21 (S := S) hW) (wk_21 (S := S) hW) (inr_of (n := 16) (wl_21 (S := S) hW) (vp_lit (by decide))) (by decide) (z_ad21 _) ?_
  refine j_iconst (v := 1) C dX8_removeMany_18 (by decide) ?_
  refine j_ic_ne (tgt := 29) C dX8_removeMany_19 (by decide) (fun c9 => ?_) (fun c9 => absurd c9 (by decide))
  refine j_iinc (q := 0) (v := 14) (lv' := [(2, .int 14), (0, .ref (ad 20)), (1, .int 1)]) C dX8_removeMany_29 rfl (by decide) (by rw [hn9]; decide) rfl ?_
  refine j_goto (tgt := 2) C dX8_removeMany_32 (by decide) ?_
  show J _ _ _ _ _ 2 _
  refine j_iload_n C dX8_removeMany_2 rfl 0 rfl ?_
  refine j_bipush (v := 16) C dX8_removeMany_3 (by decide) ?_
  refine j_ic_ge (tgt := 35) C dX8_removeMany_5 (by decide) (fun c9 => absurd c9 (by decide)) (fun c9 => ?_)
  refine j_iload_n C dX8_removeMany_8 rfl 2 rfl ?_
  refine j_if_eq (tgt := 22) C dX8_removeMany_9 (by decide) (fun c9 => absurd c9 (by decide)) (fun c9 => ?_)
  refine j_aload_n C dX8_removeMany_12 rfl 1 rfl ?_
  refine j_getr (f := 800) (v := (ad 21)) C flX8_9 dX8_removeMany_13 (wm_20 (S := S) hW) (wk_20 (S := S) hW) (by decide) rfl (wr_800_20 (S := S) hW) ?_
  refine j_iload_n C dX8_removeMany_16 rfl 0 rfl ?_
  show J _ _ _ _ _ 17 _
  refine j_iald (j := 14) (v := 0) C dX8_removeMany_17 (wm_21 (S := S) hW) (wk_21 (S := S) hW) (inr_of (n := 16) (wl_21 (S := S) hW) (vp_lit (by decide))) (by decide) (z_ad21 _) ?_
  refine j_iconst (v := 1) C dX8_removeMany_18 (by decide) ?_
  refine j_ic_ne (tgt := 29) C dX8_removeMany_19 (by decide) (fun c9 => ?_) (fun c9 => absurd c9 (by decide))
  refine j_iinc (q := 0) (v := 15) (lv' := [(2, .int 15), (0, .ref (ad 20)), (1, .int 1)]) C dX8_removeMany_29 rfl (by decide) (by rw [hn9]; decide) rfl ?_
  refine j_goto (tgt := 2) C dX8_removeMany_32 (by decide) ?_
  refine j_iload_n C dX8_removeMany_2 rfl 0 rfl ?_
  refine j_bipush (v := 16) C dX8_removeMany_3 (by decide) ?_
  refine j_ic_ge (tgt := 35) C dX8_removeMany_5 (by decide) (fun c9 => absurd c9 (by decide)) (fun c9 => ?_)
  show J _ _ _ _ _ 8 _
  refine j_iload_n C dX8_removeMany_8 rfl 2 rfl ?_
  refine j_if_eq (tgt := 22) C dX8_removeMany_9 (by decide) (fun c9 => absurd c9 (by decide)) (fun c9 => ?_)
  refine j_aload_n C dX8_removeMany_12 rfl 1 rfl ?_
  refine j_getr (f := 800) (v := (ad 21)) C flX8_9 dX8_removeMany_13 (wm_20 (S := S) hW) (wk_20 (S := S) hW) (by decide) rfl (wr_800_20 (S := S) hW) ?_
  refine j_iload_n C dX8_removeMany_16 rfl 0 rfl ?_
  refine j_iald (j := 15) (v := 0) C dX8_removeMany_17 (wm_21 (S := S) hW) (wk_21 (S := S) hW) (inr_of (n := 16) (wl_21 (S := S) hW) (vp_lit (by decide))) (by decide) (z_ad21 _) ?_
  refine j_iconst (v := 1) C dX8_removeMany_18 (by decide) ?_
  refine j_ic_ne (tgt := 29) C dX8_removeMany_19 (by decide) (fun c9 => ?_) (fun c9 => absurd c9 (by decide))
  show J _ _ _ _ _ 29 _
  refine j_iinc (q := 0) (v := 16) (lv' := [(2, .int 16), (0, .ref (ad 20)), (1, .int 1)]) C dX8_removeMany_29 rfl (by decide) (by rw [hn9]; decide) rfl ?_
  refine j_goto (tgt := 2) C dX8_removeMany_32 (by decide) ?_
  refine j_iload_n C dX8_removeMany_2 rfl 0 rfl ?_
  refine j_bipush (v := 16) C dX8_removeMany_3 (by decide) ?_
  refine j_ic_ge (tgt := 35) C dX8_removeMany_5 (by decide) (fun c9 => ?_) (fun c9 => absurd (by decide) c9)
  exact j_vret C M dX8_removeMany_35 (by decide) (by decide) ⟨rfl, rfl⟩

set_option maxRecDepth 100000 in
set_option maxHeartbeats 4000000 in
theorem c_rmm (S : Hp) (ad : Nat → Nat) (hW : Wd ad S) (z_ad23 : ∀ j, aI S (ad 23) j = 0) : Ct 2 yX8_removeMany cX8_removeMany 3 none 0 0 [.ref (ad 22), .int 1] S (fun r S' => r = none ∧ S' = S) := by
  refine ct_of (by decide) (Nat.le_of_ble_eq_true rfl) fun x hn9 C M hm9 => ?_
  have C : CB x RX8 cX8_removeMany := C
  refine J.eq (lv' := [(0, .ref (ad 22)), (1, .int 1)]) rfl rfl rfl ?_
  refine j_iconst (v := 0) C dX8_removeMany_0 (by decide) ?_
  refine j_istore_n (lv' := [(2, .int 0), (0, .ref (ad 22)), (1, .int 1)]) C dX8_removeMany_1 rfl (by rw [hn9]; decide) rfl ?_
  refine j_iload_n C dX8_removeMany_2 rfl 0 rfl ?_
  refine j_bipush (v := 16) C dX8_removeMany_3 (by decide) ?_
  refine j_ic_ge (tgt := 35) C dX8_removeMany_5 (by decide) (fun c9 => absurd c9 (by decide)) (fun c9 => ?_)
  refine j_iload_n C dX8_removeMany_8 rfl 2 rfl ?_
  refine j_if_eq (tgt := 22) C dX8_removeMany_9 (by decide) (fun c9 => absurd c9 (by decide)) (fun c9 => ?_)
  refine j_aload_n C dX8_removeMany_12 rfl 1 rfl ?_
  show J _ _ _ _ _ 13 _
  refine j_getr (f := 800) (v := (ad 23)) C flX8_9 dX8_removeMany_13 (wm_22 (S := S) hW) (wk_22 (S := S) hW) (by decide) rfl (wr_800_22 (S := S) hW) ?_
  refine j_iload_n C dX8_removeMany_16 rfl 0 rfl ?_
  refine j_iald (j := 0) (v := 0) C dX8_removeMany_17 (wm_23 (S := S) hW) (wk_23 (S := S) hW) (inr_of (n := 16) (wl_23 (S := S) hW) (vp_lit (by decide))) (by decide) (z_ad23 _) ?_
  refine j_iconst (v := 1) C dX8_removeMany_18 (by decide) ?_
  refine j_ic_ne (tgt := 29) C dX8_removeMany_19 (by decide) (fun c9 => ?_) (fun c9 => absurd c9 (by decide))
  refine j_iinc (q := 0) (v := 1) (lv' := [(2, .int 1), (0, .ref (ad 22)), (1, .int 1)]) C dX8_removeMany_29 rfl (by decide) (by rw [hn9]; decide) rfl ?_
  refine j_goto (tgt := 2) C dX8_removeMany_32 (by decide) ?_
  refine j_iload_n C dX8_removeMany_2 rfl 0 rfl ?_
  show J _ _ _ _ _ 3 _
  refine j_bipush (v := 16) C dX8_removeMany_3 (by decide) ?_
  refine j_ic_ge (tgt := 35) C dX8_removeMany_5 (by decide) (fun c9 => absurd c9 (by decide)) (fun c9 => ?_)
  refine j_iload_n C dX8_removeMany_8 rfl 2 rfl ?_
  refine j_if_eq (tgt := 22) C dX8_removeMany_9 (by decide) (fun c9 => absurd c9 (by decide)) (fun c9 => ?_)
  refine j_aload_n C dX8_removeMany_12 rfl 1 rfl ?_
  refine j_getr (f := 800) (v := (ad 23)) C flX8_9 dX8_removeMany_13 (wm_22 (S := S) hW) (wk_22 (S := S) hW) (by decide) rfl (wr_800_22 (S := S) hW) ?_
  refine j_iload_n C dX8_removeMany_16 rfl 0 rfl ?_
  refine j_iald (j := 1) (v := 0) C dX8_removeMany_17 (wm_23 (S := S) hW) (wk_23 (S := S) hW) (inr_of (n := 16) (wl_23 (S := S) hW) (vp_lit (by decide))) (by decide) (z_ad23 _) ?_
  show J _ _ _ _ _ 18 _
  refine j_iconst (v := 1) C dX8_removeMany_18 (by decide) ?_
  refine j_ic_ne (tgt := 29) C dX8_removeMany_19 (by decide) (fun c9 => ?_) (fun c9 => absurd c9 (by decide))
  refine j_iinc (q := 0) (v := 2) (lv' := [(2, .int 2), (0, .ref (ad 22)), (1, .int 1)]) C dX8_removeMany_29 rfl (by decide) (by rw [hn9]; decide) rfl ?_
  refine j_goto (tgt := 2) C dX8_removeMany_32 (by decide) ?_
  refine j_iload_n C dX8_removeMany_2 rfl 0 rfl ?_
  refine j_bipush (v := 16) C dX8_removeMany_3 (by decide) ?_
  refine j_ic_ge (tgt := 35) C dX8_removeMany_5 (by decide) (fun c9 => absurd c9 (by decide)) (fun c9 => ?_)
  refine j_iload_n C dX8_removeMany_8 rfl 2 rfl ?_
  show J _ _ _ _ _ 9 _
  refine j_if_eq (tgt := 22) C dX8_removeMany_9 (by decide) (fun c9 => absurd c9 (by decide)) (fun c9 => ?_)
  refine j_aload_n C dX8_removeMany_12 rfl 1 rfl ?_
  refine j_getr (f := 800) (v := (ad 23)) C flX8_9 dX8_removeMany_13 (wm_22 (S := S) hW) (wk_22 (S := S) hW) (by decide) rfl (wr_800_22 (S := S) hW) ?_
  refine j_iload_n C dX8_removeMany_16 rfl 0 rfl ?_
  refine j_iald (j := 2) (v := 0) C dX8_removeMany_17 (wm_23 (S := S) hW) (wk_23 (S := S) hW) (inr_of (n := 16) (wl_23 (S := S) hW) (vp_lit (by decide))) (by decide) (z_ad23 _) ?_
  refine j_iconst (v := 1) C dX8_removeMany_18 (by decide) ?_
  refine j_ic_ne (tgt := 29) C dX8_removeMany_19 (by decide) (fun c9 => ?_) (fun c9 => absurd c9 (by decide))
  refine j_iinc (q := 0) (v := 3) (lv' := [(2, .int 3), (0, .ref (ad 22)), (1, .int 1)]) C dX8_removeMany_29 rfl (by decide) (by rw [hn9]; decide) rfl ?_
  show J _ _ _ _ _ 32 _
  refine j_goto (tgt := 2) C dX8_removeMany_32 (by decide) ?_
  refine j_iload_n C dX8_removeMany_2 rfl 0 rfl ?_
  refine j_bipush (v := 16) C dX8_removeMany_3 (by decide) ?_
  refine j_ic_ge (tgt := 35) C dX8_removeMany_5 (by decide) (fun c9 => absurd c9 (by decide)) (fun c9 => ?_)
  refine j_iload_n C dX8_removeMany_8 rfl 2 rfl ?_
  refine j_if_eq (tgt := 22) C dX8_removeMany_9 (by decide) (fun c9 => absurd c9 (by decide)) (fun c9 => ?_)
  refine j_aload_n C dX8_removeMany_12 rfl 1 rfl ?_
  refine j_getr (f := 800) (v := (ad 23)) C flX8_9 dX8_removeMany_13 (wm_22 (S := S) hW) (wk_22 (S := S) hW) (by decide) rfl (wr_800_22 (S := S) hW) ?_
  show J _ _ _ _ _ 16 _
  refine j_iload_n C dX8_removeMany_16 rfl 0 rfl ?_
  refine j_iald (j := 3) (v := 0) C dX8_removeMany_17 (wm_23 (S := S) hW) (wk_23 (S := S) hW) (inr_of (n := 16) (wl_23 (S := S) hW) (vp_lit (by decide))) (by decide) (z_ad23 _) ?_
  refine j_iconst (v := 1) C dX8_removeMany_18 (by decide) ?_
  refine j_ic_ne (tgt := 29) C dX8_removeMany_19 (by decide) (fun c9 => ?_) (fun c9 => absurd c9 (by decide))
  refine j_iinc (q := 0) (v := 4) (lv' := [(2, .int 4), (0, .ref (ad 22)), (1, .int 1)]) C dX8_removeMany_29 rfl (by decide) (by rw [hn9]; decide) rfl ?_
  refine j_goto (tgt := 2) C dX8_removeMany_32 (by decide) ?_
  refine j_iload_n C dX8_removeMany_2 rfl 0 rfl ?_
  refine j_bipush (v := 16) C dX8_removeMany_3 (by decide) ?_
  show J _ _ _ _ _ 5 _
  refine j_ic_ge (tgt := 35) C dX8_removeMany_5 (by decide) (fun c9 => absurd c9 (by decide)) (fun c9 => ?_)
  refine j_iload_n C dX8_removeMany_8 rfl 2 rfl ?_
  refine j_if_eq (tgt := 22) C dX8_removeMany_9 (by decide) (fun c9 => absurd c9 (by decide)) (fun c9 => ?_)
  refine j_aload_n C dX8_removeMany_12 rfl 1 rfl ?_
  refine j_getr (f := 800) (v := (ad 23)) C flX8_9 dX8_removeMany_13 (wm_22 (S := S) hW) (wk_22 (S := S) hW) (by decide) rfl (wr_800_22 (S := S) hW) ?_
  refine j_iload_n C dX8_removeMany_16 rfl 0 rfl ?_
  refine j_iald (j := 4) (v := 0) C dX8_removeMany_17 (wm_23 (S := S) hW) (wk_23 (S := S) hW) (inr_of (n := 16) (wl_23 (S := S) hW) (vp_lit (by decide))) (by decide) (z_ad23 _) ?_
  refine j_iconst (v := 1) C dX8_removeMany_18 (by decide) ?_
  show J _ _ _ _ _ 19 _
  refine j_ic_ne (tgt := 29) C dX8_removeMany_19 (by decide) (fun c9 => ?_) (fun c9 => absurd c9 (by decide))
  refine j_iinc (q := 0) (v := 5) (lv' := [(2, .int 5), (0, .ref (ad 22)), (1, .int 1)]) C dX8_removeMany_29 rfl (by decide) (by rw [hn9]; decide) rfl ?_
  refine j_goto (tgt := 2) C dX8_removeMany_32 (by decide) ?_
  refine j_iload_n C dX8_removeMany_2 rfl 0 rfl ?_
  refine j_bipush (v := 16) C dX8_removeMany_3 (by decide) ?_
  refine j_ic_ge (tgt := 35) C dX8_removeMany_5 (by decide) (fun c9 => absurd c9 (by decide)) (fun c9 => ?_)
  refine j_iload_n C dX8_removeMany_8 rfl 2 rfl ?_
  refine j_if_eq (tgt := 22) C dX8_removeMany_9 (by decide) (fun c9 => absurd c9 (by decide)) (fun c9 => ?_)
  show J _ _ _ _ _ 12 _
  refine j_aload_n C dX8_removeMany_12 rfl 1 rfl ?_
  refine j_getr (f := 800) (v := (ad 23)) C flX8_9 dX8_removeMany_13 (wm_22 (S := S) hW) (wk_22 (S := S) hW) (by decide) rfl (wr_800_22 (S := S) hW) ?_
  refine j_iload_n C dX8_removeMany_16 rfl 0 rfl ?_
  refine j_iald (j := 5) (v := 0) C dX8_removeMany_17 (wm_23 (S := S) hW) (wk_23 (S := S) hW) (inr_of (n := 16) (wl_23 (S := S) hW) (vp_lit (by decide))) (by decide) (z_ad23 _) ?_
  refine j_iconst (v := 1) C dX8_removeMany_18 (by decide) ?_
  refine j_ic_ne (tgt := 29) C dX8_removeMany_19 (by decide) (fun c9 => ?_) (fun c9 => absurd c9 (by decide))
  refine j_iinc (q := 0) (v := 6) (lv' := [(2, .int 6), (0, .ref (ad 22)), (1, .int 1)]) C dX8_removeMany_29 rfl (by decide) (by rw [hn9]; decide) rfl ?_
  refine j_goto (tgt := 2) C dX8_removeMany_32 (by decide) ?_
  show J _ _ _ _ _ 2 _
  refine j_iload_n C dX8_removeMany_2 rfl 0 rfl ?_
  refine j_bipush (v := 16) C dX8_removeMany_3 (by decide) ?_
  refine j_ic_ge (tgt := 35) C dX8_removeMany_5 (by decide) (fun c9 => absurd c9 (by decide)) (fun c9 => ?_)
  refine j_iload_n C dX8_removeMany_8 rfl 2 rfl ?_
  refine j_if_eq (tgt := 22) C dX8_removeMany_9 (by decide) (fun c9 => absurd c9 (by decide)) (fun c9 => ?_)
  refine j_aload_n C dX8_removeMany_12 rfl 1 rfl ?_
  refine j_getr (f := 800) (v := (ad 23)) C flX8_9 dX8_removeMany_13 (wm_22 (S := S) hW) (wk_22 (S := S) hW) (by decide) rfl (wr_800_22 (S := S) hW) ?_
  refine j_iload_n C dX8_removeMany_16 rfl 0 rfl ?_
  show J _ _ _ _ _ 17 _
  refine j_iald (j := 6) (v := 0) C dX8_removeMany_17 (wm_23 (S := S) hW) (wk_23 (S := S) hW) (inr_of (n := 16) (wl_23 (S := S) hW) (vp_lit (by decide))) (by decide) (z_ad23 _) ?_
  refine j_iconst (v := 1) C dX8_removeMany_18 (by decide) ?_
  refine j_ic_ne (tgt := 29) C dX8_removeMany_19 (by decide) (fun c9 => ?_) (fun c9 => absurd c9 (by decide))
  refine j_iinc (q := 0) (v := 7) (lv' := [(2, .int 7), (0, .ref (ad 22)), (1, .int 1)]) C dX8_removeMany_29 rfl (by decide) (by rw [hn9]; decide) rfl ?_
  refine j_goto (tgt := 2) C dX8_removeMany_32 (by decide) ?_
  refine j_iload_n C dX8_removeMany_2 rfl 0 rfl ?_
  refine j_bipush (v := 16) C dX8_removeMany_3 (by decide) ?_
  refine j_ic_ge (tgt := 35) C dX8_removeMany_5 (by decide) (fun c9 => absurd c9 (by decide)) (fun c9 => ?_)
  show J _ _ _ _ _ 8 _
  refine j_iload_n C dX8_removeMany_8 rfl 2 rfl ?_
  refine j_if_eq (tgt := 22) C dX8_removeMany_9 (by decide) (fun c9 => absurd c9 (by decide)) (fun c9 => ?_)
  refine j_aload_n C dX8_removeMany_12 rfl 1 rfl ?_
  refine j_getr (f := 800) (v := (ad 23)) C flX8_9 dX8_removeMany_13 (wm_22 (S := S) hW) (wk_22 (S := S) hW) (by decide) rfl (wr_800_22 (S := S) hW) ?_
  refine j_iload_n C dX8_removeMany_16 rfl 0 rfl ?_
  refine j_iald (j := 7) (v := 0) C dX8_removeMany_17 (wm_23 (S := S) hW) (wk_23 (S := S) hW) (inr_of (n := 16) (wl_23 (S := S) hW) (vp_lit (by decide))) (by decide) (z_ad23 _) ?_
  refine j_iconst (v := 1) C dX8_removeMany_18 (by decide) ?_
  refine j_ic_ne (tgt := 29) C dX8_removeMany_19 (by decide) (fun c9 => ?_) (fun c9 => absurd c9 (by decide))
  show J _ _ _ _ _ 29 _
  refine j_iinc (q := 0) (v := 8) (lv' := [(2, .int 8), (0, .ref (ad 22)), (1, .int 1)]) C dX8_removeMany_29 rfl (by decide) (by rw [hn9]; decide) rfl ?_
  refine j_goto (tgt := 2) C dX8_removeMany_32 (by decide) ?_
  refine j_iload_n C dX8_removeMany_2 rfl 0 rfl ?_
  refine j_bipush (v := 16) C dX8_removeMany_3 (by decide) ?_
  refine j_ic_ge (tgt := 35) C dX8_removeMany_5 (by decide) (fun c9 => absurd c9 (by decide)) (fun c9 => ?_)
  refine j_iload_n C dX8_removeMany_8 rfl 2 rfl ?_
  refine j_if_eq (tgt := 22) C dX8_removeMany_9 (by decide) (fun c9 => absurd c9 (by decide)) (fun c9 => ?_)
  refine j_aload_n C dX8_removeMany_12 rfl 1 rfl ?_
  show J _ _ _ _ _ 13 _
  refine j_getr (f := 800) (v := (ad 23)) C flX8_9 dX8_removeMany_13 (wm_22 (S := S) hW) (wk_22 (S := S) hW) (by decide) rfl (wr_800_22 (S := S) hW) ?_
  refine j_iload_n C dX8_removeMany_16 rfl 0 rfl ?_
  refine j_iald (j := 8) (v := 0) C dX8_removeMany_17 (wm_23 (S := S) hW) (wk_23 (S := S) hW) (inr_of (n := 16) (wl_23 (S := S) hW) (vp_lit (by decide))) (by decide) (z_ad23 _) ?_
  refine j_iconst (v := 1) C dX8_removeMany_18 (by decide) ?_
  refine j_ic_ne (tgt := 29) C dX8_removeMany_19 (by decide) (fun c9 => ?_) (fun c9 => absurd c9 (by decide))
  refine j_iinc (q := 0) (v := 9) (lv' := [(2, .int 9), (0, .ref (ad 22)), (1, .int 1)]) C dX8_removeMany_29 rfl (by decide) (by rw [hn9]; decide) rfl ?_
  refine j_goto (tgt := 2) C dX8_removeMany_32 (by decide) ?_
  refine j_iload_n C dX8_removeMany_2 rfl 0 rfl ?_
  show J _ _ _ _ _ 3 _
  refine j_bipush (v := 16) C dX8_removeMany_3 (by decide) ?_
  refine j_ic_ge (tgt := 35) C dX8_removeMany_5 (by decide) (fun c9 => absurd c9 (by decide)) (fun c9 => ?_)
  refine j_iload_n C dX8_removeMany_8 rfl 2 rfl ?_
  refine j_if_eq (tgt := 22) C dX8_removeMany_9 (by decide) (fun c9 => absurd c9 (by decide)) (fun c9 => ?_)
  refine j_aload_n C dX8_removeMany_12 rfl 1 rfl ?_
  refine j_getr (f := 800) (v := (ad 23)) C flX8_9 dX8_removeMany_13 (wm_22 (S := S) hW) (wk_22 (S := S) hW) (by decide) rfl (wr_800_22 (S := S) hW) ?_
  refine j_iload_n C dX8_removeMany_16 rfl 0 rfl ?_
  refine j_iald (j := 9) (v := 0) C dX8_removeMany_17 (wm_23 (S := S) hW) (wk_23 (S := S) hW) (inr_of (n := 16) (wl_23 (S := S) hW) (vp_lit (by decide))) (by decide) (z_ad23 _) ?_
  show J _ _ _ _ _ 18 _
  refine j_iconst (v := 1) C dX8_removeMany_18 (by decide) ?_
  refine j_ic_ne (tgt := 29) C dX8_removeMany_19 (by decide) (fun c9 => ?_) (fun c9 => absurd c9 (by decide))
  refine j_iinc (q := 0) (v := 10) (lv' := [(2, .int 10), (0, .ref (ad 22)), (1, .int 1)]) C dX8_removeMany_29 rfl (by decide) (by rw [hn9]; decide) rfl ?_
  refine j_goto (tgt := 2) C dX8_removeMany_32 (by decide) ?_
  refine j_iload_n C dX8_removeMany_2 rfl 0 rfl ?_
  refine j_bipush (v := 16) C dX8_removeMany_3 (by decide) ?_
  refine j_ic_ge (tgt := 35) C dX8_removeMany_5 (by decide) (fun c9 => absurd c9 (by decide)) (fun c9 => ?_)
  refine j_iload_n C dX8_removeMany_8 rfl 2 rfl ?_
  show J _ _ _ _ _ 9 _
  refine j_if_eq (tgt := 22) C dX8_removeMany_9 (by decide) (fun c9 => absurd c9 (by decide)) (fun c9 => ?_)
  refine j_aload_n C dX8_removeMany_12 rfl 1 rfl ?_
  refine j_getr (f := 800) (v := (ad 23)) C flX8_9 dX8_removeMany_13 (wm_22 (S := S) hW) (wk_22 (S := S) hW) (by decide) rfl (wr_800_22 (S := S) hW) ?_
  refine j_iload_n C dX8_removeMany_16 rfl 0 rfl ?_
  refine j_iald (j := 10) (v := 0) C dX8_removeMany_17 (wm_23 (S := S) hW) (wk_23 (S := S) hW) (inr_of (n := 16) (wl_23 (S := S) hW) (vp_lit (by decide))) (by decide) (z_ad23 _) ?_
  refine j_iconst (v := 1) C dX8_removeMany_18 (by decide) ?_
  refine j_ic_ne (tgt := 29) C dX8_removeMany_19 (by decide) (fun c9 => ?_) (fun c9 => absurd c9 (by decide))
  refine j_iinc (q := 0) (v := 11) (lv' := [(2, .int 11), (0, .ref (ad 22)), (1, .int 1)]) C dX8_removeMany_29 rfl (by decide) (by rw [hn9]; decide) rfl ?_
  show J _ _ _ _ _ 32 _
  refine j_goto (tgt := 2) C dX8_removeMany_32 (by decide) ?_
  refine j_iload_n C dX8_removeMany_2 rfl 0 rfl ?_
  refine j_bipush (v := 16) C dX8_removeMany_3 (by decide) ?_
  refine j_ic_ge (tgt := 35) C dX8_removeMany_5 (by decide) (fun c9 => absurd c9 (by decide)) (fun c9 => ?_)
  refine j_iload_n C dX8_removeMany_8 rfl 2 rfl ?_
  refine j_if_eq (tgt := 22) C dX8_removeMany_9 (by decide) (fun c9 => absurd c9 (by decide)) (fun c9 => ?_)
  refine j_aload_n C dX8_removeMany_12 rfl 1 rfl ?_
  refine j_getr (f := 800) (v := (ad 23)) C flX8_9 dX8_removeMany_13 (wm_22 (S := S) hW) (wk_22 (S := S) hW) (by decide) rfl (wr_800_22 (S := S) hW) ?_
  show J _ _ _ _ _ 16 _
  refine j_iload_n C dX8_removeMany_16 rfl 0 rfl ?_
  refine j_iald (j := 11) (v := 0) C dX8_removeMany_17 (wm_23 (S := S) hW) (wk_23 (S := S) hW) (inr_of (n := 16) (wl_23 (S := S) hW) (vp_lit (by decide))) (by decide) (z_ad23 _) ?_
  refine j_iconst (v := 1) C dX8_removeMany_18 (by decide) ?_
  refine j_ic_ne (tgt := 29) C dX8_removeMany_19 (by decide) (fun c9 => ?_) (fun c9 => absurd c9 (by decide))
  refine j_iinc (q := 0) (v := 12) (lv' := [(2, .int 12), (0, .ref (ad 22)), (1, .int 1)]) C dX8_removeMany_29 rfl (by decide) (by rw [hn9]; decide) rfl ?_
  refine j_goto (tgt := 2) C dX8_removeMany_32 (by decide) ?_
  refine j_iload_n C dX8_removeMany_2 rfl 0 rfl ?_
  refine j_bipush (v := 16) C dX8_removeMany_3 (by decide) ?_
  show J _ _ _ _ _ 5 _
  refine j_ic_ge (tgt := 35) C dX8_removeMany_5 (by decide) (fun c9 => absurd c9 (by decide)) (fun c9 => ?_)
  refine j_iload_n C dX8_removeMany_8 rfl 2 rfl ?_
  refine j_if_eq (tgt := 22) C dX8_removeMany_9 (by decide) (fun c9 => absurd c9 (by decide)) (fun c9 => ?_)
  refine j_aload_n C dX8_removeMany_12 rfl 1 rfl ?_
  refine j_getr (f := 800) (v := (ad 23)) C flX8_9 dX8_removeMany_13 (wm_22 (S := S) hW) (wk_22 (S := S) hW) (by decide) rfl (wr_800_22 (S := S) hW) ?_
  refine j_iload_n C dX8_removeMany_16 rfl 0 rfl ?_
  refine j_iald (j := 12) (v := 0) C dX8_removeMany_17 (wm_23 (S := S) hW) (wk_23 (S := S) hW) (inr_of (n := 16) (wl_23 (S := S) hW) (vp_lit (by decide))) (by decide) (z_ad23 _) ?_
  refine j_iconst (v := 1) C dX8_removeMany_18 (by decide) ?_
  show J _ _ _ _ _ 19 _
  refine j_ic_ne (tgt := 29) C dX8_removeMany_19 (by decide) (fun c9 => ?_) (fun c9 => absurd c9 (by decide))
  refine j_iinc (q := 0) (v := 13) (lv' := [(2, .int 13), (0, .ref (ad 22)), (1, .int 1)]) C dX8_removeMany_29 rfl (by decide) (by rw [hn9]; decide) rfl ?_
  refine j_goto (tgt := 2) C dX8_removeMany_32 (by decide) ?_
  refine j_iload_n C dX8_removeMany_2 rfl 0 rfl ?_
  refine j_bipush (v := 16) C dX8_removeMany_3 (by decide) ?_
  refine j_ic_ge (tgt := 35) C dX8_removeMany_5 (by decide) (fun c9 => absurd c9 (by decide)) (fun c9 => ?_)
  refine j_iload_n C dX8_removeMany_8 rfl 2 rfl ?_
  refine j_if_eq (tgt := 22) C dX8_removeMany_9 (by decide) (fun c9 => absurd c9 (by decide)) (fun c9 => ?_)
  show J _ _ _ _ _ 12 _
  refine j_aload_n C dX8_removeMany_12 rfl 1 rfl ?_
  refine j_getr (f := 800) (v := (ad 23)) C flX8_9 dX8_removeMany_13 (wm_22 (S := S) hW) (wk_22 (S := S) hW) (by decide) rfl (wr_800_22 (S := S) hW) ?_
  refine j_iload_n C dX8_removeMany_16 rfl 0 rfl ?_
  refine j_iald (j := 13) (v := 0) C dX8_removeMany_17 (wm_23 (S := S) hW) (wk_23 (S := S) hW) (inr_of (n := 16) (wl_23 (S := S) hW) (vp_lit (by decide))) (by decide) (z_ad23 _) ?_
  refine j_iconst (v := 1) C dX8_removeMany_18 (by decide) ?_
  refine j_ic_ne (tgt := 29) C dX8_removeMany_19 (by decide) (fun c9 => ?_) (fun c9 => absurd c9 (by decide))
  refine j_iinc (q := 0) (v := 14) (lv' := [(2, .int 14), (0, .ref (ad 22)), (1, .int 1)]) C dX8_removeMany_29 rfl (by decide) (by rw [hn9]; decide) rfl ?_
  refine j_goto (tgt := 2) C dX8_removeMany_32 (by decide) ?_
  show J _ _ _ _ _ 2 _
  refine j_iload_n C dX8_removeMany_2 rfl 0 rfl ?_
  refine j_bipush (v := 16) C dX8_removeMany_3 (by decide) ?_
  refine j_ic_ge (tgt := 35) C dX8_removeMany_5 (by decide) (fun c9 => absurd c9 (by decide)) (fun c9 => ?_)
  refine j_iload_n C dX8_removeMany_8 rfl 2 rfl ?_
  refine j_if_eq (tgt := 22) C dX8_removeMany_9 (by decide) (fun c9 => absurd c9 (by decide)) (fun c9 => ?_)
  refine j_aload_n C dX8_removeMany_12 rfl 1 rfl ?_
  refine j_getr (f := 800) (v := (ad 23)) C flX8_9 dX8_removeMany_13 (wm_22 (S := S) hW) (wk_22 (S := S) hW) (by decide) rfl (wr_800_22 (S := S) hW) ?_
  refine j_iload_n C dX8_removeMany_16 rfl 0 rfl ?_
  show J _ _ _ _ _ 17 _
  refine j_iald (j := 14) (v := 0) C dX8_removeMany_17 (wm_23 (S := S) hW) (wk_23 (S := S) hW) (inr_of (n := 16) (wl_23 (S := S) hW) (vp_lit (by decide))) (by decide) (z_ad23 _) ?_
  refine j_iconst (v := 1) C dX8_removeMany_18 (by decide) ?_
  refine j_ic_ne (tgt := 29) C dX8_removeMany_19 (by decide) (fun c9 => ?_) (fun c9 => absurd c9 (by decide))
  refine j_iinc (q := 0) (v := 15) (lv' := [(2, .int 15), (0, .ref (ad 22)), (1, .int 1)]) C dX8_removeMany_29 rfl (by decide) (by rw [hn9]; decide) rfl ?_
  refine j_goto (tgt := 2) C dX8_removeMany_32 (by decide) ?_
  refine j_iload_n C dX8_removeMany_2 rfl 0 rfl ?_
  refine j_bipush (v := 16) C dX8_removeMany_3 (by decide) ?_
  refine j_ic_ge (tgt := 35) C dX8_removeMany_5 (by decide) (fun c9 => absurd c9 (by decide)) (fun c9 => ?_)
  show J _ _ _ _ _ 8 _
  refine j_iload_n C dX8_removeMany_8 rfl 2 rfl ?_
  refine j_if_eq (tgt := 22) C dX8_removeMany_9 (by decide) (fun c9 => absurd c9 (by decide)) (fun c9 => ?_)
  refine j_aload_n C dX8_removeMany_12 rfl 1 rfl ?_
  refine j_getr (f := 800) (v := (ad 23)) C flX8_9 dX8_removeMany_13 (wm_22 (S := S) hW) (wk_22 (S := S) hW) (by decide) rfl (wr_800_22 (S := S) hW) ?_
  refine j_iload_n C dX8_removeMany_16 rfl 0 rfl ?_
  refine j_iald (j := 15) (v := 0) C dX8_removeMany_17 (wm_23 (S := S) hW) (wk_23 (S := S) hW) (inr_of (n := 16) (wl_23 (S := S) hW) (vp_lit (by decide))) (by decide) (z_ad23 _) ?_
  refine j_iconst (v := 1) C dX8_removeMany_18 (by decide) ?_
  refine j_ic_ne (tgt := 29) C dX8_removeMany_19 (by decide) (fun c9 => ?_) (fun c9 => absurd c9 (by decide))
  show J _ _ _ _ _ 29 _
  refine j_iinc (q := 0) (v := 16) (lv' := [(2, .int 16), (0, .ref (ad 22)), (1, .int 1)]) C dX8_removeMany_29 rfl (by decide) (by rw [hn9]; decide) rfl ?_
  refine j_goto (tgt := 2) C dX8_removeMany_32 (by decide) ?_
  refine j_iload_n C dX8_removeMany_2 rfl 0 rfl ?_
  refine j_bipush (v := 16) C dX8_removeMany_3 (by decide) ?_
  refine j_ic_ge (tgt := 35) C dX8_removeMany_5 (by decide) (fun c9 => ?_) (fun c9 => absurd (by decide) c9)
  exact j_vret C M dX8_removeMany_35 (by decide) (by decide) ⟨rfl, rfl⟩

theorem dX2_removeMany_0 : decode cX2_removeMany 0 = .ok (.iconst 0, 1) := by decide +kernel
theorem dX2_removeMany_1 : decode cX2_removeMany 1 = .ok (.istore_n 2, 1) := by decide +kernel
theorem dX2_removeMany_2 : decode cX2_removeMany 2 = .ok (.iload_n 2, 1) := by decide +kernel
theorem dX2_removeMany_3 : decode cX2_removeMany 3 = .ok (.bipush 16, 2) := by decide +kernel
theorem dX2_removeMany_5 : decode cX2_removeMany 5 = .ok (.if_icmp .ge 29, 3) := by decide +kernel
theorem dX2_removeMany_8 : decode cX2_removeMany 8 = .ok (.iload_n 1, 1) := by decide +kernel
theorem dX2_removeMany_9 : decode cX2_removeMany 9 = .ok (.ifCond .eq 14, 3) := by decide +kernel
theorem dX2_removeMany_12 : decode cX2_removeMany 12 = .ok (.aload_n 0, 1) := by decide +kernel
theorem dX2_removeMany_13 : decode cX2_removeMany 13 = .ok (.getfield 14, 3) := by decide +kernel
theorem dX2_removeMany_16 : decode cX2_removeMany 16 = .ok (.iload_n 2, 1) := by decide +kernel
theorem dX2_removeMany_17 : decode cX2_removeMany 17 = .ok (.invokevirtual 103, 3) := by decide +kernel
theorem dX2_removeMany_20 : decode cX2_removeMany 20 = .ok (.ifCond .eq 8, 3) := by decide +kernel
theorem dX2_removeMany_23 : decode cX2_removeMany 23 = .ok (.aload_n 0, 1) := by decide +kernel
theorem dX2_removeMany_24 : decode cX2_removeMany 24 = .ok (.iload_n 2, 1) := by decide +kernel
theorem dX2_removeMany_25 : decode cX2_removeMany 25 = .ok (.invokevirtual 73, 3) := by decide +kernel
theorem dX2_removeMany_28 : decode cX2_removeMany 28 = .ok (.iinc 2 1, 3) := by decide +kernel
theorem dX2_removeMany_31 : decode cX2_removeMany 31 = .ok (.goto (-29), 3) := by decide +kernel
theorem dX2_removeMany_34 : decode cX2_removeMany 34 = .ok (.return_, 1) := by decide +kernel

set_option maxRecDepth 100000 in
set_option maxHeartbeats 4000000 in
theorem c_X2_removeMany (S : Hp) (ad : Nat → Nat) (hW : Wd ad S) (z_ad17 : ∀ j, aI S (ad 17) j = 0) : Ct 4 yX2_removeMany cX2_removeMany 3 none 0 0 [.ref (ad 15), .int 1] S (fun r S' => r = none ∧ S' = S) := by
  refine ct_of (by decide) (Nat.le_of_ble_eq_true rfl) fun x hn9 C M hm9 => ?_
  have C : CB x RX2 cX2_removeMany := C
  refine J.eq (lv' := [(0, .ref (ad 15)), (1, .int 1)]) rfl rfl rfl ?_
  refine j_iconst (v := 0) C dX2_removeMany_0 (by decide) ?_
  refine j_istore_n (lv' := [(2, .int 0), (0, .ref (ad 15)), (1, .int 1)]) C dX2_removeMany_1 rfl (by rw [hn9]; decide) rfl ?_
  refine j_iload_n C dX2_removeMany_2 rfl 0 rfl ?_
  refine j_bipush (v := 16) C dX2_removeMany_3 (by decide) ?_
  refine j_ic_ge (tgt := 34) C dX2_removeMany_5 (by decide) (fun c9 => absurd c9 (by decide)) (fun c9 => ?_)
  refine j_iload_n C dX2_removeMany_8 rfl 2 rfl ?_
  refine j_if_eq (tgt := 23) C dX2_removeMany_9 (by decide) (fun c9 => absurd c9 (by decide)) (fun c9 => ?_)
  refine j_aload_n C dX2_removeMany_12 rfl 1 rfl ?_
  show J _ _ _ _ _ 13 _
  refine j_getr (f := 200) (v := (ad 16)) C flX2_14 dX2_removeMany_13 (wm_15 (S := S) hW) (wk_15 (S := S) hW) (by decide) rfl (wr_200_15 (S := S) hW) ?_
  refine j_iload_n C dX2_removeMany_16 rfl 0 rfl ?_
  refine j_callV (ci := 8) C [.int 0] [] mlX2_103 mcX8_isTemporary (c_X8_isTemporary S ad hW 0 z_ad17) (wm_16 (S := S) hW) (wk_16 (S := S) hW) rfl (M.rm (by decide) (by decide) (Nat.le_of_ble_eq_true rfl) (Nat.le_of_ble_eq_true rfl)) rfl rfl (Nat.le_of_ble_eq_true rfl) dX2_removeMany_17 (fun r_1 S_2 hp_3 => ?_)
  obtain ⟨rfl, e_4⟩ := hp_3
  refine J.eq (S' := S) (st' := [.int 0]) (lv' := [(2, .int 0), (0, .ref (ad 15)), (1, .int 1)]) e_4 rfl rfl ?_
  refine j_if_eq (tgt := 28) C dX2_removeMany_20 (by decide) (fun c9 => ?_) (fun c9 => absurd (by decide) c9)
  refine j_iinc (q := 0) (v := 1) (lv' := [(2, .int 1), (0, .ref (ad 15)), (1, .int 1)]) C dX2_removeMany_28 rfl (by decide) (by rw [hn9]; decide) rfl ?_
  refine j_goto (tgt := 2) C dX2_removeMany_31 (by decide) ?_
  refine j_iload_n C dX2_removeMany_2 rfl 0 rfl ?_
  refine j_bipush (v := 16) C dX2_removeMany_3 (by decide) ?_
  show J _ _ _ _ _ 5 _
  refine j_ic_ge (tgt := 34) C dX2_removeMany_5 (by decide) (fun c9 => absurd c9 (by decide)) (fun c9 => ?_)
  refine j_iload_n C dX2_removeMany_8 rfl 2 rfl ?_
  refine j_if_eq (tgt := 23) C dX2_removeMany_9 (by decide) (fun c9 => absurd c9 (by decide)) (fun c9 => ?_)
  refine j_aload_n C dX2_removeMany_12 rfl 1 rfl ?_
  refine j_getr (f := 200) (v := (ad 16)) C flX2_14 dX2_removeMany_13 (wm_15 (S := S) hW) (wk_15 (S := S) hW) (by decide) rfl (wr_200_15 (S := S) hW) ?_
  refine j_iload_n C dX2_removeMany_16 rfl 0 rfl ?_
  refine j_callV (ci := 8) C [.int 1] [] mlX2_103 mcX8_isTemporary (c_X8_isTemporary S ad hW 1 z_ad17) (wm_16 (S := S) hW) (wk_16 (S := S) hW) rfl (M.rm (by decide) (by decide) (Nat.le_of_ble_eq_true rfl) (Nat.le_of_ble_eq_true rfl)) rfl rfl (Nat.le_of_ble_eq_true rfl) dX2_removeMany_17 (fun r_5 S_6 hp_7 => ?_)
  obtain ⟨rfl, e_8⟩ := hp_7
  refine J.eq (S' := S) (st' := [.int 0]) (lv' := [(2, .int 1), (0, .ref (ad 15)), (1, .int 1)]) e_8 rfl rfl ?_
  refine j_if_eq (tgt := 28) C dX2_removeMany_20 (by decide) (fun c9 => ?_) (fun c9 => absurd (by decide) c9)
  show J _ _ _ _ _ 28 _
  refine j_iinc (q := 0) (v := 2) (lv' := [(2, .int 2), (0, .ref (ad 15)), (1, .int 1)]) C dX2_removeMany_28 rfl (by decide) (by rw [hn9]; decide) rfl ?_
  refine j_goto (tgt := 2) C dX2_removeMany_31 (by decide) ?_
  refine j_iload_n C dX2_removeMany_2 rfl 0 rfl ?_
  refine j_bipush (v := 16) C dX2_removeMany_3 (by decide) ?_
  refine j_ic_ge (tgt := 34) C dX2_removeMany_5 (by decide) (fun c9 => absurd c9 (by decide)) (fun c9 => ?_)
  refine j_iload_n C dX2_removeMany_8 rfl 2 rfl ?_
  refine j_if_eq (tgt := 23) C dX2_removeMany_9 (by decide) (fun c9 => absurd c9 (by decide)) (fun c9 => ?_)
  refine j_aload_n C dX2_removeMany_12 rfl 1 rfl ?_
  show J _ _ _ _ _ 13 _
  refine j_getr (f := 200) (v := (ad 16)) C flX2_14 dX2_removeMany_13 (wm_15 (S := S) hW) (wk_15 (S := S) hW) (by decide) rfl (wr_200_15 (S := S) hW) ?_
  refine j_iload_n C dX2_removeMany_16 rfl 0 rfl ?_
  refine j_callV (ci := 8) C [.int 2] [] mlX2_103 mcX8_isTemporary (c_X8_isTemporary S ad hW 2 z_ad17) (wm_16 (S := S) hW) (wk_16 (S := S) hW) rfl (M.rm (by decide) (by decide) (Nat.le_of_ble_eq_true rfl) (Nat.le_of_ble_eq_true rfl)) rfl rfl (Nat.le_of_ble_eq_true rfl) dX2_removeMany_17 (fun r_9 S_10 hp_11 => ?_)
  obtain ⟨rfl, e_12⟩ := hp_11
  refine J.eq (S' := S) (st' := [.int 0]) (lv' := [(2, .int 2), (0, .ref (ad 15)), (1, .int 1)]) e_12 rfl rfl ?_
  refine j_if_eq (tgt := 28) C dX2_removeMany_20 (by decide) (fun c9 => ?_) (fun c9 => absurd (by decide) c9)
  refine j_iinc (q := 0) (v := 3) (lv' := [(2, .int 3), (0, .ref (ad 15)), (1, .int 1)]) C dX2_removeMany_28 rfl (by decide) (by rw [hn9]; decide) rfl ?_
  refine j_goto (tgt := 2) C dX2_removeMany_31 (by decide) ?_
  refine j_iload_n C dX2_removeMany_2 rfl 0 rfl ?_
  refine j_bipush (v := 16) C dX2_removeMany_3 (by decide) ?_
  show J _ _ _ _ _ 5 _
  refine j_ic_ge (tgt := 34) C dX2_removeMany_5 (by decide) (fun c9 => absurd c9 (by decide)) (fun c9 => ?_)
  refine j_iload_n C dX2_removeMany_8 rfl 2 rfl ?_
  refine j_if_eq (tgt := 23) C dX2_removeMany_9 (by decide) (fun c9 => absurd c9 (by decide)) (fun c9 => ?_)
  refine j_aload_n C dX2_removeMany_12 rfl 1 rfl ?_
  refine j_getr (f := 200) (v := (ad 16)) C flX2_14 dX2_removeMany_13 (wm_15 (S := S) hW) (wk_15 (S := S) hW) (by decide) rfl (wr_200_15 (S := S) hW) ?_
  refine j_iload_n C dX2_removeMany_16 rfl 0 rfl ?_
  refine j_callV (ci := 8) C [.int 3] [] mlX2_103 mcX8_isTemporary (c_X8_isTemporary S ad hW 3 z_ad17) (wm_16 (S := S) hW) (wk_16 (S := S) hW) rfl (M.rm (by decide) (by decide) (Nat.le_of_ble_eq_true rfl) (Nat.le_of_ble_eq_true rfl)) rfl rfl (Nat.le_of_ble_eq_true rfl) dX2_removeMany_17 (fun r_13 S_14 hp_15 => ?_)
  obtain ⟨rfl, e_16⟩ := hp_15
  refine J.eq (S' := S) (st' := [.int 0]) (lv' := [(2, .int 3), (0, .ref (ad 15)), (1, .int 1)]) e_16 rfl rfl ?_
  refine j_if_eq (tgt := 28) C dX2_removeMany_20 (by decide) (fun c9 => ?_) (fun c9 => absurd (by decide) c9)
  show J _ _ _ _ _ 28 _
  refine j_iinc (q := 0) (v := 4) (lv' := [(2, .int 4), (0, .ref (ad 15)), (1, .int 1)]) C dX2_removeMany_28 rfl (by decide) (by rw [hn9]; decide) rfl ?_
  refine j_goto (tgt := 2) C dX2_removeMany_31 (by decide) ?_
  refine j_iload_n C dX2_removeMany_2 rfl 0 rfl ?_
  refine j_bipush (v := 16) C dX2_removeMany_3 (by decide) ?_
  refine j_ic_ge (tgt := 34) C dX2_removeMany_5 (by decide) (fun c9 => absurd c9 (by decide)) (fun c9 => ?_)
  refine j_iload_n C dX2_removeMany_8 rfl 2 rfl ?_
  refine j_if_eq (tgt := 23) C dX2_removeMany_9 (by decide) (fun c9 => absurd c9 (by decide)) (fun c9 => ?_)
  refine j_aload_n C dX2_removeMany_12 rfl 1 rfl ?_
  show J _ _ _ _ _ 13 _
  refine j_getr (f := 200) (v := (ad 16)) C flX2_14 dX2_removeMany_13 (wm_15 (S := S) hW) (wk_15 (S := S) hW) (by decide) rfl (wr_200_15 (S := S) hW) ?_
  refine j_iload_n C dX2_removeMany_16 rfl 0 rfl ?_
  refine j_callV (ci := 8) C [.int 4] [] mlX2_103 mcX8_isTemporary (c_X8_isTemporary S ad hW 4 z_ad17) (wm_16 (S := S) hW) (wk_16 (S := S) hW) rfl (M.rm (by decide) (by decide) (Nat.le_of_ble_eq_true rfl) (Nat.le_of_ble_eq_true rfl)) rfl rfl (Nat.le_of_ble_eq_true rfl) dX2_removeMany_17 (fun r_17 S_18 hp_19 => ?_)
  obtain ⟨rfl, e_20⟩ := hp_19
  refine J.eq (S' := S) (st' := [.int 0]) (lv' := [(2, .int 4), (0, .ref (ad 15)), (1, .int 1)]) e_20 rfl rfl ?_
  refine j_if_eq (tgt := 28) C dX2_removeMany_20 (by decide) (fun c9 => ?_) (fun c9 => absurd (by decide) c9)
  refine j_iinc (q := 0) (v := 5) (lv' := [(2, .int 5), (0, .ref (ad 15)), (1, .int 1)]) C dX2_removeMany_28 rfl (by decide) (by rw [hn9]; decide) rfl ?_
  refine j_goto (tgt := 2) C dX2_removeMany_31 (by decide) ?_
  refine j_iload_n C dX2_removeMany_2 rfl 0 rfl ?_
  refine j_bipush (v := 16) C dX2_removeMany_3 (by decide) ?_
  show J _ _ _ _ _ 5 _
  refine j_ic_ge (tgt := 34) C dX2_removeMany_5 (by decide) (fun c9 => absurd c9 (by decide)) (fun c9 => ?_)
  refine j_iload_n C dX2_removeMany_8 rfl 2 rfl ?_
  refine j_if_eq (tgt := 23) C dX2_removeMany_9 (by decide) (fun c9 => absurd c9 (by decide)) (fun c9 => ?_)
  refine j_aload_n C dX2_removeMany_12 rfl 1 rfl ?_
  refine j_getr (f := 200) (v := (ad 16)) C flX2_14 dX2_removeMany_13 (wm_15 (S := S) hW) (wk_15 (S := S) hW) (by decide) rfl (wr_200_15 (S := S) hW) ?_
  refine j_iload_n C dX2_removeMany_16 rfl 0 rfl ?_
  refine j_callV (ci := 8) C [.int 5] [] mlX2_103 mcX8_isTemporary (c_X8_isTemporary S ad hW 5 z_ad17) (wm_16 (S := S) hW) (wk_16 (S := S) hW) rfl (M.rm (by decide) (by decide) (Nat.le_of_ble_eq_true rfl) (Nat.le_of_ble_eq_true rfl)) rfl rfl (Nat.le_of_ble_eq_true rfl) dX2_removeMany_17 (fun r_21 S_22 hp_23 => ?_)
  obtain ⟨rfl, e_24⟩ := hp_23
  refine J.eq (S' := S) (st' := [.int 0]) (lv' := [(2, .int 5), (0, .ref (ad 15)), (1, .int 1)]) e_24 rfl rfl ?_
  refine j_if_eq (tgt := 28) C dX2_removeMany_20 (by decide) (fun c9 => ?_) (fun c9 => absurd (by decide) c9)
  show J _ _ _ _ _ 28 _
  refine j_iinc (q := 0) (v := 6) (lv' := [(2, .int 6), (0, .ref (ad 15)), (1, .int 1)]) C dX2_removeMany_28 rfl (by decide) (by rw [hn9]; decide) rfl ?_
  refine j_goto (tgt := 2) C dX2_removeMany_31 (by decide) ?_
  refine j_iload_n C dX2_removeMany_2 rfl 0 rfl ?_
  refine j_bipush (v := 16) C dX2_removeMany_3 (by decide) ?_
  refine j_ic_ge (tgt := 34) C dX2_removeMany_5 (by decide) (fun c9 => absurd c9 (by decide)) (fun c9 => ?_)
  refine j_iload_n C dX2_removeMany_8 rfl 2 rfl ?_
  refine j_if_eq (tgt := 23) C dX2_removeMany_9 (by decide) (fun c9 => absurd c9 (by decide)) (fun c9 => ?_)
  refine j_aload_n C dX2_removeMany_12 rfl 1 rfl ?_
  show J _ _ _ _ _ 13 _
  refine j_getr (f := 200) (v := (ad 16)) C flX2_14 dX2_removeMany_13 (wm_15 (S := S) hW) (wk_15 (S := S) hW) (by decide) rfl (wr_200_15 (S := S) hW) ?_
  refine j_iload_n C dX2_removeMany_16 rfl 0 rfl ?_
  refine j_callV (ci := 8) C [.int 6] [] mlX2_103 mcX8_isTemporary (c_X8_isTemporary S ad hW 6 z_ad17) (wm_16 (S := S) hW) (wk_16 (S := S) hW) rfl (M.rm (by decide) (by decide) (Nat.le_of_ble_eq_true rfl) (Nat.le_of_ble_eq_true rfl)) rfl rfl (Nat.le_of_ble_eq_true rfl) dX2_removeMany_17 (fun r_25 S_26 hp_27 => ?_)
  obtain ⟨rfl, e_28⟩ := hp_27
  refine J.eq (S' := S) (st' := [.int 0]) (lv' := [(2, .int 6), (0, .ref (ad 15)), (1, .int 1)]) e_28 rfl rfl ?_
  refine j_if_eq (tgt := 28) C dX2_removeMany_20 (by decide) (fun c9 => ?_) (fun c9 => absurd (by decide) c9)
  refine j_iinc (q := 0) (v := 7) (lv' := [(2, .int 7), (0, .ref (ad 15)), (1, .int 1)]) C dX2_removeMany_28 rfl (by decide) (by rw [hn9]; decide) rfl ?_
  refine j_goto (tgt := 2) C dX2_removeMany_31 (by decide) ?_
  refine j_iload_n C dX2_removeMany_2 rfl 0 rfl ?_
  refine j_bipush (v := 16) C dX2_removeMany_3 (by decide) ?_
  show J _ _ _ _ _ 5 _
  refine j_ic_ge (tgt := 34) C dX2_removeMany_5 (by decide) (fun c9 => absurd c9 (by decide)) (fun c9 => ?_)
  refine j_iload_n C dX2_removeMany_8 rfl 2 rfl ?_
  refine j_if_eq (tgt := 23) C dX2_removeMany_9 (by decide) (fun c9 => absurd c9 (by decide)) (fun c9 => ?_)
  refine j_aload_n C dX2_removeMany_12 rfl 1 rfl ?_
  refine j_getr (f := 200) (v := (ad 16)) C flX2_14 dX2_removeMany_13 (wm_15 (S := S) hW) (wk_15 (S := S) hW) (by decide) rfl (wr_200_15 (S := S) hW) ?_
  refine j_iload_n C dX2_removeMany_16 rfl 0 rfl ?_
  refine j_callV (ci := 8) C [.int 7] [] mlX2_103 mcX8_isTemporary (c_X8_isTemporary S ad hW 7 z_ad17) (wm_16 (S := S) hW) (wk_16 (S := S) hW) rfl (M.rm (by decide) (by decide) (Nat.le_of_ble_eq_true rfl) (Nat.le_of_ble_eq_true rfl)) rfl rfl (Nat.le_of_ble_eq_true rfl) dX2_removeMany_17 (fun r_29 S_30 hp_31 => ?_)
  obtain ⟨rfl, e_32⟩ := hp_31
  refine J.eq (S' := S) (st' := [.int 0]) (lv' := [(2, .int 7), (0, .ref (ad 15)), (1, .int 1)]) e_32 rfl rfl ?_
  refine j_if_eq (tgt := 28) C dX2_removeMany_20 (by decide) (fun c9 => ?_) (fun c9 => absurd (by decide) c9)
  show J _ _ _ _ _ 28 _
  refine j_iinc (q := 0) (v := 8) (lv' := [(2, .int 8), (0, .ref (ad 15)), (1, .int 1)]) C dX2_removeMany_28 rfl (by decide) (by rw [hn9]; decide) rfl ?_
  refine j_goto (tgt := 2) C dX2_removeMany_31 (by decide) ?_
  refine j_iload_n C dX2_removeMany_2 rfl 0 rfl ?_
  refine j_bipush (v := 16) C dX2_removeMany_3 (by decide) ?_
  refine j_ic_ge (tgt := 34) C dX2_removeMany_5 (by decide) (fun c9 => absurd c9 (by decide)) (fun c9 => ?_)
  refine j_iload_n C dX2_removeMany_8 rfl 2 rfl ?_
  refine j_if_eq (tgt := 23) C dX2_removeMany_9 (by decide) (fun c9 => absurd c9 (by decide)) (fun c9 => ?_)
  refine j_aload_n C dX2_removeMany_12 rfl 1 rfl ?_
  show J _ _ _ _ _ 13 _
  refine j_getr (f := 200) (v := (ad 16)) C flX2_14 dX2_removeMany_13 (wm_15 (S := S) hW) (wk_15 (S := S) hW) (by decide) rfl (wr_200_15 (S := S) hW) ?_
  refine j_iload_n C dX2_removeMany_16 rfl 0 rfl ?_
  refine j_callV (ci := 8) C [.int 8] [] mlX2_103 mcX8_isTemporary (c_X8_isTemporary S ad hW 8 z_ad17) (wm_16 (S := S) hW) (wk_16 (S := S) hW) rfl (M.rm (by decide) (by decide) (Nat.le_of_ble_eq_true rfl) (Nat.le_of_ble_eq_true rfl)) rfl rfl (Nat.le_of_ble_eq_true rfl) dX2_removeMany_17 (fun r_33 S_34 hp_35 => ?_)
  obtain ⟨rfl, e_36⟩ := hp_35
  refine J.eq (S' := S) (st' := [.int 0]) (lv' := [(2, .int 8), (0, .ref (ad 15)), (1, .int 1)]) e_36 rfl rfl ?_
  refine j_if_eq (tgt := 28) C dX2_removeMany_20 (by decide) (fun c9 => ?_) (fun c9 => absurd (by decide) c9)
  refine j_iinc (q := 0) (v := 9) (lv' := [(2, .int 9), (0, .ref (ad 15)), (1, .int 1)]) C dX2_removeMany_28 rfl (by decide) (by rw [hn9]; decide) rfl ?_
  refine j_goto (tgt := 2) C dX2_removeMany_31 (by decide) ?_
  refine j_iload_n C dX2_removeMany_2 rfl 0 rfl ?_
  refine j_bipush (v := 16) C dX2_removeMany_3 (by decide) ?_
  show J _ _ _ _ _ 5 _
  refine j_ic_ge (tgt := 34) C dX2_removeMany_5 (by decide) (fun c9 => absurd c9 (by decide)) (fun c9 => ?_)
  refine j_iload_n C dX2_removeMany_8 rfl 2 rfl ?_
  refine j_if_eq (tgt := 23) C dX2_removeMany_9 (by decide) (fun c9 => absurd c9 (by decide)) (fun c9 => ?_)
  refine j_aload_n C dX2_removeMany_12 rfl 1 rfl ?_
  refine j_getr (f := 200) (v := (ad 16)) C flX2_14 dX2_removeMany_13 (wm_15 (S := S) hW) (wk_15 (S := S) hW) (by decide) rfl (wr_200_15 (S := S) hW) ?_
  refine j_iload_n C dX2_removeMany_16 rfl 0 rfl ?_
  refine j_callV (ci := 8) C [.int 9] [] mlX2_103 mcX8_isTemporary (c_X8_isTemporary S ad hW 9 z_ad17) (wm_16 (S := S) hW) (wk_16 (S := S) hW) rfl (M.rm (by decide) (by decide) (Nat.le_of_ble_eq_true rfl) (Nat.le_of_ble_eq_true rfl)) rfl rfl (Nat.le_of_ble_eq_true rfl) dX2_removeMany_17 (fun r_37 S_38 hp_39 => ?_)
  obtain ⟨rfl, e_40⟩ := hp_39
  refine J.eq (S' := S) (st' := [.int 0]) (lv' := [(2, .int 9), (0, .ref (ad 15)), (1, .int 1)]) e_40 rfl rfl ?_
  refine j_if_eq (tgt := 28) C dX2_removeMany_20 (by decide) (fun c9 => ?_) (fun c9 => absurd (by decide) c9)
  show J _ _ _ _ _ 28 _
  refine j_iinc (q := 0) (v := 10) (lv' := [(2, .int 10), (0, .ref (ad 15)), (1, .int 1)]) C dX2_removeMany_28 rfl (by decide) (by rw [hn9]; decide) rfl ?_
  refine j_goto (tgt := 2) C dX2_removeMany_31 (by decide) ?_
  refine j_iload_n C dX2_removeMany_2 rfl 0 rfl ?_
  refine j_bipush (v := 16) C dX2_removeMany_3 (by decide) ?_
  refine j_ic_ge (tgt := 34) C dX2_removeMany_5 (by decide) (fun c9 => absurd c9 (by decide)) (fun c9 => ?_)
  refine j_iload_n C dX2_removeMany_8 rfl 2 rfl ?_
  refine j_if_eq (tgt := 23) C dX2_removeMany_9 (by decide) (fun c9 => absurd c9 (by decide)) (fun c9 => ?_)
  refine j_aload_n C dX2_removeMany_12 rfl 1 rfl ?_
  show J _ _ _ _ _ 13 _
  refine j_getr (f := 200) (v := (ad 16)) C flX2_14 dX2_removeMany_13 (wm_15 (S := S) hW) (wk_15 (S := S) hW) (by decide) rfl (wr_200_15 (S := S) hW) ?_
  refine j_iload_n C dX2_removeMany_16 rfl 0 rfl ?_
  refine j_callV (ci := 8) C [.int 10] [] mlX2_103 mcX8_isTemporary (c_X8_isTemporary S ad hW 10 z_ad17) (wm_16 (S := S) hW) (wk_16 (S := S) hW) rfl (M.rm (by decide) (by decide) (Nat.le_of_ble_eq_true rfl) (Nat.le_of_ble_eq_true rfl)) rfl rfl (Nat.le_of_ble_eq_true rfl) dX2_removeMany_17 (fun r_41 S_42 hp_43 => ?_)
  obtain ⟨rfl, e_44⟩ := hp_43
  refine J.eq (S' := S) (st' := [.int 0]) (lv' := [(2, .int 10), (0, .ref (ad 15)), (1, .int 1)]) e_44 rfl rfl ?_
  refine j_if_eq (tgt := 28) C dX2_removeMany_20 (by decide) (fun c9 => ?_) (fun c9 => absurd (by decide) c9)
  refine j_iinc (q := 0) (v := 11) (lv' := [(2, .int 11), (0, .ref (ad 15)), (1, .int 1)]) C dX2_removeMany_28 rfl (by decide) (by rw [hn9]; decide) rfl ?_
  refine j_goto (tgt := 2) C dX2_removeMany_31 (by decide) ?_
  refine j_iload_n C dX2_removeMany_2 rfl 0 rfl ?_
  refine j_bipush (v := 16) C dX2_removeMany_3 (by decide) ?_
  show J _ _ _ _ _ 5 _
  refine j_ic_ge (tgt := 34) C dX2_removeMany_5 (by decide) (fun c9 => absurd c9 (by decide)) (fun c9 => ?_)
  refine j_iload_n C dX2_removeMany_8 rfl 2 rfl ?_
  refine j_if_eq (tgt := 23) C dX2_removeMany_9 (by decide) (fun c9 => absurd c9 (by decide)) (fun c9 => ?_)
  refine j_aload_n C dX2_removeMany_12 rfl 1 rfl ?_
  refine j_getr (f := 200) (v := (ad 16)) C flX2_14 dX2_removeMany_13 (wm_15 (S := S) hW) (wk_15 (S := S) hW) (by decide) rfl (wr_200_15 (S := S) hW) ?_
  refine j_iload_n C dX2_removeMany_16 rfl 0 rfl ?_
  refine j_callV (ci := 8) C [.int 11] [] mlX2_103 mcX8_isTemporary (c_X8_isTemporary S ad hW 11 z_ad17) (wm_16 (S := S) hW) (wk_16 (S := S) hW) rfl (M.rm (by decide) (by decide) (Nat.le_of_ble_eq_true rfl) (Nat.le_of_ble_eq_true rfl)) rfl rfl (Nat.le_of_ble_eq_true rfl) dX2_removeMany_17 (fun r_45 S_46 hp_47 => ?_)
  obtain ⟨rfl, e_48⟩ := hp_47
  refine J.eq (S' := S) (st' := [.int 0]) (lv' := [(2, .int 11), (0, .ref (ad 15)), (1, .int 1)]) e_48 rfl rfl ?_
  refine j_if_eq (tgt := 28) C dX2_removeMany_20 (by decide) (fun c9 => ?_) (fun c9 => absurd (by decide) c9)
  show J _ _ _ _ _ 28 _
  refine j_iinc (q := 0) (v := 12) (lv' := [(2, .int 12), (0, .ref (ad 15)), (1, .int 1)]) C dX2_removeMany_28 rfl (by decide) (by rw [hn9]; decide) rfl ?_
  refine j_goto (tgt := 2) C dX2_removeMany_31 (by decide) ?_
  refine j_iload_n C dX2_removeMany_2 rfl 0 rfl ?_
  refine j_bipush (v := 16) C dX2_removeMany_3 (by decide) ?_
  refine j_ic_ge (tgt := 34) C dX2_removeMany_5 (by decide) (fun c9 => absurd c9 (by decide)) (fun c9 => ?_)
  refine j_iload_n C dX2_removeMany_8 rfl 2 rfl ?_
  refine j_if_eq (tgt := 23) C dX2_removeMany_9 (by decide) (fun c9 => absurd c9 (by decide)) (fun c9 => ?_)
  refine j_aload_n C dX2_removeMany_12 rfl 1 rfl ?_
  show J _ _ _ _ _ 13 _
  refine j_getr (f := 200) (v := (ad 16)) C flX2_14 dX2_removeMany_13 (wm_15 (S := S) hW) (wk_15 (S := S) hW) (by decide) rfl (wr_200_15 (S := S) hW) ?_
  refine j_iload_n C dX2_removeMany_16 rfl 0 rfl ?_
  refine j_callV (ci := 8) C [.int 12] [] mlX2_103 mcX8_isTemporary (c_X8_isTemporary S ad hW 12 z_ad17) (wm_16 (S := S) hW) (wk_16 (S := S) hW) rfl (M.rm (by decide) (by decide) (Nat.le_of_ble_eq_true rfl) (Nat.le_of_ble_eq_true rfl)) rfl rfl (Nat.le_of_ble_eq_true rfl) dX2_removeMany_17 (fun r_49 S_50 hp_51 => ?_)
  obtain ⟨rfl, e_52⟩ := hp_51
  refine J.eq (S' := S) (st' := [.int 0]) (lv' := [(2, .int 12), (0, .ref (ad 15)), (1, .int 1)]) e_52 rfl rfl ?_
  refine j_if_eq (tgt := 28) C dX2_removeMany_20 (by decide) (fun c9 => ?_) (fun c9 => absurd (by decide) c9)
  refine j_iinc (q := 0) (v := 13) (lv' := [(2, .int 13), (0, .ref (ad 15)), (1, .int 1)]) C dX2_removeMany_28 rfl (by decide) (by rw [hn9]; decide) rfl ?_
  refine j_goto (tgt := 2) C dX2_removeMany_31 (by decide) ?_
  refine j_iload_n C dX2_removeMany_2 rfl 0 rfl ?_
  refine j_bipush (v := 16) C dX2_removeMany_3 (by decide) ?_
  show J _ _ _ _ _ 5 _
  refine j_ic_ge (tgt := 34) C dX2_removeMany_5 (by decide) (fun c9 => absurd c9 (by decide)) (fun c9 => ?_)
  refine j_iload_n C dX2_removeMany_8 rfl 2 rfl ?_
  refine j_if_eq (tgt := 23) C dX2_removeMany_9 (by decide) (fun c9 => absurd c9 (by decide)) (fun c9 => ?_)
  refine j_aload_n C dX2_removeMany_12 rfl 1 rfl ?_
  refine j_getr (f := 200) (v := (ad 16)) C flX2_14 dX2_removeMany_13 (wm_15 (S := S) hW) (wk_15 (S := S) hW) (by decide) rfl (wr_200_15 (S := S) hW) ?_
  refine j_iload_n C dX2_removeMany_16 rfl 0 rfl ?_
  refine j_callV (ci := 8) C [.int 13] [] mlX2_103 mcX8_isTemporary (c_X8_isTemporary S ad hW 13 z_ad17) (wm_16 (S := S) hW) (wk_16 (S := S) hW) rfl (M.rm (by decide) (by decide) (Nat.le_of_ble_eq_true rfl) (Nat.le_of_ble_eq_true rfl)) rfl rfl (Nat.le_of_ble_eq_true rfl) dX2_removeMany_17 (fun r_53 S_54 hp_55 => ?_)
  obtain ⟨rfl, e_56⟩ := hp_55
  refine J.eq (S' := S) (st' := [.int 0]) (lv' := [(2, .int 13), (0, .ref (ad 15)), (1, .int 1)]) e_56 rfl rfl ?_
  refine j_if_eq (tgt := 28) C dX2_removeMany_20 (by decide) (fun c9 => ?_) (fun c9 => absurd (by decide) c9)
  show J _ _ _ _ _ 28 _
  refine j_iinc (q := 0) (v := 14) (lv' := [(2, .int 14), (0, .ref (ad 15)), (1, .int 1)]) C dX2_removeMany_28 rfl (by decide) (by rw [hn9]; decide) rfl ?_
  refine j_goto (tgt := 2) C dX2_removeMany_31 (by decide) ?_
  refine j_iload_n C dX2_removeMany_2 rfl 0 rfl ?_
  refine j_bipush (v := 16) C dX2_removeMany_3 (by decide) ?_
  refine j_ic_ge (tgt := 34) C dX2_removeMany_5 (by decide) (fun c9 => absurd c9 (by decide)) (fun c9 => ?_)
  refine j_iload_n C dX2_removeMany_8 rfl 2 rfl ?_
  refine j_if_eq (tgt := 23) C dX2_removeMany_9 (by decide) (fun c9 => absurd c9 (by decide)) (fun c9 => ?_)
  refine j_aload_n C dX2_removeMany_12 rfl 1 rfl ?_
  show J _ _ _ _ _ 13 _
  refine j_getr (f := 200) (v := (ad 16)) C flX2_14 dX2_removeMany_13 (wm_15 (S := S) hW) (wk_15 (S := S) hW) (by decide) rfl (wr_200_15 (S := S) hW) ?_
  refine j_iload_n C dX2_removeMany_16 rfl 0 rfl ?_
  refine j_callV (ci := 8) C [.int 14] [] mlX2_103 mcX8_isTemporary (c_X8_isTemporary S ad hW 14 z_ad17) (wm_16 (S := S) hW) (wk_16 (S := S) hW) rfl (M.rm (by decide) (by decide) (Nat.le_of_ble_eq_true rfl) (Nat.le_of_ble_eq_true rfl)) rfl rfl (Nat.le_of_ble_eq_true rfl) dX2_removeMany_17 (fun r_57 S_58 hp_59 => ?_)
  obtain ⟨rfl, e_60⟩ := hp_59
  refine J.eq (S' := S) (st' := [.int 0]) (lv' := [(2, .int 14), (0, .ref (ad 15)), (1, .int 1)]) e_60 rfl rfl ?_
  refine j_if_eq (tgt := 28) C dX2_removeMany_20 (by decide) (fun c9 => ?_) (fun c9 => absurd (by decide) c9)
  refine j_iinc (q := 0) (v := 15) (lv' := [(2, .int 15), (0, .ref (ad 15)), (1, .int 1)]) C dX2_removeMany_28 rfl (by decide) (by rw [hn9]; decide) rfl ?_
  refine j_goto (tgt := 2) C dX2_removeMany_31 (by decide) ?_
  refine j_iload_n C dX2_removeMany_2 rfl 0 rfl ?_
  refine j_bipush (v := 16) C dX2_removeMany_3 (by decide) ?_
  show J _ _ _ _ _ 5 _
  refine j_ic_ge (tgt := 34) C dX2_removeMany_5 (by decide) (fun c9 => absurd c9 (by decide)) (fun c9 => ?_)
  refine j_iload_n C dX2_removeMany_8 rfl 2 rfl ?_
  refine j_if_eq (tgt := 23) C dX2_removeMany_9 (by decide) (fun c9 => absurd c9 (by decide)) (fun c9 => ?_)
  refine j_aload_n C dX2_removeMany_12 rfl 1 rfl ?_
  refine j_getr (f := 200) (v := (ad 16)) C flX2_14 dX2_removeMany_13 (wm_15 (S := S) hW) (wk_15 (S := S) hW) (by decide) rfl (wr_200_15 (S := S) hW) ?_
  refine j_iload_n C dX2_removeMany_16 rfl 0 rfl ?_
  refine j_callV (ci := 8) C [.int 15] [] mlX2_103 mcX8_isTemporary (c_X8_isTemporary S ad hW 15 z_ad17) (wm_16 (S := S) hW) (wk_16 (S := S) hW) rfl (M.rm (by decide) (by decide) (Nat.le_of_ble_eq_true rfl) (Nat.le_of_ble_eq_true rfl)) rfl rfl (Nat.le_of_ble_eq_true rfl) dX2_removeMany_17 (fun r_61 S_62 hp_63 => ?_)
  obtain ⟨rfl, e_64⟩ := hp_63
  refine J.eq (S' := S) (st' := [.int 0]) (lv' := [(2, .int 15), (0, .ref (ad 15)), (1, .int 1)]) e_64 rfl rfl ?_
  refine j_if_eq (tgt := 28) C dX2_removeMany_20 (by decide) (fun c9 => ?_) (fun c9 => absurd (by decide) c9)
  show J _ _ _ _ _ 28 _
  refine j_iinc (q := 0) (v := 16) (lv' := [(2, .int 16), (0, .ref (ad 15)), (1, .int 1)]) C dX2_removeMany_28 rfl (by decide) (by rw [hn9]; decide) rfl ?_
  refine j_goto (tgt := 2) C dX2_removeMany_31 (by decide) ?_
  refine j_iload_n C dX2_removeMany_2 rfl 0 rfl ?_
  refine j_bipush (v := 16) C dX2_removeMany_3 (by decide) ?_
  refine j_ic_ge (tgt := 34) C dX2_removeMany_5 (by decide) (fun c9 => ?_) (fun c9 => absurd (by decide) c9)
  exact j_vret C M dX2_removeMany_34 (Nat.le_of_ble_eq_true rfl) (Nat.le_of_ble_eq_true rfl) ⟨rfl, rfl⟩

theorem dX9_dropTemporary_0 : decode cX9_dropTemporary 0 = .ok (.aload_n 0, 1) := by decide +kernel
theorem dX9_dropTemporary_1 : decode cX9_dropTemporary 1 = .ok (.getfield 21, 3) := by decide +kernel
theorem dX9_dropTemporary_4 : decode cX9_dropTemporary 4 = .ok (.iconst 1, 1) := by decide +kernel
theorem dX9_dropTemporary_5 : decode cX9_dropTemporary 5 = .ok (.invokevirtual 196, 3) := by decide +kernel
theorem dX9_dropTemporary_8 : decode cX9_dropTemporary 8 = .ok (.aload_n 0, 1) := by decide +kernel
theorem dX9_dropTemporary_9 : decode cX9_dropTemporary 9 = .ok (.getfield 28, 3) := by decide +kernel
theorem dX9_dropTemporary_12 : decode cX9_dropTemporary 12 = .ok (.iconst 1, 1) := by decide +kernel
theorem dX9_dropTemporary_13 : decode cX9_dropTemporary 13 = .ok (.invokevirtual 200, 3) := by decide +kernel
theorem dX9_dropTemporary_16 : decode cX9_dropTemporary 16 = .ok (.aload_n 0, 1) := by decide +kernel
theorem dX9_dropTemporary_17 : decode cX9_dropTemporary 17 = .ok (.getfield 43, 3) := by decide +kernel
theorem dX9_dropTemporary_20 : decode cX9_dropTemporary 20 = .ok (.iconst 1, 1) := by decide +kernel
theorem dX9_dropTemporary_21 : decode cX9_dropTemporary 21 = .ok (.invokevirtual 200, 3) := by decide +kernel
theorem dX9_dropTemporary_24 : decode cX9_dropTemporary 24 = .ok (.return_, 1) := by decide +kernel

set_option maxRecDepth 100000 in
set_option maxHeartbeats 4000000 in
theorem c_X9_dropTemporary (S : Hp) (ad : Nat → Nat) (hW : Wd ad S) (z_ad17 : ∀ j, aI S (ad 17) j = 0) (z_ad21 : ∀ j, aI S (ad 21) j = 0) (z_ad23 : ∀ j, aI S (ad 23) j = 0) : Ct 5 yX9_dropTemporary cX9_dropTemporary 1 none 0 0 [.ref (ad 6)] S (fun r S' => r = none ∧ S' = S) := by
  refine ct_of (by decide) (Nat.le_of_ble_eq_true rfl) fun x hn9 C M hm9 => ?_
  have C : CB x RX9 cX9_dropTemporary := C
  refine J.eq (lv' := [(0, .ref (ad 6))]) rfl rfl rfl ?_
  refine j_aload_n C dX9_dropTemporary_0 rfl 0 rfl ?_
  refine j_getr (f := 902) (v := (ad 15)) C flX9_21 dX9_dropTemporary_1 (wm_6 (S := S) hW) (wk_6 (S := S) hW) (by decide) rfl (wr_902_6 (S := S) hW) ?_
  refine j_iconst (v := 1) C dX9_dropTemporary_4 (by decide) ?_
  refine j_callV (ci := 2) C [.int 1] [] mlX9_196 mcX2_removeMany (c_X2_removeMany S ad hW z_ad17) (wm_15 (S := S) hW) (wk_15 (S := S) hW) rfl (M.rm (by decide) (by decide) (Nat.le_of_ble_eq_true rfl) (Nat.le_of_ble_eq_true rfl)) rfl rfl (Nat.le_of_ble_eq_true rfl) dX9_dropTemporary_5 (fun r_1 S_2 hp_3 => ?_)
  obtain ⟨rfl, e_4⟩ := hp_3
  refine J.eq (S' := S) (st' := []) (lv' := [(0, .ref (ad 6))]) e_4 rfl rfl ?_
  refine j_aload_n C dX9_dropTemporary_8 rfl 0 rfl ?_
  refine j_getr (f := 903) (v := (ad 20)) C flX9_28 dX9_dropTemporary_9 (wm_6 (S := S) hW) (wk_6 (S := S) hW) (by decide) rfl (wr_903_6 (S := S) hW) ?_
  refine j_iconst (v := 1) C dX9_dropTemporary_12 (by decide) ?_
  refine j_callV (ci := 8) C [.int 1] [] mlX9_200 mcX8_removeMany (c_rmt S ad hW z_ad21) (wm_20 (S := S) hW) (wk_20 (S := S) hW) rfl (M.rm (by decide) (by decide) (Nat.le_of_ble_eq_true rfl) (Nat.le_of_ble_eq_true rfl)) rfl rfl (Nat.le_of_ble_eq_true rfl) dX9_dropTemporary_13 (fun r_5 S_6 hp_7 => ?_)
  obtain ⟨rfl, e_8⟩ := hp_7
  refine J.eq (S' := S) (st' := []) (lv' := [(0, .ref (ad 6))]) e_8 rfl rfl ?_
  show J _ _ _ _ _ 16 _
  refine j_aload_n C dX9_dropTemporary_16 rfl 0 rfl ?_
  refine j_getr (f := 906) (v := (ad 22)) C flX9_43 dX9_dropTemporary_17 (wm_6 (S := S) hW) (wk_6 (S := S) hW) (by decide) rfl (wr_906_6 (S := S) hW) ?_
  refine j_iconst (v := 1) C dX9_dropTemporary_20 (by decide) ?_
  refine j_callV (ci := 8) C [.int 1] [] mlX9_200 mcX8_removeMany (c_rmm S ad hW z_ad23) (wm_22 (S := S) hW) (wk_22 (S := S) hW) rfl (M.rm (by decide) (by decide) (Nat.le_of_ble_eq_true rfl) (Nat.le_of_ble_eq_true rfl)) rfl rfl (Nat.le_of_ble_eq_true rfl) dX9_dropTemporary_21 (fun r_9 S_10 hp_11 => ?_)
  obtain ⟨rfl, e_12⟩ := hp_11
  refine J.eq (S' := S) (st' := []) (lv' := [(0, .ref (ad 6))]) e_12 rfl rfl ?_
  exact j_vret C M dX9_dropTemporary_24 (Nat.le_of_ble_eq_true rfl) (Nat.le_of_ble_eq_true rfl) ⟨rfl, rfl⟩

theorem dX2_has_0 : decode cX2_has 0 = .ok (.iload_n 1, 1) := by decide +kernel
theorem dX2_has_1 : decode cX2_has 1 = .ok (.bipush 16, 2) := by decide +kernel
theorem dX2_has_3 : decode cX2_has 3 = .ok (.if_icmp .eq 14, 3) := by decide +kernel
theorem dX2_has_6 : decode cX2_has 6 = .ok (.aload_n 0, 1) := by decide +kernel
theorem dX2_has_7 : decode cX2_has 7 = .ok (.getfield 14, 3) := by decide +kernel
theorem dX2_has_10 : decode cX2_has 10 = .ok (.iload_n 1, 1) := by decide +kernel
theorem dX2_has_11 : decode cX2_has 11 = .ok (.invokevirtual 58, 3) := by decide +kernel
theorem dX2_has_14 : decode cX2_has 14 = .ok (.ifCond .eq 7, 3) := by decide +kernel
theorem dX2_has_17 : decode cX2_has 17 = .ok (.iconst 1, 1) := by decide +kernel
theorem dX2_has_18 : decode cX2_has 18 = .ok (.goto 4, 3) := by decide +kernel
theorem dX2_has_21 : decode cX2_has 21 = .ok (.iconst 0, 1) := by decide +kernel
theorem dX2_has_22 : decode cX2_has 22 = .ok (.ireturn, 1) := by decide +kernel

set_option maxRecDepth 100000 in
set_option maxHeartbeats 4000000 in
theorem c_X2_has (S : Hp) (ad : Nat → Nat) (hW : Wd ad S) (v : Int32) (z_ad17 : ∀ j, aI S (ad 17) j = 0) : Ct 2 yX2_has cX2_has 2 (some .boolean) 0 0 [.ref (ad 15), .int v] S (fun r S' => r = some (.int (if v = 16 then 1 else 0)) ∧ S' = S) := by
  refine ct_of (by decide) (Nat.le_of_ble_eq_true rfl) fun x hn9 C M hm9 => ?_
  have C : CB x RX2 cX2_has := C
  refine J.eq (lv' := [(0, .ref (ad 15)), (1, .int v)]) rfl rfl rfl ?_
  refine j_iload_n C dX2_has_0 rfl 1 rfl ?_
  refine j_bipush (v := 16) C dX2_has_1 (by decide) ?_
  refine j_ic_eq (tgt := 17) C dX2_has_3 (by decide) (fun c_3 => ?_) (fun c_3 => ?_)
  · skip
    refine j_iconst (v := 1) C dX2_has_17 (by decide) ?_
    refine j_goto (tgt := 22) C dX2_has_18 (by decide) ?_
    exact j_zret C M rfl dX2_has_22 (by decide) (by decide) ⟨congrArg (fun z9 => some (Value.int z9)) (by first | exact (if_pos c_3).symm | exact (if_neg c_3).symm), rfl⟩
  · skip
    refine j_aload_n C dX2_has_6 rfl 0 rfl ?_
    refine j_getr (f := 200) (v := (ad 16)) C flX2_14 dX2_has_7 (wm_15 (S := S) hW) (wk_15 (S := S) hW) (by decide) rfl (wr_200_15 (S := S) hW) ?_
    refine j_iload_n C dX2_has_10 rfl 1 rfl ?_
    refine j_callV (ci := 8) C [.int v] [] mlX2_58 mcX8_has (c_hasf S ad hW v z_ad17) (wm_16 (S := S) hW) (wk_16 (S := S) hW) rfl (M.rm (by decide) (by decide) (Nat.le_of_ble_eq_true rfl) (Nat.le_of_ble_eq_true rfl)) rfl rfl (Nat.le_of_ble_eq_true rfl) dX2_has_11 (fun r_1 S_2 hp_3 => ?_)
    obtain ⟨rfl, e_4⟩ := hp_3
    refine J.eq (S' := S) (st' := [.int 0]) (lv' := [(0, .ref (ad 15)), (1, .int v)]) e_4 rfl rfl ?_
    show J _ _ _ _ _ 14 _
    refine j_if_eq (tgt := 21) C dX2_has_14 (by decide) (fun c9 => ?_) (fun c9 => absurd (by decide) c9)
    refine j_iconst (v := 0) C dX2_has_21 (by decide) ?_
    exact j_zret C M rfl dX2_has_22 (Nat.le_of_ble_eq_true rfl) (Nat.le_of_ble_eq_true rfl) ⟨congrArg (fun z9 => some (Value.int z9)) (by first | exact (if_pos c_3).symm | exact (if_neg c_3).symm), rfl⟩

theorem dX2_alike_0 : decode cX2_alike 0 = .ok (.iconst 0, 1) := by decide +kernel
theorem dX2_alike_1 : decode cX2_alike 1 = .ok (.istore 4, 2) := by decide +kernel
theorem dX2_alike_3 : decode cX2_alike 3 = .ok (.iconst 0, 1) := by decide +kernel
theorem dX2_alike_4 : decode cX2_alike 4 = .ok (.istore 5, 2) := by decide +kernel
theorem dX2_alike_6 : decode cX2_alike 6 = .ok (.iload 5, 2) := by decide +kernel
theorem dX2_alike_8 : decode cX2_alike 8 = .ok (.bipush 16, 2) := by decide +kernel
theorem dX2_alike_10 : decode cX2_alike 10 = .ok (.if_icmp .gt 74, 3) := by decide +kernel
theorem dX2_alike_13 : decode cX2_alike 13 = .ok (.iload 5, 2) := by decide +kernel
theorem dX2_alike_15 : decode cX2_alike 15 = .ok (.bipush 7, 2) := by decide +kernel
theorem dX2_alike_17 : decode cX2_alike 17 = .ok (.imul, 1) := by decide +kernel
theorem dX2_alike_18 : decode cX2_alike 18 = .ok (.iload_n 2, 1) := by decide +kernel
theorem dX2_alike_19 : decode cX2_alike 19 = .ok (.iadd, 1) := by decide +kernel
theorem dX2_alike_20 : decode cX2_alike 20 = .ok (.istore 6, 2) := by decide +kernel
theorem dX2_alike_22 : decode cX2_alike 22 = .ok (.iload_n 1, 1) := by decide +kernel
theorem dX2_alike_23 : decode cX2_alike 23 = .ok (.iload 5, 2) := by decide +kernel
theorem dX2_alike_25 : decode cX2_alike 25 = .ok (.ishr, 1) := by decide +kernel
theorem dX2_alike_26 : decode cX2_alike 26 = .ok (.iconst 1, 1) := by decide +kernel
theorem dX2_alike_27 : decode cX2_alike 27 = .ok (.iand, 1) := by decide +kernel
theorem dX2_alike_28 : decode cX2_alike 28 = .ok (.ifCond .eq 22, 3) := by decide +kernel
theorem dX2_alike_31 : decode cX2_alike 31 = .ok (.iload 6, 2) := by decide +kernel
theorem dX2_alike_33 : decode cX2_alike 33 = .ok (.ifCond .lt 17, 3) := by decide +kernel
theorem dX2_alike_36 : decode cX2_alike 36 = .ok (.iload 6, 2) := by decide +kernel
theorem dX2_alike_38 : decode cX2_alike 38 = .ok (.aload_n 0, 1) := by decide +kernel
theorem dX2_alike_39 : decode cX2_alike 39 = .ok (.getfield 18, 3) := by decide +kernel
theorem dX2_alike_42 : decode cX2_alike 42 = .ok (.arraylength, 1) := by decide +kernel
theorem dX2_alike_43 : decode cX2_alike 43 = .ok (.if_icmp .ge 7, 3) := by decide +kernel
theorem dX2_alike_46 : decode cX2_alike 46 = .ok (.iconst 1, 1) := by decide +kernel
theorem dX2_alike_47 : decode cX2_alike 47 = .ok (.goto 4, 3) := by decide +kernel
theorem dX2_alike_50 : decode cX2_alike 50 = .ok (.iconst 0, 1) := by decide +kernel
theorem dX2_alike_51 : decode cX2_alike 51 = .ok (.istore 7, 2) := by decide +kernel
theorem dX2_alike_53 : decode cX2_alike 53 = .ok (.iload 7, 2) := by decide +kernel
theorem dX2_alike_55 : decode cX2_alike 55 = .ok (.ifCond .eq 23, 3) := by decide +kernel
theorem dX2_alike_58 : decode cX2_alike 58 = .ok (.aload_n 0, 1) := by decide +kernel
theorem dX2_alike_59 : decode cX2_alike 59 = .ok (.getfield 18, 3) := by decide +kernel
theorem dX2_alike_62 : decode cX2_alike 62 = .ok (.iload 6, 2) := by decide +kernel
theorem dX2_alike_64 : decode cX2_alike 64 = .ok (.iaload, 1) := by decide +kernel
theorem dX2_alike_65 : decode cX2_alike 65 = .ok (.iload_n 3, 1) := by decide +kernel
theorem dX2_alike_66 : decode cX2_alike 66 = .ok (.if_icmp .ne 12, 3) := by decide +kernel
theorem dX2_alike_69 : decode cX2_alike 69 = .ok (.iload 4, 2) := by decide +kernel
theorem dX2_alike_71 : decode cX2_alike 71 = .ok (.iconst 1, 1) := by decide +kernel
theorem dX2_alike_72 : decode cX2_alike 72 = .ok (.iload 5, 2) := by decide +kernel
theorem dX2_alike_74 : decode cX2_alike 74 = .ok (.ishl, 1) := by decide +kernel
theorem dX2_alike_75 : decode cX2_alike 75 = .ok (.ior, 1) := by decide +kernel
theorem dX2_alike_76 : decode cX2_alike 76 = .ok (.istore 4, 2) := by decide +kernel
theorem dX2_alike_78 : decode cX2_alike 78 = .ok (.iinc 5 1, 3) := by decide +kernel
theorem dX2_alike_81 : decode cX2_alike 81 = .ok (.goto (-75), 3) := by decide +kernel
theorem dX2_alike_84 : decode cX2_alike 84 = .ok (.iload 4, 2) := by decide +kernel
theorem dX2_alike_86 : decode cX2_alike 86 = .ok (.ifCond .ne 7, 3) := by decide +kernel
theorem dX2_alike_89 : decode cX2_alike 89 = .ok (.iload_n 1, 1) := by decide +kernel
theorem dX2_alike_90 : decode cX2_alike 90 = .ok (.goto 5, 3) := by decide +kernel
theorem dX2_alike_93 : decode cX2_alike 93 = .ok (.iload 4, 2) := by decide +kernel
theorem dX2_alike_95 : decode cX2_alike 95 = .ok (.ireturn, 1) := by decide +kernel

set_option maxRecDepth 100000 in
set_option maxHeartbeats 4000000 in
theorem c_X2_alike (S : Hp) (ad : Nat → Nat) (hW : Wd ad S) (wt : Nat) (v : Int32) (hw : wt < 7) : Ct 2 yX2_alike cX2_alike 8 (some .int) 0 0 [.ref (ad 15), .int 65536, .int (nI wt), .int v] S (fun r S' => r = some (.int 65536) ∧ S' = S) := by
  refine ct_of (by decide) (Nat.le_of_ble_eq_true rfl) fun x hn9 C M hm9 => ?_
  have C : CB x RX2 cX2_alike := C
  refine J.eq (lv' := [(0, .ref (ad 15)), (1, .int 65536), (2, .int (nI wt)), (3, .int v)]) rfl rfl rfl ?_
  refine j_iconst (v := 0) C dX2_alike_0 (by decide) ?_
  refine j_istore (lv' := [(4, .int 0), (0, .ref (ad 15)), (1, .int 65536), (2, .int (nI wt)), (3, .int v)]) C dX2_alike_1 (by rw [hn9]; decide) rfl ?_
  refine j_iconst (v := 0) C dX2_alike_3 (by decide) ?_
  refine j_istore (lv' := [(5, .int 0), (4, .int 0), (0, .ref (ad 15)), (1, .int 65536), (2, .int (nI wt)), (3, .int v)]) C dX2_alike_4 (by rw [hn9]; decide) rfl ?_
  refine j_iload C dX2_alike_6 0 rfl ?_
  refine j_bipush (v := 16) C dX2_alike_8 (by decide) ?_
  refine j_ic_gt (tgt := 84) C dX2_alike_10 (by decide) (fun c9 => absurd c9 (by decide)) (fun c9 => ?_)
  refine j_iload C dX2_alike_13 0 rfl ?_
  show J _ _ _ _ _ 15 _
  refine j_bipush (v := 7) C dX2_alike_15 (by decide) ?_
  refine j_imul (v := 0) C dX2_alike_17 (by decide) ?_
  refine j_iload_n C dX2_alike_18 rfl 4 rfl ?_
  refine j_iadd (v := nI (0 + wt)) C dX2_alike_19 (nI_add 0 wt) ?_
  refine j_istore (lv' := [(6, .int (nI (0 + wt))), (5, .int 0), (4, .int 0), (0, .ref (ad 15)), (1, .int 65536), (2, .int (nI wt)), (3, .int v)]) C dX2_alike_20 (by rw [hn9]; decide) rfl ?_
  refine j_iload_n C dX2_alike_22 rfl 4 rfl ?_
  refine j_iload C dX2_alike_23 1 rfl ?_
  refine j_ishr (v := 65536) C dX2_alike_25 (by decide) ?_
  show J _ _ _ _ _ 26 _
  refine j_iconst (v := 1) C dX2_alike_26 (by decide) ?_
  refine j_iand (v := 0) C dX2_alike_27 (by decide) ?_
  refine j_if_eq (tgt := 50) C dX2_alike_28 (by decide) (fun c9 => ?_) (fun c9 => absurd (by decide) c9)
  refine j_iconst (v := 0) C dX2_alike_50 (by decide) ?_
  refine j_istore (lv' := [(7, .int 0), (6, .int (nI (0 + wt))), (5, .int 0), (4, .int 0), (0, .ref (ad 15)), (1, .int 65536), (2, .int (nI wt)), (3, .int v)]) C dX2_alike_51 (by rw [hn9]; decide) rfl ?_
  refine j_iload C dX2_alike_53 0 rfl ?_
  refine j_if_eq (tgt := 78) C dX2_alike_55 (by decide) (fun c9 => ?_) (fun c9 => absurd (by decide) c9)
  refine j_iinc (q := 2) (v := 1) (lv' := [(5, .int 1), (7, .int 0), (6, .int (nI (0 + wt))), (4, .int 0), (0, .ref (ad 15)), (1, .int 65536), (2, .int (nI wt)), (3, .int v)]) C dX2_alike_78 rfl (by decide) (by rw [hn9]; decide) rfl ?_
  show J _ _ _ _ _ 81 _
  refine j_goto (tgt := 6) C dX2_alike_81 (by decide) ?_
  refine j_iload C dX2_alike_6 0 rfl ?_
  refine j_bipush (v := 16) C dX2_alike_8 (by decide) ?_
  refine j_ic_gt (tgt := 84) C dX2_alike_10 (by decide) (fun c9 => absurd c9 (by decide)) (fun c9 => ?_)
  refine j_iload C dX2_alike_13 0 rfl ?_
  refine j_bipush (v := 7) C dX2_alike_15 (by decide) ?_
  refine j_imul (v := 7) C dX2_alike_17 (by decide) ?_
  refine j_iload_n C dX2_alike_18 rfl 6 rfl ?_
  show J _ _ _ _ _ 19 _
  refine j_iadd (v := nI (7 + wt)) C dX2_alike_19 (nI_add 7 wt) ?_
  refine j_istore (lv' := [(6, .int (nI (7 + wt))), (5, .int 1), (7, .int 0), (4, .int 0), (0, .ref (ad 15)), (1, .int 65536), (2, .int (nI wt)), (3, .int v)]) C dX2_alike_20 (by rw [hn9]; decide) rfl ?_
  refine j_iload_n C dX2_alike_22 rfl 5 rfl ?_
  refine j_iload C dX2_alike_23 1 rfl ?_
  refine j_ishr (v := 32768) C dX2_alike_25 (by decide) ?_
  refine j_iconst (v := 1) C dX2_alike_26 (by decide) ?_
  refine j_iand (v := 0) C dX2_alike_27 (by decide) ?_
  refine j_if_eq (tgt := 50) C dX2_alike_28 (by decide) (fun c9 => ?_) (fun c9 => absurd (by decide) c9)
  show J _ _ _ _ _ 50 _
  refine j_iconst (v := 0) C dX2_alike_50 (by decide) ?_
  refine j_istore (lv' := [(7, .int 0), (6, .int (nI (7 + wt))), (5, .int 1), (4, .int 0), (0, .ref (ad 15)), (1, .int 65536), (2, .int (nI wt)), (3, .int v)]) C dX2_alike_51 (by rw [hn9]; decide) rfl ?_
  refine j_iload C dX2_alike_53 0 rfl ?_
  refine j_if_eq (tgt := 78) C dX2_alike_55 (by decide) (fun c9 => ?_) (fun c9 => absurd (by decide) c9)
  refine j_iinc (q := 2) (v := 2) (lv' := [(5, .int 2), (7, .int 0), (6, .int (nI (7 + wt))), (4, .int 0), (0, .ref (ad 15)), (1, .int 65536), (2, .int (nI wt)), (3, .int v)]) C dX2_alike_78 rfl (by decide) (by rw [hn9]; decide) rfl ?_
  refine j_goto (tgt := 6) C dX2_alike_81 (by decide) ?_
  refine j_iload C dX2_alike_6 0 rfl ?_
  refine j_bipush (v := 16) C dX2_alike_8 (by decide) ?_
  show J _ _ _ _ _ 10 _
  refine j_ic_gt (tgt := 84) C dX2_alike_10 (by decide) (fun c9 => absurd c9 (by decide)) (fun c9 => ?_)
  refine j_iload C dX2_alike_13 0 rfl ?_
  refine j_bipush (v := 7) C dX2_alike_15 (by decide) ?_
  refine j_imul (v := 14) C dX2_alike_17 (by decide) ?_
  refine j_iload_n C dX2_alike_18 rfl 6 rfl ?_
  refine j_iadd (v := nI (14 + wt)) C dX2_alike_19 (nI_add 14 wt) ?_
  refine j_istore (lv' := [(6, .int (nI (14 + wt))), (5, .int 2), (7, .int 0), (4, .int 0), (0, .ref (ad 15)), (1, .int 65536), (2, .int (nI wt)), (3, .int v)]) C dX2_alike_20 (by rw [hn9]; decide) rfl ?_
  refine j_iload_n C dX2_alike_22 rfl 5 rfl ?_
  show J _ _ _ _ _ 23 _
  refine j_iload C dX2_alike_23 1 rfl ?_
  refine j_ishr (v := 16384) C dX2_alike_25 (by decide) ?_
  refine j_iconst (v := 1) C dX2_alike_26 (by decide) ?_
  refine j_iand (v := 0) C dX2_alike_27 (by decide) ?_
  refine j_if_eq (tgt := 50) C dX2_alike_28 (by decide) (fun c9 => ?_) (fun c9 => absurd (by decide) c9)
  refine j_iconst (v := 0) C dX2_alike_50 (by decide) ?_
  refine j_istore (lv' := [(7, .int 0), (6, .int (nI (14 + wt))), (5, .int 2), (4, .int 0), (0, .ref (ad 15)), (1, .int 65536), (2, .int (nI wt)), (3, .int v)]) C dX2_alike_51 (by rw [hn9]; decide) rfl ?_
  refine j_iload C dX2_alike_53 0 rfl ?_
  show J _ _ _ _ _ 55 _
  refine j_if_eq (tgt := 78) C dX2_alike_55 (by decide) (fun c9 => ?_) (fun c9 => absurd (by decide) c9)
  refine j_iinc (q := 2) (v := 3) (lv' := [(5, .int 3), (7, .int 0), (6, .int (nI (14 + wt))), (4, .int 0), (0, .ref (ad 15)), (1, .int 65536), (2, .int (nI wt)), (3, .int v)]) C dX2_alike_78 rfl (by decide) (by rw [hn9]; decide) rfl ?_
  refine j_goto (tgt := 6) C dX2_alike_81 (by decide) ?_
  refine j_iload C dX2_alike_6 0 rfl ?_
  refine j_bipush (v := 16) C dX2_alike_8 (by decide) ?_
  refine j_ic_gt (tgt := 84) C dX2_alike_10 (by decide) (fun c9 => absurd c9 (by decide)) (fun c9 => ?_)
  refine j_iload C dX2_alike_13 0 rfl ?_
  refine j_bipush (v := 7) C dX2_alike_15 (by decide) ?_
  show J _ _ _ _ _ 17 _
  refine j_imul (v := 21) C dX2_alike_17 (by decide) ?_
  refine j_iload_n C dX2_alike_18 rfl 6 rfl ?_
  refine j_iadd (v := nI (21 + wt)) C dX2_alike_19 (nI_add 21 wt) ?_
  refine j_istore (lv' := [(6, .int (nI (21 + wt))), (5, .int 3), (7, .int 0), (4, .int 0), (0, .ref (ad 15)), (1, .int 65536), (2, .int (nI wt)), (3, .int v)]) C dX2_alike_20 (by rw [hn9]; decide) rfl ?_
  refine j_iload_n C dX2_alike_22 rfl 5 rfl ?_
  refine j_iload C dX2_alike_23 1 rfl ?_
  refine j_ishr (v := 8192) C dX2_alike_25 (by decide) ?_
  refine j_iconst (v := 1) C dX2_alike_26 (by decide) ?_
  show J _ _ _ _ _ 27 _
  refine j_iand (v := 0) C dX2_alike_27 (by decide) ?_
  refine j_if_eq (tgt := 50) C dX2_alike_28 (by decide) (fun c9 => ?_) (fun c9 => absurd (by decide) c9)
  refine j_iconst (v := 0) C dX2_alike_50 (by decide) ?_
  refine j_istore (lv' := [(7, .int 0), (6, .int (nI (21 + wt))), (5, .int 3), (4, .int 0), (0, .ref (ad 15)), (1, .int 65536), (2, .int (nI wt)), (3, .int v)]) C dX2_alike_51 (by rw [hn9]; decide) rfl ?_
  refine j_iload C dX2_alike_53 0 rfl ?_
  refine j_if_eq (tgt := 78) C dX2_alike_55 (by decide) (fun c9 => ?_) (fun c9 => absurd (by decide) c9)
  refine j_iinc (q := 2) (v := 4) (lv' := [(5, .int 4), (7, .int 0), (6, .int (nI (21 + wt))), (4, .int 0), (0, .ref (ad 15)), (1, .int 65536), (2, .int (nI wt)), (3, .int v)]) C dX2_alike_78 rfl (by decide) (by rw [hn9]; decide) rfl ?_
  refine j_goto (tgt := 6) C dX2_alike_81 (by decide) ?_
  show J _ _ _ _ _ 6 _
  refine j_iload C dX2_alike_6 0 rfl ?_
  refine j_bipush (v := 16) C dX2_alike_8 (by decide) ?_
  refine j_ic_gt (tgt := 84) C dX2_alike_10 (by decide) (fun c9 => absurd c9 (by decide)) (fun c9 => ?_)
  refine j_iload C dX2_alike_13 0 rfl ?_
  refine j_bipush (v := 7) C dX2_alike_15 (by decide) ?_
  refine j_imul (v := 28) C dX2_alike_17 (by decide) ?_
  refine j_iload_n C dX2_alike_18 rfl 6 rfl ?_
  refine j_iadd (v := nI (28 + wt)) C dX2_alike_19 (nI_add 28 wt) ?_
  show J _ _ _ _ _ 20 _
  refine j_istore (lv' := [(6, .int (nI (28 + wt))), (5, .int 4), (7, .int 0), (4, .int 0), (0, .ref (ad 15)), (1, .int 65536), (2, .int (nI wt)), (3, .int v)]) C dX2_alike_20 (by rw [hn9]; decide) rfl ?_
  refine j_iload_n C dX2_alike_22 rfl 5 rfl ?_
  refine j_iload C dX2_alike_23 1 rfl ?_
  refine j_ishr (v := 4096) C dX2_alike_25 (by decide) ?_
  refine j_iconst (v := 1) C dX2_alike_26 (by decide) ?_
  refine j_iand (v := 0) C dX2_alike_27 (by decide) ?_
  refine j_if_eq (tgt := 50) C dX2_alike_28 (by decide) (fun c9 => ?_) (fun c9 => absurd (by decide) c9)
  refine j_iconst (v := 0) C dX2_alike_50 (by decide) ?_
  show J _ _ _ _ _ 51 _
  refine j_istore (lv' := [(7, .int 0), (6, .int (nI (28 + wt))), (5, .int 4), (4, .int 0), (0, .ref (ad 15)), (1, .int 65536), (2, .int (nI wt)), (3, .int v)]) C dX2_alike_51 (by rw [hn9]; decide) rfl ?_
  refine j_iload C dX2_alike_53 0 rfl ?_
  refine j_if_eq (tgt := 78) C dX2_alike_55 (by decide) (fun c9 => ?_) (fun c9 => absurd (by decide) c9)
  refine j_iinc (q := 2) (v := 5) (lv' := [(5, .int 5), (7, .int 0), (6, .int (nI (28 + wt))), (4, .int 0), (0, .ref (ad 15)), (1, .int 65536), (2, .int (nI wt)), (3, .int v)]) C dX2_alike_78 rfl (by decide) (by rw [hn9]; decide) rfl ?_
  refine j_goto (tgt := 6) C dX2_alike_81 (by decide) ?_
  refine j_iload C dX2_alike_6 0 rfl ?_
  refine j_bipush (v := 16) C dX2_alike_8 (by decide) ?_
  refine j_ic_gt (tgt := 84) C dX2_alike_10 (by decide) (fun c9 => absurd c9 (by decide)) (fun c9 => ?_)
  show J _ _ _ _ _ 13 _
  refine j_iload C dX2_alike_13 0 rfl ?_
  refine j_bipush (v := 7) C dX2_alike_15 (by decide) ?_
  refine j_imul (v := 35) C dX2_alike_17 (by decide) ?_
  refine j_iload_n C dX2_alike_18 rfl 6 rfl ?_
  refine j_iadd (v := nI (35 + wt)) C dX2_alike_19 (nI_add 35 wt) ?_
  refine j_istore (lv' := [(6, .int (nI (35 + wt))), (5, .int 5), (7, .int 0), (4, .int 0), (0, .ref (ad 15)), (1, .int 65536), (2, .int (nI wt)), (3, .int v)]) C dX2_alike_20 (by rw [hn9]; decide) rfl ?_
  refine j_iload_n C dX2_alike_22 rfl 5 rfl ?_
  refine j_iload C dX2_alike_23 1 rfl ?_
  show J _ _ _ _ _ 25 _
  refine j_ishr (v := 2048) C dX2_alike_25 (by decide) ?_
  refine j_iconst (v := 1) C dX2_alike_26 (by decide) ?_
  refine j_iand (v := 0) C dX2_alike_27 (by decide) ?_
  refine j_if_eq (tgt := 50) C dX2_alike_28 (by decide) (fun c9 => ?_) (fun c9 => absurd (by decide) c9)
  refine j_iconst (v := 0) C dX2_alike_50 (by decide) ?_
  refine j_istore (lv' := [(7, .int 0), (6, .int (nI (35 + wt))), (5, .int 5), (4, .int 0), (0, .ref (ad 15)), (1, .int 65536), (2, .int (nI wt)), (3, .int v)]) C dX2_alike_51 (by rw [hn9]; decide) rfl ?_
  refine j_iload C dX2_alike_53 0 rfl ?_
  refine j_if_eq (tgt := 78) C dX2_alike_55 (by decide) (fun c9 => ?_) (fun c9 => absurd (by decide) c9)
  show J _ _ _ _ _ 78 _
  refine j_iinc (q := 2) (v := 6) (lv' := [(5, .int 6), (7, .int 0), (6, .int (nI (35 + wt))), (4, .int 0), (0, .ref (ad 15)), (1, .int 65536), (2, .int (nI wt)), (3, .int v)]) C dX2_alike_78 rfl (by decide) (by rw [hn9]; decide) rfl ?_
  refine j_goto (tgt := 6) C dX2_alike_81 (by decide) ?_
  refine j_iload C dX2_alike_6 0 rfl ?_
  refine j_bipush (v := 16) C dX2_alike_8 (by decide) ?_
  refine j_ic_gt (tgt := 84) C dX2_alike_10 (by decide) (fun c9 => absurd c9 (by decide)) (fun c9 => ?_)
  refine j_iload C dX2_alike_13 0 rfl ?_
  refine j_bipush (v := 7) C dX2_alike_15 (by decide) ?_
  refine j_imul (v := 42) C dX2_alike_17 (by decide) ?_
  show J _ _ _ _ _ 18 _
  refine j_iload_n C dX2_alike_18 rfl 6 rfl ?_
  refine j_iadd (v := nI (42 + wt)) C dX2_alike_19 (nI_add 42 wt) ?_
  refine j_istore (lv' := [(6, .int (nI (42 + wt))), (5, .int 6), (7, .int 0), (4, .int 0), (0, .ref (ad 15)), (1, .int 65536), (2, .int (nI wt)), (3, .int v)]) C dX2_alike_20 (by rw [hn9]; decide) rfl ?_
  refine j_iload_n C dX2_alike_22 rfl 5 rfl ?_
  refine j_iload C dX2_alike_23 1 rfl ?_
  refine j_ishr (v := 1024) C dX2_alike_25 (by decide) ?_
  refine j_iconst (v := 1) C dX2_alike_26 (by decide) ?_
  refine j_iand (v := 0) C dX2_alike_27 (by decide) ?_
  show J _ _ _ _ _ 28 _
  refine j_if_eq (tgt := 50) C dX2_alike_28 (by decide) (fun c9 => ?_) (fun c9 => absurd (by decide) c9)
  refine j_iconst (v := 0) C dX2_alike_50 (by decide) ?_
  refine j_istore (lv' := [(7, .int 0), (6, .int (nI (42 + wt))), (5, .int 6), (4, .int 0), (0, .ref (ad 15)), (1, .int 65536), (2, .int (nI wt)), (3, .int v)]) C dX2_alike_51 (by rw [hn9]; decide) rfl ?_
  refine j_iload C dX2_alike_53 0 rfl ?_
  refine j_if_eq (tgt := 78) C dX2_alike_55 (by decide) (fun c9 => ?_) (fun c9 => absurd (by decide) c9)
  refine j_iinc (q := 2) (v := 7) (lv' := [(5, .int 7), (7, .int 0), (6, .int (nI (42 + wt))), (4, .int 0), (0, .ref (ad 15)), (1, .int 65536), (2, .int (nI wt)), (3, .int v)]) C dX2_alike_78 rfl (by decide) (by rw [hn9]; decide) rfl ?_
  refine j_goto (tgt := 6) C dX2_alike_81 (by decide) ?_
  refine j_iload C dX2_alike_6 0 rfl ?_
  show J _ _ _ _ _ 8 _
  refine j_bipush (v := 16) C dX2_alike_8 (by decide) ?_
  refine j_ic_gt (tgt := 84) C dX2_alike_10 (by decide) (fun c9 => absurd c9 (by decide)) (fun c9 => ?_)
  refine j_iload C dX2_alike_13 0 rfl ?_
  refine j_bipush (v := 7) C dX2_alike_15 (by decide) ?_
  refine j_imul (v := 49) C dX2_alike_17 (by decide) ?_
  refine j_iload_n C dX2_alike_18 rfl 6 rfl ?_
  refine j_iadd (v := nI (49 + wt)) C dX2_alike_19 (nI_add 49 wt) ?_
  refine j_istore (lv' := [(6, .int (nI (49 + wt))), (5, .int 7), (7, .int 0), (4, .int 0), (0, .ref (ad 15)), (1, .int 65536), (2, .int (nI wt)), (3, .int v)]) C dX2_alike_20 (by rw [hn9]; decide) rfl ?_
  show J _ _ _ _ _ 22 _
  refine j_iload_n C dX2_alike_22 rfl 5 rfl ?_
  refine j_iload C dX2_alike_23 1 rfl ?_
  refine j_ishr (v := 512) C dX2_alike_25 (by decide) ?_
  refine j_iconst (v := 1) C dX2_alike_26 (by decide) ?_
  refine j_iand (v := 0) C dX2_alike_27 (by decide) ?_
  refine j_if_eq (tgt := 50) C dX2_alike_28 (by decide) (fun c9 => ?_) (fun c9 => absurd (by decide) c9)
  refine j_iconst (v := 0) C dX2_alike_50 (by decide) ?_
  refine j_istore (lv' := [(7, .int 0), (6, .int (nI (49 + wt))), (5, .int 7), (4, .int 0), (0, .ref (ad 15)), (1, .int 65536), (2, .int (nI wt)), (3, .int v)]) C dX2_alike_51 (by rw [hn9]; decide) rfl ?_
  show J _ _ _ _ _ 53 _
  refine j_iload C dX2_alike_53 0 rfl ?_
  refine j_if_eq (tgt := 78) C dX2_alike_55 (by decide) (fun c9 => ?_) (fun c9 => absurd (by decide) c9)
  refine j_iinc (q := 2) (v := 8) (lv' := [(5, .int 8), (7, .int 0), (6, .int (nI (49 + wt))), (4, .int 0), (0, .ref (ad 15)), (1, .int 65536), (2, .int (nI wt)), (3, .int v)]) C dX2_alike_78 rfl (by decide) (by rw [hn9]; decide) rfl ?_
  refine j_goto (tgt := 6) C dX2_alike_81 (by decide) ?_
  refine j_iload C dX2_alike_6 0 rfl ?_
  refine j_bipush (v := 16) C dX2_alike_8 (by decide) ?_
  refine j_ic_gt (tgt := 84) C dX2_alike_10 (by decide) (fun c9 => absurd c9 (by decide)) (fun c9 => ?_)
  refine j_iload C dX2_alike_13 0 rfl ?_
  show J _ _ _ _ _ 15 _
  refine j_bipush (v := 7) C dX2_alike_15 (by decide) ?_
  refine j_imul (v := 56) C dX2_alike_17 (by decide) ?_
  refine j_iload_n C dX2_alike_18 rfl 6 rfl ?_
  refine j_iadd (v := nI (56 + wt)) C dX2_alike_19 (nI_add 56 wt) ?_
  refine j_istore (lv' := [(6, .int (nI (56 + wt))), (5, .int 8), (7, .int 0), (4, .int 0), (0, .ref (ad 15)), (1, .int 65536), (2, .int (nI wt)), (3, .int v)]) C dX2_alike_20 (by rw [hn9]; decide) rfl ?_
  refine j_iload_n C dX2_alike_22 rfl 5 rfl ?_
  refine j_iload C dX2_alike_23 1 rfl ?_
  refine j_ishr (v := 256) C dX2_alike_25 (by decide) ?_
  show J _ _ _ _ _ 26 _
  refine j_iconst (v := 1) C dX2_alike_26 (by decide) ?_
  refine j_iand (v := 0) C dX2_alike_27 (by decide) ?_
  refine j_if_eq (tgt := 50) C dX2_alike_28 (by decide) (fun c9 => ?_) (fun c9 => absurd (by decide) c9)
  refine j_iconst (v := 0) C dX2_alike_50 (by decide) ?_
  refine j_istore (lv' := [(7, .int 0), (6, .int (nI (56 + wt))), (5, .int 8), (4, .int 0), (0, .ref (ad 15)), (1, .int 65536), (2, .int (nI wt)), (3, .int v)]) C dX2_alike_51 (by rw [hn9]; decide) rfl ?_
  refine j_iload C dX2_alike_53 0 rfl ?_
  refine j_if_eq (tgt := 78) C dX2_alike_55 (by decide) (fun c9 => ?_) (fun c9 => absurd (by decide) c9)
  refine j_iinc (q := 2) (v := 9) (lv' := [(5, .int 9), (7, .int 0), (6, .int (nI (56 + wt))), (4, .int 0), (0, .ref (ad 15)), (1, .int 65536), (2, .int (nI wt)), (3, .int v)]) C dX2_alike_78 rfl (by decide) (by rw [hn9]; decide) rfl ?_
  show J _ _ _ _ _ 81 _
  refine j_goto (tgt := 6) C dX2_alike_81 (by decide) ?_
  refine j_iload C dX2_alike_6 0 rfl ?_
  refine j_bipush (v := 16) C dX2_alike_8 (by decide) ?_
  refine j_ic_gt (tgt := 84) C dX2_alike_10 (by decide) (fun c9 => absurd c9 (by decide)) (fun c9 => ?_)
  refine j_iload C dX2_alike_13 0 rfl ?_
  refine j_bipush (v := 7) C dX2_alike_15 (by decide) ?_
  refine j_imul (v := 63) C dX2_alike_17 (by decide) ?_
  refine j_iload_n C dX2_alike_18 rfl 6 rfl ?_
  show J _ _ _ _ _ 19 _
  refine j_iadd (v := nI (63 + wt)) C dX2_alike_19 (nI_add 63 wt) ?_
  refine j_istore (lv' := [(6, .int (nI (63 + wt))), (5, .int 9), (7, .int 0), (4, .int 0), (0, .ref (ad 15)), (1, .int 65536), (2, .int (nI wt)), (3, .int v)]) C dX2_alike_20 (by rw [hn9]; decide) rfl ?_
  refine j_iload_n C dX2_alike_22 rfl 5 rfl ?_
  refine j_iload C dX2_alike_23 1 rfl ?_
  refine j_ishr (v := 128) C dX2_alike_25 (by decide) ?_
  refine j_iconst (v := 1) C dX2_alike_26 (by decide) ?_
  refine j_iand (v := 0) C dX2_alike_27 (by decide) ?_
  refine j_if_eq (tgt := 50) C dX2_alike_28 (by decide) (fun c9 => ?_) (fun c9 => absurd (by decide) c9)
  show J _ _ _ _ _ 50 _
  refine j_iconst (v := 0) C dX2_alike_50 (by decide) ?_
  refine j_istore (lv' := [(7, .int 0), (6, .int (nI (63 + wt))), (5, .int 9), (4, .int 0), (0, .ref (ad 15)), (1, .int 65536), (2, .int (nI wt)), (3, .int v)]) C dX2_alike_51 (by rw [hn9]; decide) rfl ?_
  refine j_iload C dX2_alike_53 0 rfl ?_
  refine j_if_eq (tgt := 78) C dX2_alike_55 (by decide) (fun c9 => ?_) (fun c9 => absurd (by decide) c9)
  refine j_iinc (q := 2) (v := 10) (lv' := [(5, .int 10), (7, .int 0), (6, .int (nI (63 + wt))), (4, .int 0), (0, .ref (ad 15)), (1, .int 65536), (2, .int (nI wt)), (3, .int v)]) C dX2_alike_78 rfl (by decide) (by rw [hn9]; decide) rfl ?_
  refine j_goto (tgt := 6) C dX2_alike_81 (by decide) ?_
  refine j_iload C dX2_alike_6 0 rfl ?_
  refine j_bipush (v := 16) C dX2_alike_8 (by decide) ?_
  show J _ _ _ _ _ 10 _
  refine j_ic_gt (tgt := 84) C dX2_alike_10 (by decide) (fun c9 => absurd c9 (by decide)) (fun c9 => ?_)
  refine j_iload C dX2_alike_13 0 rfl ?_
  refine j_bipush (v := 7) C dX2_alike_15 (by decide) ?_
  refine j_imul (v := 70) C dX2_alike_17 (by decide) ?_
  refine j_iload_n C dX2_alike_18 rfl 6 rfl ?_
  refine j_iadd (v := nI (70 + wt)) C dX2_alike_19 (nI_add 70 wt) ?_
  refine j_istore (lv' := [(6, .int (nI (70 + wt))), (5, .int 10), (7, .int 0), (4, .int 0), (0, .ref (ad 15)), (1, .int 65536), (2, .int (nI wt)), (3, .int v)]) C dX2_alike_20 (by rw [hn9]; decide) rfl ?_
  refine j_iload_n C dX2_alike_22 rfl 5 rfl ?_
  show J _ _ _ _ _ 23 _
  refine j_iload C dX2_alike_23 1 rfl ?_
  refine j_ishr (v := 64) C dX2_alike_25 (by decide) ?_
  refine j_iconst (v := 1) C dX2_alike_26 (by decide) ?_
  refine j_iand (v := 0) C dX2_alike_27 (by decide) ?_
  refine j_if_eq (tgt := 50) C dX2_alike_28 (by decide) (fun c9 => ?_) (fun c9 => absurd (by decide) c9)
  refine j_iconst (v := 0) C dX2_alike_50 (by decide) ?_
  refine j_istore (lv' := [(7, .int 0), (6, .int (nI (70 + wt))), (5, .int 10), (4, .int 0), (0, .ref (ad 15)), (1, .int 65536), (2, .int (nI wt)), (3, .int v)]) C dX2_alike_51 (by rw [hn9]; decide) rfl ?_
  refine j_iload C dX2_alike_53 0 rfl ?_
  show J _ _ _ _ _ 55 _
  refine j_if_eq (tgt := 78) C dX2_alike_55 (by decide) (fun c9 => ?_) (fun c9 => absurd (by decide) c9)
  refine j_iinc (q := 2) (v := 11) (lv' := [(5, .int 11), (7, .int 0), (6, .int (nI (70 + wt))), (4, .int 0), (0, .ref (ad 15)), (1, .int 65536), (2, .int (nI wt)), (3, .int v)]) C dX2_alike_78 rfl (by decide) (by rw [hn9]; decide) rfl ?_
  refine j_goto (tgt := 6) C dX2_alike_81 (by decide) ?_
  refine j_iload C dX2_alike_6 0 rfl ?_
  refine j_bipush (v := 16) C dX2_alike_8 (by decide) ?_
  refine j_ic_gt (tgt := 84) C dX2_alike_10 (by decide) (fun c9 => absurd c9 (by decide)) (fun c9 => ?_)
  refine j_iload C dX2_alike_13 0 rfl ?_
  refine j_bipush (v := 7) C dX2_alike_15 (by decide) ?_
  show J _ _ _ _ _ 17 _
  refine j_imul (v := 77) C dX2_alike_17 (by decide) ?_
  refine j_iload_n C dX2_alike_18 rfl 6 rfl ?_
  refine j_iadd (v := nI (77 + wt)) C dX2_alike_19 (nI_add 77 wt) ?_
  refine j_istore (lv' := [(6, .int (nI (77 + wt))), (5, .int 11), (7, .int 0), (4, .int 0), (0, .ref (ad 15)), (1, .int 65536), (2, .int (nI wt)), (3, .int v)]) C dX2_alike_20 (by rw [hn9]; decide) rfl ?_
  refine j_iload_n C dX2_alike_22 rfl 5 rfl ?_
  refine j_iload C dX2_alike_23 1 rfl ?_
  refine j_ishr (v := 32) C dX2_alike_25 (by decide) ?_
  refine j_iconst (v := 1) C dX2_alike_26 (by decide) ?_
  show J _ _ _ _ _ 27 _
  refine j_iand (v := 0) C dX2_alike_27 (by decide) ?_
  refine j_if_eq (tgt := 50) C dX2_alike_28 (by decide) (fun c9 => ?_) (fun c9 => absurd (by decide) c9)
  refine j_iconst (v := 0) C dX2_alike_50 (by decide) ?_
  refine j_istore (lv' := [(7, .int 0), (6, .int (nI (77 + wt))), (5, .int 11), (4, .int 0), (0, .ref (ad 15)), (1, .int 65536), (2, .int (nI wt)), (3, .int v)]) C dX2_alike_51 (by rw [hn9]; decide) rfl ?_
  refine j_iload C dX2_alike_53 0 rfl ?_
  refine j_if_eq (tgt := 78) C dX2_alike_55 (by decide) (fun c9 => ?_) (fun c9 => absurd (by decide) c9)
  refine j_iinc (q := 2) (v := 12) (lv' := [(5, .int 12), (7, .int 0), (6, .int (nI (77 + wt))), (4, .int 0), (0, .ref (ad 15)), (1, .int 65536), (2, .int (nI wt)), (3, .int v)]) C dX2_alike_78 rfl (by decide) (by rw [hn9]; decide) rfl ?_
  refine j_goto (tgt := 6) C dX2_alike_81 (by decide) ?_
  show J _ _ _ _ _ 6 _
  refine j_iload C dX2_alike_6 0 rfl ?_
  refine j_bipush (v := 16) C dX2_alike_8 (by decide) ?_
  refine j_ic_gt (tgt := 84) C dX2_alike_10 (by decide) (fun c9 => absurd c9 (by decide)) (fun c9 => ?_)
  refine j_iload C dX2_alike_13 0 rfl ?_
  refine j_bipush (v := 7) C dX2_alike_15 (by decide) ?_
  refine j_imul (v := 84) C dX2_alike_17 (by decide) ?_
  refine j_iload_n C dX2_alike_18 rfl 6 rfl ?_
  refine j_iadd (v := nI (84 + wt)) C dX2_alike_19 (nI_add 84 wt) ?_
  show J _ _ _ _ _ 20 _
  refine j_istore (lv' := [(6, .int (nI (84 + wt))), (5, .int 12), (7, .int 0), (4, .int 0), (0, .ref (ad 15)), (1, .int 65536), (2, .int (nI wt)), (3, .int v)]) C dX2_alike_20 (by rw [hn9]; decide) rfl ?_
  refine j_iload_n C dX2_alike_22 rfl 5 rfl ?_
  refine j_iload C dX2_alike_23 1 rfl ?_
  refine j_ishr (v := 16) C dX2_alike_25 (by decide) ?_
  refine j_iconst (v := 1) C dX2_alike_26 (by decide) ?_
  refine j_iand (v := 0) C dX2_alike_27 (by decide) ?_
  refine j_if_eq (tgt := 50) C dX2_alike_28 (by decide) (fun c9 => ?_) (fun c9 => absurd (by decide) c9)
  refine j_iconst (v := 0) C dX2_alike_50 (by decide) ?_
  show J _ _ _ _ _ 51 _
  refine j_istore (lv' := [(7, .int 0), (6, .int (nI (84 + wt))), (5, .int 12), (4, .int 0), (0, .ref (ad 15)), (1, .int 65536), (2, .int (nI wt)), (3, .int v)]) C dX2_alike_51 (by rw [hn9]; decide) rfl ?_
  refine j_iload C dX2_alike_53 0 rfl ?_
  refine j_if_eq (tgt := 78) C dX2_alike_55 (by decide) (fun c9 => ?_) (fun c9 => absurd (by decide) c9)
  refine j_iinc (q := 2) (v := 13) (lv' := [(5, .int 13), (7, .int 0), (6, .int (nI (84 + wt))), (4, .int 0), (0, .ref (ad 15)), (1, .int 65536), (2, .int (nI wt)), (3, .int v)]) C dX2_alike_78 rfl (by decide) (by rw [hn9]; decide) rfl ?_
  refine j_goto (tgt := 6) C dX2_alike_81 (by decide) ?_
  refine j_iload C dX2_alike_6 0 rfl ?_
  refine j_bipush (v := 16) C dX2_alike_8 (by decide) ?_
  refine j_ic_gt (tgt := 84) C dX2_alike_10 (by decide) (fun c9 => absurd c9 (by decide)) (fun c9 => ?_)
  show J _ _ _ _ _ 13 _
  refine j_iload C dX2_alike_13 0 rfl ?_
  refine j_bipush (v := 7) C dX2_alike_15 (by decide) ?_
  refine j_imul (v := 91) C dX2_alike_17 (by decide) ?_
  refine j_iload_n C dX2_alike_18 rfl 6 rfl ?_
  refine j_iadd (v := nI (91 + wt)) C dX2_alike_19 (nI_add 91 wt) ?_
  refine j_istore (lv' := [(6, .int (nI (91 + wt))), (5, .int 13), (7, .int 0), (4, .int 0), (0, .ref (ad 15)), (1, .int 65536), (2, .int (nI wt)), (3, .int v)]) C dX2_alike_20 (by rw [hn9]; decide) rfl ?_
  refine j_iload_n C dX2_alike_22 rfl 5 rfl ?_
  refine j_iload C dX2_alike_23 1 rfl ?_
  show J _ _ _ _ _ 25 _
  refine j_ishr (v := 8) C dX2_alike_25 (by decide) ?_
  refine j_iconst (v := 1) C dX2_alike_26 (by decide) ?_
  refine j_iand (v := 0) C dX2_alike_27 (by decide) ?_
  refine j_if_eq (tgt := 50) C dX2_alike_28 (by decide) (fun c9 => ?_) (fun c9 => absurd (by decide) c9)
  refine j_iconst (v := 0) C dX2_alike_50 (by decide) ?_
  refine j_istore (lv' := [(7, .int 0), (6, .int (nI (91 + wt))), (5, .int 13), (4, .int 0), (0, .ref (ad 15)), (1, .int 65536), (2, .int (nI wt)), (3, .int v)]) C dX2_alike_51 (by rw [hn9]; decide) rfl ?_
  refine j_iload C dX2_alike_53 0 rfl ?_
  refine j_if_eq (tgt := 78) C dX2_alike_55 (by decide) (fun c9 => ?_) (fun c9 => absurd (by decide) c9)
  show J _ _ _ _ _ 78 _
  refine j_iinc (q := 2) (v := 14) (lv' := [(5, .int 14), (7, .int 0), (6, .int (nI (91 + wt))), (4, .int 0), (0, .ref (ad 15)), (1, .int 65536), (2, .int (nI wt)), (3, .int v)]) C dX2_alike_78 rfl (by decide) (by rw [hn9]; decide) rfl ?_
  refine j_goto (tgt := 6) C dX2_alike_81 (by decide) ?_
  refine j_iload C dX2_alike_6 0 rfl ?_
  refine j_bipush (v := 16) C dX2_alike_8 (by decide) ?_
  refine j_ic_gt (tgt := 84) C dX2_alike_10 (by decide) (fun c9 => absurd c9 (by decide)) (fun c9 => ?_)
  refine j_iload C dX2_alike_13 0 rfl ?_
  refine j_bipush (v := 7) C dX2_alike_15 (by decide) ?_
  refine j_imul (v := 98) C dX2_alike_17 (by decide) ?_
  show J _ _ _ _ _ 18 _
  refine j_iload_n C dX2_alike_18 rfl 6 rfl ?_
  refine j_iadd (v := nI (98 + wt)) C dX2_alike_19 (nI_add 98 wt) ?_
  refine j_istore (lv' := [(6, .int (nI (98 + wt))), (5, .int 14), (7, .int 0), (4, .int 0), (0, .ref (ad 15)), (1, .int 65536), (2, .int (nI wt)), (3, .int v)]) C dX2_alike_20 (by rw [hn9]; decide) rfl ?_
  refine j_iload_n C dX2_alike_22 rfl 5 rfl ?_
  refine j_iload C dX2_alike_23 1 rfl ?_
  refine j_ishr (v := 4) C dX2_alike_25 (by decide) ?_
  refine j_iconst (v := 1) C dX2_alike_26 (by decide) ?_
  refine j_iand (v := 0) C dX2_alike_27 (by decide) ?_
  show J _ _ _ _ _ 28 _
  refine j_if_eq (tgt := 50) C dX2_alike_28 (by decide) (fun c9 => ?_) (fun c9 => absurd (by decide) c9)
  refine j_iconst (v := 0) C dX2_alike_50 (by decide) ?_
  refine j_istore (lv' := [(7, .int 0), (6, .int (nI (98 + wt))), (5, .int 14), (4, .int 0), (0, .ref (ad 15)), (1, .int 65536), (2, .int (nI wt)), (3, .int v)]) C dX2_alike_51 (by rw [hn9]; decide) rfl ?_
  refine j_iload C dX2_alike_53 0 rfl ?_
  refine j_if_eq (tgt := 78) C dX2_alike_55 (by decide) (fun c9 => ?_) (fun c9 => absurd (by decide) c9)
  refine j_iinc (q := 2) (v := 15) (lv' := [(5, .int 15), (7, .int 0), (6, .int (nI (98 + wt))), (4, .int 0), (0, .ref (ad 15)), (1, .int 65536), (2, .int (nI wt)), (3, .int v)]) C dX2_alike_78 rfl (by decide) (by rw [hn9]; decide) rfl ?_
  refine j_goto (tgt := 6) C dX2_alike_81 (by decide) ?_
  refine j_iload C dX2_alike_6 0 rfl ?_
  show J _ _ _ _ _ 8 _
  refine j_bipush (v := 16) C dX2_alike_8 (by decide) ?_
  refine j_ic_gt (tgt := 84) C dX2_alike_10 (by decide) (fun c9 => absurd c9 (by decide)) (fun c9 => ?_)
  refine j_iload C dX2_alike_13 0 rfl ?_
  refine j_bipush (v := 7) C dX2_alike_15 (by decide) ?_
  refine j_imul (v := 105) C dX2_alike_17 (by decide) ?_
  refine j_iload_n C dX2_alike_18 rfl 6 rfl ?_
  refine j_iadd (v := nI (105 + wt)) C dX2_alike_19 (nI_add 105 wt) ?_
  refine j_istore (lv' := [(6, .int (nI (105 + wt))), (5, .int 15), (7, .int 0), (4, .int 0), (0, .ref (ad 15)), (1, .int 65536), (2, .int (nI wt)), (3, .int v)]) C dX2_alike_20 (by rw [hn9]; decide) rfl ?_
  show J _ _ _ _ _ 22 _
  refine j_iload_n C dX2_alike_22 rfl 5 rfl ?_
  refine j_iload C dX2_alike_23 1 rfl ?_
  refine j_ishr (v := 2) C dX2_alike_25 (by decide) ?_
  refine j_iconst (v := 1) C dX2_alike_26 (by decide) ?_
  refine j_iand (v := 0) C dX2_alike_27 (by decide) ?_
  refine j_if_eq (tgt := 50) C dX2_alike_28 (by decide) (fun c9 => ?_) (fun c9 => absurd (by decide) c9)
  refine j_iconst (v := 0) C dX2_alike_50 (by decide) ?_
  refine j_istore (lv' := [(7, .int 0), (6, .int (nI (105 + wt))), (5, .int 15), (4, .int 0), (0, .ref (ad 15)), (1, .int 65536), (2, .int (nI wt)), (3, .int v)]) C dX2_alike_51 (by rw [hn9]; decide) rfl ?_
  show J _ _ _ _ _ 53 _
  refine j_iload C dX2_alike_53 0 rfl ?_
  refine j_if_eq (tgt := 78) C dX2_alike_55 (by decide) (fun c9 => ?_) (fun c9 => absurd (by decide) c9)
  refine j_iinc (q := 2) (v := 16) (lv' := [(5, .int 16), (7, .int 0), (6, .int (nI (105 + wt))), (4, .int 0), (0, .ref (ad 15)), (1, .int 65536), (2, .int (nI wt)), (3, .int v)]) C dX2_alike_78 rfl (by decide) (by rw [hn9]; decide) rfl ?_
  refine j_goto (tgt := 6) C dX2_alike_81 (by decide) ?_
  refine j_iload C dX2_alike_6 0 rfl ?_
  refine j_bipush (v := 16) C dX2_alike_8 (by decide) ?_
  refine j_ic_gt (tgt := 84) C dX2_alike_10 (by decide) (fun c9 => absurd c9 (by decide)) (fun c9 => ?_)
  refine j_iload C dX2_alike_13 0 rfl ?_
  show J _ _ _ _ _ 15 _
  refine j_bipush (v := 7) C dX2_alike_15 (by decide) ?_
  refine j_imul (v := 112) C dX2_alike_17 (by decide) ?_
  refine j_iload_n C dX2_alike_18 rfl 6 rfl ?_
  refine j_iadd (v := nI (112 + wt)) C dX2_alike_19 (nI_add 112 wt) ?_
  refine j_istore (lv' := [(6, .int (nI (112 + wt))), (5, .int 16), (7, .int 0), (4, .int 0), (0, .ref (ad 15)), (1, .int 65536), (2, .int (nI wt)), (3, .int v)]) C dX2_alike_20 (by rw [hn9]; decide) rfl ?_
  refine j_iload_n C dX2_alike_22 rfl 5 rfl ?_
  refine j_iload C dX2_alike_23 1 rfl ?_
  refine j_ishr (v := 1) C dX2_alike_25 (by decide) ?_
  show J _ _ _ _ _ 26 _
  refine j_iconst (v := 1) C dX2_alike_26 (by decide) ?_
  refine j_iand (v := 1) C dX2_alike_27 (by decide) ?_
  refine j_if_eq (tgt := 50) C dX2_alike_28 (by decide) (fun c9 => absurd c9 (by decide)) (fun c9 => ?_)
  refine j_iload C dX2_alike_31 0 rfl ?_
  refine j_if_lt (tgt := 50) C dX2_alike_33 (by decide) (fun c_33 => absurd c_33 (nI_pos (by omega))) (fun c_33 => ?_)
  refine j_iload C dX2_alike_36 0 rfl ?_
  refine j_aload_n C dX2_alike_38 rfl 4 rfl ?_
  refine j_getr (f := 201) (v := (ad 18)) C flX2_18 dX2_alike_39 (wm_15 (S := S) hW) (wk_15 (S := S) hW) (by decide) rfl (wr_201_15 (S := S) hW) ?_
  show J _ _ _ _ _ 42 _
  refine j_alen (v := 119) C dX2_alike_42 (wm_18 (S := S) hW) (wk_18 (S := S) hW) (by decide) (by decide) (len_of (n := 119) (wl_18 (S := S) hW) (by decide)) ?_
  refine j_ic_ge (tgt := 50) C dX2_alike_43 (by decide) (fun c_43 => absurd c_43 (nI_ge (b := 119) (by omega) (by decide))) (fun c_43 => ?_)
  refine j_iconst (v := 1) C dX2_alike_46 (by decide) ?_
  refine j_goto (tgt := 51) C dX2_alike_47 (by decide) ?_
  refine j_istore (lv' := [(7, .int 1), (6, .int (nI (112 + wt))), (5, .int 16), (4, .int 0), (0, .ref (ad 15)), (1, .int 65536), (2, .int (nI wt)), (3, .int v)]) C dX2_alike_51 (by rw [hn9]; decide) rfl ?_
  refine j_iload C dX2_alike_53 0 rfl ?_
  refine j_if_eq (tgt := 78) C dX2_alike_55 (by decide) (fun c9 => absurd c9 (by decide)) (fun c9 => ?_)
  refine j_aload_n C dX2_alike_58 rfl 4 rfl ?_
  show J _ _ _ _ _ 59 _
  refine j_getr (f := 201) (v := (ad 18)) C flX2_18 dX2_alike_59 (wm_15 (S := S) hW) (wk_15 (S := S) hW) (by decide) rfl (wr_201_15 (S := S) hW) ?_
  refine j_iload C dX2_alike_62 1 rfl ?_
  refine j_iald (j := (112 + wt)) (v := aI S (ad 18) (112 + wt)) C dX2_alike_64 (wm_18 (S := S) hW) (wk_18 (S := S) hW) (inr_of (n := 119) (wl_18 (S := S) hW) (vp_in_nI (by omega) (by omega))) (nI_clamp (by omega)) rfl ?_
  refine j_iload_n C dX2_alike_65 rfl 7 rfl ?_
  refine j_ic_ne (tgt := 78) C dX2_alike_66 (by decide) (fun c_66 => ?_) (fun c_66 => ?_)
  · skip
    refine j_iinc (q := 2) (v := 17) (lv' := [(5, .int 17), (7, .int 1), (6, .int (nI (112 + wt))), (4, .int 0), (0, .ref (ad 15)), (1, .int 65536), (2, .int (nI wt)), (3, .int v)]) C dX2_alike_78 rfl (by decide) (by rw [hn9]; decide) rfl ?_
    refine j_goto (tgt := 6) C dX2_alike_81 (by decide) ?_
    refine j_iload C dX2_alike_6 0 rfl ?_
    refine j_bipush (v := 16) C dX2_alike_8 (by decide) ?_
    show J _ _ _ _ _ 10 _
    refine j_ic_gt (tgt := 84) C dX2_alike_10 (by decide) (fun c9 => ?_) (fun c9 => absurd (by decide) c9)
    refine j_iload C dX2_alike_84 3 rfl ?_
    refine j_if_ne (tgt := 93) C dX2_alike_86 (by decide) (fun c9 => absurd c9 (by decide)) (fun c9 => ?_)
    refine j_iload_n C dX2_alike_89 rfl 5 rfl ?_
    refine j_goto (tgt := 95) C dX2_alike_90 (by decide) ?_
    exact j_iret C M dX2_alike_95 (by decide) (by decide) ⟨rfl, rfl⟩
  · skip
    refine j_iload C dX2_alike_69 3 rfl ?_
    refine j_iconst (v := 1) C dX2_alike_71 (by decide) ?_
    refine j_iload C dX2_alike_72 2 rfl ?_
    show J _ _ _ _ _ 74 _
    refine j_ishl (v := 65536) C dX2_alike_74 (by decide) ?_
    refine j_ior (v := 65536) C dX2_alike_75 (by decide) ?_
    refine j_istore (lv' := [(4, .int 65536), (7, .int 1), (6, .int (nI (112 + wt))), (5, .int 16), (0, .ref (ad 15)), (1, .int 65536), (2, .int (nI wt)), (3, .int v)]) C dX2_alike_76 (by rw [hn9]; decide) rfl ?_
    refine j_iinc (q := 3) (v := 17) (lv' := [(5, .int 17), (4, .int 65536), (7, .int 1), (6, .int (nI (112 + wt))), (0, .ref (ad 15)), (1, .int 65536), (2, .int (nI wt)), (3, .int v)]) C dX2_alike_78 rfl (by decide) (by rw [hn9]; decide) rfl ?_
    refine j_goto (tgt := 6) C dX2_alike_81 (by decide) ?_
    refine j_iload C dX2_alike_6 0 rfl ?_
    refine j_bipush (v := 16) C dX2_alike_8 (by decide) ?_
    refine j_ic_gt (tgt := 84) C dX2_alike_10 (by decide) (fun c9 => ?_) (fun c9 => absurd (by decide) c9)
    show J _ _ _ _ _ 84 _
    refine j_iload C dX2_alike_84 1 rfl ?_
    refine j_if_ne (tgt := 93) C dX2_alike_86 (by decide) (fun c9 => ?_) (fun c9 => absurd c9 (by decide))
    refine j_iload C dX2_alike_93 1 rfl ?_
    exact j_iret C M dX2_alike_95 (by decide) (by decide) ⟨rfl, rfl⟩

theorem dX2_nearest_0 : decode cX2_nearest 0 = .ok (.aload_n 0, 1) := by decide +kernel
theorem dX2_nearest_1 : decode cX2_nearest 1 = .ok (.getfield 35, 3) := by decide +kernel
theorem dX2_nearest_4 : decode cX2_nearest 4 = .ok (.iload_n 2, 1) := by decide +kernel
theorem dX2_nearest_5 : decode cX2_nearest 5 = .ok (.iaload, 1) := by decide +kernel
theorem dX2_nearest_6 : decode cX2_nearest 6 = .ok (.istore_n 3, 1) := by decide +kernel
theorem dX2_nearest_7 : decode cX2_nearest 7 = .ok (.iconst 0, 1) := by decide +kernel
theorem dX2_nearest_8 : decode cX2_nearest 8 = .ok (.istore 4, 2) := by decide +kernel
theorem dX2_nearest_10 : decode cX2_nearest 10 = .ok (.iconst 0, 1) := by decide +kernel
theorem dX2_nearest_11 : decode cX2_nearest 11 = .ok (.istore 5, 2) := by decide +kernel
theorem dX2_nearest_13 : decode cX2_nearest 13 = .ok (.iconst 0, 1) := by decide +kernel
theorem dX2_nearest_14 : decode cX2_nearest 14 = .ok (.istore 6, 2) := by decide +kernel
theorem dX2_nearest_16 : decode cX2_nearest 16 = .ok (.iload 6, 2) := by decide +kernel
theorem dX2_nearest_18 : decode cX2_nearest 18 = .ok (.bipush 16, 2) := by decide +kernel
theorem dX2_nearest_20 : decode cX2_nearest 20 = .ok (.if_icmp .gt 97, 3) := by decide +kernel
theorem dX2_nearest_23 : decode cX2_nearest 23 = .ok (.iload 6, 2) := by decide +kernel
theorem dX2_nearest_25 : decode cX2_nearest 25 = .ok (.bipush 7, 2) := by decide +kernel
theorem dX2_nearest_27 : decode cX2_nearest 27 = .ok (.imul, 1) := by decide +kernel
theorem dX2_nearest_28 : decode cX2_nearest 28 = .ok (.iload_n 2, 1) := by decide +kernel
theorem dX2_nearest_29 : decode cX2_nearest 29 = .ok (.iadd, 1) := by decide +kernel
theorem dX2_nearest_30 : decode cX2_nearest 30 = .ok (.istore 7, 2) := by decide +kernel
theorem dX2_nearest_32 : decode cX2_nearest 32 = .ok (.iload_n 1, 1) := by decide +kernel
theorem dX2_nearest_33 : decode cX2_nearest 33 = .ok (.iload 6, 2) := by decide +kernel
theorem dX2_nearest_35 : decode cX2_nearest 35 = .ok (.ishr, 1) := by decide +kernel
theorem dX2_nearest_36 : decode cX2_nearest 36 = .ok (.iconst 1, 1) := by decide +kernel
theorem dX2_nearest_37 : decode cX2_nearest 37 = .ok (.iand, 1) := by decide +kernel
theorem dX2_nearest_38 : decode cX2_nearest 38 = .ok (.ifCond .eq 73, 3) := by decide +kernel
theorem dX2_nearest_41 : decode cX2_nearest 41 = .ok (.iload 7, 2) := by decide +kernel
theorem dX2_nearest_43 : decode cX2_nearest 43 = .ok (.ifCond .lt 68, 3) := by decide +kernel
theorem dX2_nearest_46 : decode cX2_nearest 46 = .ok (.iload 7, 2) := by decide +kernel
theorem dX2_nearest_48 : decode cX2_nearest 48 = .ok (.aload_n 0, 1) := by decide +kernel
theorem dX2_nearest_49 : decode cX2_nearest 49 = .ok (.getfield 18, 3) := by decide +kernel
theorem dX2_nearest_52 : decode cX2_nearest 52 = .ok (.arraylength, 1) := by decide +kernel
theorem dX2_nearest_53 : decode cX2_nearest 53 = .ok (.if_icmp .ge 58, 3) := by decide +kernel
theorem dX2_nearest_56 : decode cX2_nearest 56 = .ok (.aload_n 0, 1) := by decide +kernel
theorem dX2_nearest_57 : decode cX2_nearest 57 = .ok (.getfield 18, 3) := by decide +kernel
theorem dX2_nearest_60 : decode cX2_nearest 60 = .ok (.iload 7, 2) := by decide +kernel
theorem dX2_nearest_62 : decode cX2_nearest 62 = .ok (.iaload, 1) := by decide +kernel
theorem dX2_nearest_63 : decode cX2_nearest 63 = .ok (.istore 8, 2) := by decide +kernel
theorem dX2_nearest_65 : decode cX2_nearest 65 = .ok (.iload 4, 2) := by decide +kernel
theorem dX2_nearest_67 : decode cX2_nearest 67 = .ok (.iload_n 3, 1) := by decide +kernel
theorem dX2_nearest_68 : decode cX2_nearest 68 = .ok (.isub, 1) := by decide +kernel
theorem dX2_nearest_69 : decode cX2_nearest 69 = .ok (.invokestatic 124, 3) := by decide +kernel
theorem dX2_nearest_72 : decode cX2_nearest 72 = .ok (.iload 8, 2) := by decide +kernel
theorem dX2_nearest_74 : decode cX2_nearest 74 = .ok (.iload_n 3, 1) := by decide +kernel
theorem dX2_nearest_75 : decode cX2_nearest 75 = .ok (.isub, 1) := by decide +kernel
theorem dX2_nearest_76 : decode cX2_nearest 76 = .ok (.invokestatic 124, 3) := by decide +kernel
theorem dX2_nearest_79 : decode cX2_nearest 79 = .ok (.isub, 1) := by decide +kernel
theorem dX2_nearest_80 : decode cX2_nearest 80 = .ok (.istore 9, 2) := by decide +kernel
theorem dX2_nearest_82 : decode cX2_nearest 82 = .ok (.iload 5, 2) := by decide +kernel
theorem dX2_nearest_84 : decode cX2_nearest 84 = .ok (.ifCond .eq 20, 3) := by decide +kernel
theorem dX2_nearest_87 : decode cX2_nearest 87 = .ok (.iload 9, 2) := by decide +kernel
theorem dX2_nearest_89 : decode cX2_nearest 89 = .ok (.ifCond .gt 15, 3) := by decide +kernel
theorem dX2_nearest_92 : decode cX2_nearest 92 = .ok (.iload 9, 2) := by decide +kernel
theorem dX2_nearest_94 : decode cX2_nearest 94 = .ok (.ifCond .ne 17, 3) := by decide +kernel
theorem dX2_nearest_97 : decode cX2_nearest 97 = .ok (.iload 8, 2) := by decide +kernel
theorem dX2_nearest_99 : decode cX2_nearest 99 = .ok (.iload 4, 2) := by decide +kernel
theorem dX2_nearest_101 : decode cX2_nearest 101 = .ok (.if_icmp .le 10, 3) := by decide +kernel
theorem dX2_nearest_104 : decode cX2_nearest 104 = .ok (.iload 8, 2) := by decide +kernel
theorem dX2_nearest_106 : decode cX2_nearest 106 = .ok (.istore 4, 2) := by decide +kernel
theorem dX2_nearest_108 : decode cX2_nearest 108 = .ok (.iconst 1, 1) := by decide +kernel
theorem dX2_nearest_109 : decode cX2_nearest 109 = .ok (.istore 5, 2) := by decide +kernel
theorem dX2_nearest_111 : decode cX2_nearest 111 = .ok (.iinc 6 1, 3) := by decide +kernel
theorem dX2_nearest_114 : decode cX2_nearest 114 = .ok (.goto (-98), 3) := by decide +kernel
theorem dX2_nearest_117 : decode cX2_nearest 117 = .ok (.iload 4, 2) := by decide +kernel
theorem dX2_nearest_119 : decode cX2_nearest 119 = .ok (.ireturn, 1) := by decide +kernel

set_option maxRecDepth 100000 in
set_option maxHeartbeats 4000000 in
theorem c_X2_nearest (S : Hp) (ad : Nat → Nat) (hW : Wd ad S) (wt : Nat) (hw : wt < 7) : Ct 2 yX2_nearest cX2_nearest 10 (some .int) 0 0 [.ref (ad 15), .int 65536, .int (nI wt)] S (fun r S' => r = some (.int (aI S (ad 18) (112 + wt))) ∧ S' = S) := by
  refine ct_of (by decide) (Nat.le_of_ble_eq_true rfl) fun x hn9 C M hm9 => ?_
  have C : CB x RX2 cX2_nearest := C
  refine J.eq (lv' := [(0, .ref (ad 15)), (1, .int 65536), (2, .int (nI wt))]) rfl rfl rfl ?_
  refine j_aload_n C dX2_nearest_0 rfl 0 rfl ?_
  refine j_getr (f := 207) (v := (ad 19)) C flX2_35 dX2_nearest_1 (wm_15 (S := S) hW) (wk_15 (S := S) hW) (by decide) rfl (wr_207_15 (S := S) hW) ?_
  refine j_iload_n C dX2_nearest_4 rfl 2 rfl ?_
  refine j_iald (j := wt) (v := aI S (ad 19) wt) C dX2_nearest_5 (wm_19 (S := S) hW) (wk_19 (S := S) hW) (inr_of (n := 8) (wl_19 (S := S) hW) (vp_in_nI (by omega) (by omega))) (nI_clamp (by omega)) rfl ?_
  refine j_istore_n (lv' := [(3, .int (aI S (ad 19) wt)), (0, .ref (ad 15)), (1, .int 65536), (2, .int (nI wt))]) C dX2_nearest_6 rfl (by rw [hn9]; decide) rfl ?_
  refine j_iconst (v := 0) C dX2_nearest_7 (by decide) ?_
  refine j_istore (lv' := [(4, .int 0), (3, .int (aI S (ad 19) wt)), (0, .ref (ad 15)), (1, .int 65536), (2, .int (nI wt))]) C dX2_nearest_8 (by rw [hn9]; decide) rfl ?_
  refine j_iconst (v := 0) C dX2_nearest_10 (by decide) ?_
  show J _ _ _ _ _ 11 _
  refine j_istore (lv' := [(5, .int 0), (4, .int 0), (3, .int (aI S (ad 19) wt)), (0, .ref (ad 15)), (1, .int 65536), (2, .int (nI wt))]) C dX2_nearest_11 (by rw [hn9]; decide) rfl ?_
  refine j_iconst (v := 0) C dX2_nearest_13 (by decide) ?_
  refine j_istore (lv' := [(6, .int 0), (5, .int 0), (4, .int 0), (3, .int (aI S (ad 19) wt)), (0, .ref (ad 15)), (1, .int 65536), (2, .int (nI wt))]) C dX2_nearest_14 (by rw [hn9]; decide) rfl ?_
  refine j_iload C dX2_nearest_16 0 rfl ?_
  refine j_bipush (v := 16) C dX2_nearest_18 (by decide) ?_
  refine j_ic_gt (tgt := 117) C dX2_nearest_20 (by decide) (fun c9 => absurd c9 (by decide)) (fun c9 => ?_)
  refine j_iload C dX2_nearest_23 0 rfl ?_
  refine j_bipush (v := 7) C dX2_nearest_25 (by decide) ?_
  show J _ _ _ _ _ 27 _
  refine j_imul (v := 0) C dX2_nearest_27 (by decide) ?_
  refine j_iload_n C dX2_nearest_28 rfl 6 rfl ?_
  refine j_iadd (v := nI (0 + wt)) C dX2_nearest_29 (nI_add 0 wt) ?_
  refine j_istore (lv' := [(7, .int (nI (0 + wt))), (6, .int 0), (5, .int 0), (4, .int 0), (3, .int (aI S (ad 19) wt)), (0, .ref (ad 15)), (1, .int 65536), (2, .int (nI wt))]) C dX2_nearest_30 (by rw [hn9]; decide) rfl ?_
  refine j_iload_n C dX2_nearest_32 rfl 6 rfl ?_
  refine j_iload C dX2_nearest_33 1 rfl ?_
  refine j_ishr (v := 65536) C dX2_nearest_35 (by decide) ?_
  refine j_iconst (v := 1) C dX2_nearest_36 (by decide) ?_
  show J _ _ _ _ _ 37 _
  refine j_iand (v := 0) C dX2_nearest_37 (by decide) ?_
  refine j_if_eq (tgt := 111) C dX2_nearest_38 (by decide) (fun c9 => ?_) (fun c9 => absurd (by decide) c9)
  refine j_iinc (q := 1) (v := 1) (lv' := [(6, .int 1), (7, .int (nI (0 + wt))), (5, .int 0), (4, .int 0), (3, .int (aI S (ad 19) wt)), (0, .ref (ad 15)), (1, .int 65536), (2, .int (nI wt))]) C dX2_nearest_111 rfl (by decide) (by rw [hn9]; decide) rfl ?_
  refine j_goto (tgt := 16) C dX2_nearest_114 (by decide) ?_
  refine j_iload C dX2_nearest_16 0 rfl ?_
  refine j_bipush (v := 16) C dX2_nearest_18 (by decide) ?_
  refine j_ic_gt (tgt := 117) C dX2_nearest_20 (by decide) (fun c9 => absurd c9 (by decide)) (fun c9 => ?_)
  refine j_iload C dX2_nearest_23 0 rfl ?_
  show J _ _ _ _ _ 25 _
  refine j_bipush (v := 7) C dX2_nearest_25 (by decide) ?_
  refine j_imul (v := 7) C dX2_nearest_27 (by decide) ?_
  refine j_iload_n C dX2_nearest_28 rfl 7 rfl ?_
  refine j_iadd (v := nI (7 + wt)) C dX2_nearest_29 (nI_add 7 wt) ?_
  refine j_istore (lv' := [(7, .int (nI (7 + wt))), (6, .int 1), (5, .int 0), (4, .int 0), (3, .int (aI S (ad 19) wt)), (0, .ref (ad 15)), (1, .int 65536), (2, .int (nI wt))]) C dX2_nearest_30 (by rw [hn9]; decide) rfl ?_
  refine j_iload_n C dX2_nearest_32 rfl 6 rfl ?_
  refine j_iload C dX2_nearest_33 1 rfl ?_
  refine j_ishr (v := 32768) C dX2_nearest_35 (by decide) ?_
  show J _ _ _ _ _ 36 _
  refine j_iconst (v := 1) C dX2_nearest_36 (by decide) ?_
  refine j_iand (v := 0) C dX2_nearest_37 (by decide) ?_
  refine j_if_eq (tgt := 111) C dX2_nearest_38 (by decide) (fun c9 => ?_) (fun c9 => absurd (by decide) c9)
  refine j_iinc (q := 1) (v := 2) (lv' := [(6, .int 2), (7, .int (nI (7 + wt))), (5, .int 0), (4, .int 0), (3, .int (aI S (ad 19) wt)), (0, .ref (ad 15)), (1, .int 65536), (2, .int (nI wt))]) C dX2_nearest_111 rfl (by decide) (by rw [hn9]; decide) rfl ?_
  refine j_goto (tgt := 16) C dX2_nearest_114 (by decide) ?_
  refine j_iload C dX2_nearest_16 0 rfl ?_
  refine j_bipush (v := 16) C dX2_nearest_18 (by decide) ?_
  refine j_ic_gt (tgt := 117) C dX2_nearest_20 (by decide) (fun c9 => absurd c9 (by decide)) (fun c9 => ?_)
  show J _ _ _ _ _ 23 _
  refine j_iload C dX2_nearest_23 0 rfl ?_
  refine j_bipush (v := 7) C dX2_nearest_25 (by decide) ?_
  refine j_imul (v := 14) C dX2_nearest_27 (by decide) ?_
  refine j_iload_n C dX2_nearest_28 rfl 7 rfl ?_
  refine j_iadd (v := nI (14 + wt)) C dX2_nearest_29 (nI_add 14 wt) ?_
  refine j_istore (lv' := [(7, .int (nI (14 + wt))), (6, .int 2), (5, .int 0), (4, .int 0), (3, .int (aI S (ad 19) wt)), (0, .ref (ad 15)), (1, .int 65536), (2, .int (nI wt))]) C dX2_nearest_30 (by rw [hn9]; decide) rfl ?_
  refine j_iload_n C dX2_nearest_32 rfl 6 rfl ?_
  refine j_iload C dX2_nearest_33 1 rfl ?_
  show J _ _ _ _ _ 35 _
  refine j_ishr (v := 16384) C dX2_nearest_35 (by decide) ?_
  refine j_iconst (v := 1) C dX2_nearest_36 (by decide) ?_
  refine j_iand (v := 0) C dX2_nearest_37 (by decide) ?_
  refine j_if_eq (tgt := 111) C dX2_nearest_38 (by decide) (fun c9 => ?_) (fun c9 => absurd (by decide) c9)
  refine j_iinc (q := 1) (v := 3) (lv' := [(6, .int 3), (7, .int (nI (14 + wt))), (5, .int 0), (4, .int 0), (3, .int (aI S (ad 19) wt)), (0, .ref (ad 15)), (1, .int 65536), (2, .int (nI wt))]) C dX2_nearest_111 rfl (by decide) (by rw [hn9]; decide) rfl ?_
  refine j_goto (tgt := 16) C dX2_nearest_114 (by decide) ?_
  refine j_iload C dX2_nearest_16 0 rfl ?_
  refine j_bipush (v := 16) C dX2_nearest_18 (by decide) ?_
  show J _ _ _ _ _ 20 _
  refine j_ic_gt (tgt := 117) C dX2_nearest_20 (by decide) (fun c9 => absurd c9 (by decide)) (fun c9 => ?_)
  refine j_iload C dX2_nearest_23 0 rfl ?_
  refine j_bipush (v := 7) C dX2_nearest_25 (by decide) ?_
  refine j_imul (v := 21) C dX2_nearest_27 (by decide) ?_
  refine j_iload_n C dX2_nearest_28 rfl 7 rfl ?_
  refine j_iadd (v := nI (21 + wt)) C dX2_nearest_29 (nI_add 21 wt) ?_
  refine j_istore (lv' := [(7, .int (nI (21 + wt))), (6, .int 3), (5, .int 0), (4, .int 0), (3, .int (aI S (ad 19) wt)), (0, .ref (ad 15)), (1, .int 65536), (2, .int (nI wt))]) C dX2_nearest_30 (by rw [hn9]; decide) rfl ?_
  refine j_iload_n C dX2_nearest_32 rfl 6 rfl ?_
  show J _ _ _ _ _ 33 _
  refine j_iload C dX2_nearest_33 1 rfl ?_
  refine j_ishr (v := 8192) C dX2_nearest_35 (by decide) ?_
  refine j_iconst (v := 1) C dX2_nearest_36 (by decide) ?_
  refine j_iand (v := 0) C dX2_nearest_37 (by decide) ?_
  refine j_if_eq (tgt := 111) C dX2_nearest_38 (by decide) (fun c9 => ?_) (fun c9 => absurd (by decide) c9)
  refine j_iinc (q := 1) (v := 4) (lv' := [(6, .int 4), (7, .int (nI (21 + wt))), (5, .int 0), (4, .int 0), (3, .int (aI S (ad 19) wt)), (0, .ref (ad 15)), (1, .int 65536), (2, .int (nI wt))]) C dX2_nearest_111 rfl (by decide) (by rw [hn9]; decide) rfl ?_
  refine j_goto (tgt := 16) C dX2_nearest_114 (by decide) ?_
  refine j_iload C dX2_nearest_16 0 rfl ?_
  show J _ _ _ _ _ 18 _
  refine j_bipush (v := 16) C dX2_nearest_18 (by decide) ?_
  refine j_ic_gt (tgt := 117) C dX2_nearest_20 (by decide) (fun c9 => absurd c9 (by decide)) (fun c9 => ?_)
  refine j_iload C dX2_nearest_23 0 rfl ?_
  refine j_bipush (v := 7) C dX2_nearest_25 (by decide) ?_
  refine j_imul (v := 28) C dX2_nearest_27 (by decide) ?_
  refine j_iload_n C dX2_nearest_28 rfl 7 rfl ?_
  refine j_iadd (v := nI (28 + wt)) C dX2_nearest_29 (nI_add 28 wt) ?_
  refine j_istore (lv' := [(7, .int (nI (28 + wt))), (6, .int 4), (5, .int 0), (4, .int 0), (3, .int (aI S (ad 19) wt)), (0, .ref (ad 15)), (1, .int 65536), (2, .int (nI wt))]) C dX2_nearest_30 (by rw [hn9]; decide) rfl ?_
  show J _ _ _ _ _ 32 _
  refine j_iload_n C dX2_nearest_32 rfl 6 rfl ?_
  refine j_iload C dX2_nearest_33 1 rfl ?_
  refine j_ishr (v := 4096) C dX2_nearest_35 (by decide) ?_
  refine j_iconst (v := 1) C dX2_nearest_36 (by decide) ?_
  refine j_iand (v := 0) C dX2_nearest_37 (by decide) ?_
  refine j_if_eq (tgt := 111) C dX2_nearest_38 (by decide) (fun c9 => ?_) (fun c9 => absurd (by decide) c9)
  refine j_iinc (q := 1) (v := 5) (lv' := [(6, .int 5), (7, .int (nI (28 + wt))), (5, .int 0), (4, .int 0), (3, .int (aI S (ad 19) wt)), (0, .ref (ad 15)), (1, .int 65536), (2, .int (nI wt))]) C dX2_nearest_111 rfl (by decide) (by rw [hn9]; decide) rfl ?_
  refine j_goto (tgt := 16) C dX2_nearest_114 (by decide) ?_
  show J _ _ _ _ _ 16 _
  refine j_iload C dX2_nearest_16 0 rfl ?_
  refine j_bipush (v := 16) C dX2_nearest_18 (by decide) ?_
  refine j_ic_gt (tgt := 117) C dX2_nearest_20 (by decide) (fun c9 => absurd c9 (by decide)) (fun c9 => ?_)
  refine j_iload C dX2_nearest_23 0 rfl ?_
  refine j_bipush (v := 7) C dX2_nearest_25 (by decide) ?_
  refine j_imul (v := 35) C dX2_nearest_27 (by decide) ?_
  refine j_iload_n C dX2_nearest_28 rfl 7 rfl ?_
  refine j_iadd (v := nI (35 + wt)) C dX2_nearest_29 (nI_add 35 wt) ?_
  show J _ _ _ _ _ 30 _
  refine j_istore (lv' := [(7, .int (nI (35 + wt))), (6, .int 5), (5, .int 0), (4, .int 0), (3, .int (aI S (ad 19) wt)), (0, .ref (ad 15)), (1, .int 65536), (2, .int (nI wt))]) C dX2_nearest_30 (by rw [hn9]; decide) rfl ?_
  refine j_iload_n C dX2_nearest_32 rfl 6 rfl ?_
  refine j_iload C dX2_nearest_33 1 rfl ?_
  refine j_ishr (v := 2048) C dX2_nearest_35 (by decide) ?_
  refine j_iconst (v := 1) C dX2_nearest_36 (by decide) ?_
  refine j_iand (v := 0) C dX2_nearest_37 (by decide) ?_
  refine j_if_eq (tgt := 111) C dX2_nearest_38 (by decide) (fun c9 => ?_) (fun c9 => absurd (by decide) c9)
  refine j_iinc (q := 1) (v := 6) (lv' := [(6, .int 6), (7, .int (nI (35 + wt))), (5, .int 0), (4, .int 0), (3, .int (aI S (ad 19) wt)), (0, .ref (ad 15)), (1, .int 65536), (2, .int (nI wt))]) C dX2_nearest_111 rfl (by decide) (by rw [hn9]; decide) rfl ?_
  show J _ _ _ _ _ 114 _
  refine j_goto (tgt := 16) C dX2_nearest_114 (by decide) ?_
  refine j_iload C dX2_nearest_16 0 rfl ?_
  refine j_bipush (v := 16) C dX2_nearest_18 (by decide) ?_
  refine j_ic_gt (tgt := 117) C dX2_nearest_20 (by decide) (fun c9 => absurd c9 (by decide)) (fun c9 => ?_)
  refine j_iload C dX2_nearest_23 0 rfl ?_
  refine j_bipush (v := 7) C dX2_nearest_25 (by decide) ?_
  refine j_imul (v := 42) C dX2_nearest_27 (by decide) ?_
  refine j_iload_n C dX2_nearest_28 rfl 7 rfl ?_
  show J _ _ _ _ _ 29 _
  refine j_iadd (v := nI (42 + wt)) C dX2_nearest_29 (nI_add 42 wt) ?_
  refine j_istore (lv' := [(7, .int (nI (42 + wt))), (6, .int 6), (5, .int 0), (4, .int 0), (3, .int (aI S (ad 19) wt)), (0, .ref (ad 15)), (1, .int 65536), (2, .int (nI wt))]) C dX2_nearest_30 (by rw [hn9]; decide) rfl ?_
  refine j_iload_n C dX2_nearest_32 rfl 6 rfl ?_
  refine j_iload C dX2_nearest_33 1 rfl ?_
  refine j_ishr (v := 1024) C dX2_nearest_35 (by decide) ?_
  refine j_iconst (v := 1) C dX2_nearest_36 (by decide) ?_
  refine j_iand (v := 0) C dX2_nearest_37 (by decide) ?_
  refine j_if_eq (tgt := 111) C dX2_nearest_38 (by decide) (fun c9 => ?_) (fun c9 => absurd (by decide) c9)
  show J _ _ _ _ _ 111 _
  refine j_iinc (q := 1) (v := 7) (lv' := [(6, .int 7), (7, .int (nI (42 + wt))), (5, .int 0), (4, .int 0), (3, .int (aI S (ad 19) wt)), (0, .ref (ad 15)), (1, .int 65536), (2, .int (nI wt))]) C dX2_nearest_111 rfl (by decide) (by rw [hn9]; decide) rfl ?_
  refine j_goto (tgt := 16) C dX2_nearest_114 (by decide) ?_
  refine j_iload C dX2_nearest_16 0 rfl ?_
  refine j_bipush (v := 16) C dX2_nearest_18 (by decide) ?_
  refine j_ic_gt (tgt := 117) C dX2_nearest_20 (by decide) (fun c9 => absurd c9 (by decide)) (fun c9 => ?_)
  refine j_iload C dX2_nearest_23 0 rfl ?_
  refine j_bipush (v := 7) C dX2_nearest_25 (by decide) ?_
  refine j_imul (v := 49) C dX2_nearest_27 (by decide) ?_
  show J _ _ _ _ _ 28 _
  refine j_iload_n C dX2_nearest_28 rfl 7 rfl ?_
  refine j_iadd (v := nI (49 + wt)) C dX2_nearest_29 (nI_add 49 wt) ?_
  refine j_istore (lv' := [(7, .int (nI (49 + wt))), (6, .int 7), (5, .int 0), (4, .int 0), (3, .int (aI S (ad 19) wt)), (0, .ref (ad 15)), (1, .int 65536), (2, .int (nI wt))]) C dX2_nearest_30 (by rw [hn9]; decide) rfl ?_
  refine j_iload_n C dX2_nearest_32 rfl 6 rfl ?_
  refine j_iload C dX2_nearest_33 1 rfl ?_
  refine j_ishr (v := 512) C dX2_nearest_35 (by decide) ?_
  refine j_iconst (v := 1) C dX2_nearest_36 (by decide) ?_
  refine j_iand (v := 0) C dX2_nearest_37 (by decide) ?_
  show J _ _ _ _ _ 38 _
  refine j_if_eq (tgt := 111) C dX2_nearest_38 (by decide) (fun c9 => ?_) (fun c9 => absurd (by decide) c9)
  refine j_iinc (q := 1) (v := 8) (lv' := [(6, .int 8), (7, .int (nI (49 + wt))), (5, .int 0), (4, .int 0), (3, .int (aI S (ad 19) wt)), (0, .ref (ad 15)), (1, .int 65536), (2, .int (nI wt))]) C dX2_nearest_111 rfl (by decide) (by rw [hn9]; decide) rfl ?_
  refine j_goto (tgt := 16) C dX2_nearest_114 (by decide) ?_
  refine j_iload C dX2_nearest_16 0 rfl ?_
  refine j_bipush (v := 16) C dX2_nearest_18 (by decide) ?_
  refine j_ic_gt (tgt := 117) C dX2_nearest_20 (by decide) (fun c9 => absurd c9 (by decide)) (fun c9 => ?_)
  refine j_iload C dX2_nearest_23 0 rfl ?_
  refine j_bipush (v := 7) C dX2_nearest_25 (by decide) ?_
  show J _ _ _ _ _ 27 _
  refine j_imul (v := 56) C dX2_nearest_27 (by decide) ?_
  refine j_iload_n C dX2_nearest_28 rfl 7 rfl ?_
  refine j_iadd (v := nI (56 + wt)) C dX2_nearest_29 (nI_add 56 wt) ?_
  refine j_istore (lv' := [(7, .int (nI (56 + wt))), (6, .int 8), (5, .int 0), (4, .int 0), (3, .int (aI S (ad 19) wt)), (0, .ref (ad 15)), (1, .int 65536), (2, .int (nI wt))]) C dX2_nearest_30 (by rw [hn9]; decide) rfl ?_
  refine j_iload_n C dX2_nearest_32 rfl 6 rfl ?_
  refine j_iload C dX2_nearest_33 1 rfl ?_
  refine j_ishr (v := 256) C dX2_nearest_35 (by decide) ?_
  refine j_iconst (v := 1) C dX2_nearest_36 (by decide) ?_
  show J _ _ _ _ _ 37 _
  refine j_iand (v := 0) C dX2_nearest_37 (by decide) ?_
  refine j_if_eq (tgt := 111) C dX2_nearest_38 (by decide) (fun c9 => ?_) (fun c9 => absurd (by decide) c9)
  refine j_iinc (q := 1) (v := 9) (lv' := [(6, .int 9), (7, .int (nI (56 + wt))), (5, .int 0), (4, .int 0), (3, .int (aI S (ad 19) wt)), (0, .ref (ad 15)), (1, .int 65536), (2, .int (nI wt))]) C dX2_nearest_111 rfl (by decide) (by rw [hn9]; decide) rfl ?_
  refine j_goto (tgt := 16) C dX2_nearest_114 (by decide) ?_
  refine j_iload C dX2_nearest_16 0 rfl ?_
  refine j_bipush (v := 16) C dX2_nearest_18 (by decide) ?_
  refine j_ic_gt (tgt := 117) C dX2_nearest_20 (by decide) (fun c9 => absurd c9 (by decide)) (fun c9 => ?_)
  refine j_iload C dX2_nearest_23 0 rfl ?_
  show J _ _ _ _ _ 25 _
  refine j_bipush (v := 7) C dX2_nearest_25 (by decide) ?_
  refine j_imul (v := 63) C dX2_nearest_27 (by decide) ?_
  refine j_iload_n C dX2_nearest_28 rfl 7 rfl ?_
  refine j_iadd (v := nI (63 + wt)) C dX2_nearest_29 (nI_add 63 wt) ?_
  refine j_istore (lv' := [(7, .int (nI (63 + wt))), (6, .int 9), (5, .int 0), (4, .int 0), (3, .int (aI S (ad 19) wt)), (0, .ref (ad 15)), (1, .int 65536), (2, .int (nI wt))]) C dX2_nearest_30 (by rw [hn9]; decide) rfl ?_
  refine j_iload_n C dX2_nearest_32 rfl 6 rfl ?_
  refine j_iload C dX2_nearest_33 1 rfl ?_
  refine j_ishr (v := 128) C dX2_nearest_35 (by decide) ?_
  show J _ _ _ _ _ 36 _
  refine j_iconst (v := 1) C dX2_nearest_36 (by decide) ?_
  refine j_iand (v := 0) C dX2_nearest_37 (by decide) ?_
  refine j_if_eq (tgt := 111) C dX2_nearest_38 (by decide) (fun c9 => ?_) (fun c9 => absurd (by decide) c9)
  refine j_iinc (q := 1) (v := 10) (lv' := [(6, .int 10), (7, .int (nI (63 + wt))), (5, .int 0), (4, .int 0), (3, .int (aI S (ad 19) wt)), (0, .ref (ad 15)), (1, .int 65536), (2, .int (nI wt))]) C dX2_nearest_111 rfl (by decide) (by rw [hn9]; decide) rfl ?_
  refine j_goto (tgt := 16) C dX2_nearest_114 (by decide) ?_
  refine j_iload C dX2_nearest_16 0 rfl ?_
  refine j_bipush (v := 16) C dX2_nearest_18 (by decide) ?_
  refine j_ic_gt (tgt := 117) C dX2_nearest_20 (by decide) (fun c9 => absurd c9 (by decide)) (fun c9 => ?_)
  show J _ _ _ _ _ 23 _
  refine j_iload C dX2_nearest_23 0 rfl ?_
  refine j_bipush (v := 7) C dX2_nearest_25 (by decide) ?_
  refine j_imul (v := 70) C dX2_nearest_27 (by decide) ?_
  refine j_iload_n C dX2_nearest_28 rfl 7 rfl ?_
  refine j_iadd (v := nI (70 + wt)) C dX2_nearest_29 (nI_add 70 wt) ?_
  refine j_istore (lv' := [(7, .int (nI (70 + wt))), (6, .int 10), (5, .int 0), (4, .int 0), (3, .int (aI S (ad 19) wt)), (0, .ref (ad 15)), (1, .int 65536), (2, .int (nI wt))]) C dX2_nearest_30 (by rw [hn9]; decide) rfl ?_
  refine j_iload_n C dX2_nearest_32 rfl 6 rfl ?_
  refine j_iload C dX2_nearest_33 1 rfl ?_
  show J _ _ _ _ _ 35 _
  refine j_ishr (v := 64) C dX2_nearest_35 (by decide) ?_
  refine j_iconst (v := 1) C dX2_nearest_36 (by decide) ?_
  refine j_iand (v := 0) C dX2_nearest_37 (by decide) ?_
  refine j_if_eq (tgt := 111) C dX2_nearest_38 (by decide) (fun c9 => ?_) (fun c9 => absurd (by decide) c9)
  refine j_iinc (q := 1) (v := 11) (lv' := [(6, .int 11), (7, .int (nI (70 + wt))), (5, .int 0), (4, .int 0), (3, .int (aI S (ad 19) wt)), (0, .ref (ad 15)), (1, .int 65536), (2, .int (nI wt))]) C dX2_nearest_111 rfl (by decide) (by rw [hn9]; decide) rfl ?_
  refine j_goto (tgt := 16) C dX2_nearest_114 (by decide) ?_
  refine j_iload C dX2_nearest_16 0 rfl ?_
  refine j_bipush (v := 16) C dX2_nearest_18 (by decide) ?_
  show J _ _ _ _ _ 20 _
  refine j_ic_gt (tgt := 117) C dX2_nearest_20 (by decide) (fun c9 => absurd c9 (by decide)) (fun c9 => ?_)
  refine j_iload C dX2_nearest_23 0 rfl ?_
  refine j_bipush (v := 7) C dX2_nearest_25 (by decide) ?_
  refine j_imul (v := 77) C dX2_nearest_27 (by decide) ?_
  refine j_iload_n C dX2_nearest_28 rfl 7 rfl ?_
  refine j_iadd (v := nI (77 + wt)) C dX2_nearest_29 (nI_add 77 wt) ?_
  refine j_istore (lv' := [(7, .int (nI (77 + wt))), (6, .int 11), (5, .int 0), (4, .int 0), (3, .int (aI S (ad 19) wt)), (0, .ref (ad 15)), (1, .int 65536), (2, .int (nI wt))]) C dX2_nearest_30 (by rw [hn9]; decide) rfl ?_
  refine j_iload_n C dX2_nearest_32 rfl 6 rfl ?_
  show J _ _ _ _ _ 33 _
  refine j_iload C dX2_nearest_33 1 rfl ?_
  refine j_ishr (v := 32) C dX2_nearest_35 (by decide) ?_
  refine j_iconst (v := 1) C dX2_nearest_36 (by decide) ?_
  refine j_iand (v := 0) C dX2_nearest_37 (by decide) ?_
  refine j_if_eq (tgt := 111) C dX2_nearest_38 (by decide) (fun c9 => ?_) (fun c9 => absurd (by decide) c9)
  refine j_iinc (q := 1) (v := 12) (lv' := [(6, .int 12), (7, .int (nI (77 + wt))), (5, .int 0), (4, .int 0), (3, .int (aI S (ad 19) wt)), (0, .ref (ad 15)), (1, .int 65536), (2, .int (nI wt))]) C dX2_nearest_111 rfl (by decide) (by rw [hn9]; decide) rfl ?_
  refine j_goto (tgt := 16) C dX2_nearest_114 (by decide) ?_
  refine j_iload C dX2_nearest_16 0 rfl ?_
  show J _ _ _ _ _ 18 _
  refine j_bipush (v := 16) C dX2_nearest_18 (by decide) ?_
  refine j_ic_gt (tgt := 117) C dX2_nearest_20 (by decide) (fun c9 => absurd c9 (by decide)) (fun c9 => ?_)
  refine j_iload C dX2_nearest_23 0 rfl ?_
  refine j_bipush (v := 7) C dX2_nearest_25 (by decide) ?_
  refine j_imul (v := 84) C dX2_nearest_27 (by decide) ?_
  refine j_iload_n C dX2_nearest_28 rfl 7 rfl ?_
  refine j_iadd (v := nI (84 + wt)) C dX2_nearest_29 (nI_add 84 wt) ?_
  refine j_istore (lv' := [(7, .int (nI (84 + wt))), (6, .int 12), (5, .int 0), (4, .int 0), (3, .int (aI S (ad 19) wt)), (0, .ref (ad 15)), (1, .int 65536), (2, .int (nI wt))]) C dX2_nearest_30 (by rw [hn9]; decide) rfl ?_
  show J _ _ _ _ _ 32 _
  refine j_iload_n C dX2_nearest_32 rfl 6 rfl ?_
  refine j_iload C dX2_nearest_33 1 rfl ?_
  refine j_ishr (v := 16) C dX2_nearest_35 (by decide) ?_
  refine j_iconst (v := 1) C dX2_nearest_36 (by decide) ?_
  refine j_iand (v := 0) C dX2_nearest_37 (by decide) ?_
  refine j_if_eq (tgt := 111) C dX2_nearest_38 (by decide) (fun c9 => ?_) (fun c9 => absurd (by decide) c9)
  refine j_iinc (q := 1) (v := 13) (lv' := [(6, .int 13), (7, .int (nI (84 + wt))), (5, .int 0), (4, .int 0), (3, .int (aI S (ad 19) wt)), (0, .ref (ad 15)), (1, .int 65536), (2, .int (nI wt))]) C dX2_nearest_111 rfl (by decide) (by rw [hn9]; decide) rfl ?_
  refine j_goto (tgt := 16) C dX2_nearest_114 (by decide) ?_
  show J _ _ _ _ _ 16 _
  refine j_iload C dX2_nearest_16 0 rfl ?_
  refine j_bipush (v := 16) C dX2_nearest_18 (by decide) ?_
  refine j_ic_gt (tgt := 117) C dX2_nearest_20 (by decide) (fun c9 => absurd c9 (by decide)) (fun c9 => ?_)
  refine j_iload C dX2_nearest_23 0 rfl ?_
  refine j_bipush (v := 7) C dX2_nearest_25 (by decide) ?_
  refine j_imul (v := 91) C dX2_nearest_27 (by decide) ?_
  refine j_iload_n C dX2_nearest_28 rfl 7 rfl ?_
  refine j_iadd (v := nI (91 + wt)) C dX2_nearest_29 (nI_add 91 wt) ?_
  show J _ _ _ _ _ 30 _
  refine j_istore (lv' := [(7, .int (nI (91 + wt))), (6, .int 13), (5, .int 0), (4, .int 0), (3, .int (aI S (ad 19) wt)), (0, .ref (ad 15)), (1, .int 65536), (2, .int (nI wt))]) C dX2_nearest_30 (by rw [hn9]; decide) rfl ?_
  refine j_iload_n C dX2_nearest_32 rfl 6 rfl ?_
  refine j_iload C dX2_nearest_33 1 rfl ?_
  refine j_ishr (v := 8) C dX2_nearest_35 (by decide) ?_
  refine j_iconst (v := 1) C dX2_nearest_36 (by decide) ?_
  refine j_iand (v := 0) C dX2_nearest_37 (by decide) ?_
  refine j_if_eq (tgt := 111) C dX2_nearest_38 (by decide) (fun c9 => ?_) (fun c9 => absurd (by decide) c9)
  refine j_iinc (q := 1) (v := 14) (lv' := [(6, .int 14), (7, .int (nI (91 + wt))), (5, .int 0), (4, .int 0), (3, .int (aI S (ad 19) wt)), (0, .ref (ad 15)), (1, .int 65536), (2, .int (nI wt))]) C dX2_nearest_111 rfl (by decide) (by rw [hn9]; decide) rfl ?_
  show J _ _ _ _ _ 114 _
  refine j_goto (tgt := 16) C dX2_nearest_114 (by decide) ?_
  refine j_iload C dX2_nearest_16 0 rfl ?_
  refine j_bipush (v := 16) C dX2_nearest_18 (by decide) ?_
  refine j_ic_gt (tgt := 117) C dX2_nearest_20 (by decide) (fun c9 => absurd c9 (by decide)) (fun c9 => ?_)
  refine j_iload C dX2_nearest_23 0 rfl ?_
  refine j_bipush (v := 7) C dX2_nearest_25 (by decide) ?_
  refine j_imul (v := 98) C dX2_nearest_27 (by decide) ?_
  refine j_iload_n C dX2_nearest_28 rfl 7 rfl ?_
  show J _ _ _ _ _ 29 _
  refine j_iadd (v := nI (98 + wt)) C dX2_nearest_29 (nI_add 98 wt) ?_
  refine j_istore (lv' := [(7, .int (nI (98 + wt))), (6, .int 14), (5, .int 0), (4, .int 0), (3, .int (aI S (ad 19) wt)), (0, .ref (ad 15)), (1, .int 65536), (2, .int (nI wt))]) C dX2_nearest_30 (by rw [hn9]; decide) rfl ?_
  refine j_iload_n C dX2_nearest_32 rfl 6 rfl ?_
  refine j_iload C dX2_nearest_33 1 rfl ?_
  refine j_ishr (v := 4) C dX2_nearest_35 (by decide) ?_
  refine j_iconst (v := 1) C dX2_nearest_36 (by decide) ?_
  refine j_iand (v := 0) C dX2_nearest_37 (by decide) ?_
  refine j_if_eq (tgt := 111) C dX2_nearest_38 (by decide) (fun c9 => ?_) (fun c9 => absurd (by decide) c9)
  show J _ _ _ _ _ 111 _
  refine j_iinc (q := 1) (v := 15) (lv' := [(6, .int 15), (7, .int (nI (98 + wt))), (5, .int 0), (4, .int 0), (3, .int (aI S (ad 19) wt)), (0, .ref (ad 15)), (1, .int 65536), (2, .int (nI wt))]) C dX2_nearest_111 rfl (by decide) (by rw [hn9]; decide) rfl ?_
  refine j_goto (tgt := 16) C dX2_nearest_114 (by decide) ?_
  refine j_iload C dX2_nearest_16 0 rfl ?_
  refine j_bipush (v := 16) C dX2_nearest_18 (by decide) ?_
  refine j_ic_gt (tgt := 117) C dX2_nearest_20 (by decide) (fun c9 => absurd c9 (by decide)) (fun c9 => ?_)
  refine j_iload C dX2_nearest_23 0 rfl ?_
  refine j_bipush (v := 7) C dX2_nearest_25 (by decide) ?_
  refine j_imul (v := 105) C dX2_nearest_27 (by decide) ?_
  show J _ _ _ _ _ 28 _
  refine j_iload_n C dX2_nearest_28 rfl 7 rfl ?_
  refine j_iadd (v := nI (105 + wt)) C dX2_nearest_29 (nI_add 105 wt) ?_
  refine j_istore (lv' := [(7, .int (nI (105 + wt))), (6, .int 15), (5, .int 0), (4, .int 0), (3, .int (aI S (ad 19) wt)), (0, .ref (ad 15)), (1, .int 65536), (2, .int (nI wt))]) C dX2_nearest_30 (by rw [hn9]; decide) rfl ?_
  refine j_iload_n C dX2_nearest_32 rfl 6 rfl ?_
  refine j_iload C dX2_nearest_33 1 rfl ?_
  refine j_ishr (v := 2) C dX2_nearest_35 (by decide) ?_
  refine j_iconst (v := 1) C dX2_nearest_36 (by decide) ?_
  refine j_iand (v := 0) C dX2_nearest_37 (by decide) ?_
  show J _ _ _ _ _ 38 _
  refine j_if_eq (tgt := 111) C dX2_nearest_38 (by decide) (fun c9 => ?_) (fun c9 => absurd (by decide) c9)
  refine j_iinc (q := 1) (v := 16) (lv' := [(6, .int 16), (7, .int (nI (105 + wt))), (5, .int 0), (4, .int 0), (3, .int (aI S (ad 19) wt)), (0, .ref (ad 15)), (1, .int 65536), (2, .int (nI wt))]) C dX2_nearest_111 rfl (by decide) (by rw [hn9]; decide) rfl ?_
  refine j_goto (tgt := 16) C dX2_nearest_114 (by decide) ?_
  refine j_iload C dX2_nearest_16 0 rfl ?_
  refine j_bipush (v := 16) C dX2_nearest_18 (by decide) ?_
  refine j_ic_gt (tgt := 117) C dX2_nearest_20 (by decide) (fun c9 => absurd c9 (by decide)) (fun c9 => ?_)
  refine j_iload C dX2_nearest_23 0 rfl ?_
  refine j_bipush (v := 7) C dX2_nearest_25 (by decide) ?_
  show J _ _ _ _ _ 27 _
  refine j_imul (v := 112) C dX2_nearest_27 (by decide) ?_
  refine j_iload_n C dX2_nearest_28 rfl 7 rfl ?_
  refine j_iadd (v := nI (112 + wt)) C dX2_nearest_29 (nI_add 112 wt) ?_
  refine j_istore (lv' := [(7, .int (nI (112 + wt))), (6, .int 16), (5, .int 0), (4, .int 0), (3, .int (aI S (ad 19) wt)), (0, .ref (ad 15)), (1, .int 65536), (2, .int (nI wt))]) C dX2_nearest_30 (by rw [hn9]; decide) rfl ?_
  refine j_iload_n C dX2_nearest_32 rfl 6 rfl ?_
  refine j_iload C dX2_nearest_33 1 rfl ?_
  refine j_ishr (v := 1) C dX2_nearest_35 (by decide) ?_
  refine j_iconst (v := 1) C dX2_nearest_36 (by decide) ?_
  show J _ _ _ _ _ 37 _
  refine j_iand (v := 1) C dX2_nearest_37 (by decide) ?_
  refine j_if_eq (tgt := 111) C dX2_nearest_38 (by decide) (fun c9 => absurd c9 (by decide)) (fun c9 => ?_)
  refine j_iload C dX2_nearest_41 0 rfl ?_
  refine j_if_lt (tgt := 111) C dX2_nearest_43 (by decide) (fun c_43 => absurd c_43 (nI_pos (by omega))) (fun c_43 => ?_)
  refine j_iload C dX2_nearest_46 0 rfl ?_
  refine j_aload_n C dX2_nearest_48 rfl 5 rfl ?_
  refine j_getr (f := 201) (v := (ad 18)) C flX2_18 dX2_nearest_49 (wm_15 (S := S) hW) (wk_15 (S := S) hW) (by decide) rfl (wr_201_15 (S := S) hW) ?_
  refine j_alen (v := 119) C dX2_nearest_52 (wm_18 (S := S) hW) (wk_18 (S := S) hW) (by decide) (by decide) (len_of (n := 119) (wl_18 (S := S) hW) (by decide)) ?_
  show J _ _ _ _ _ 53 _
  refine j_ic_ge (tgt := 111) C dX2_nearest_53 (by decide) (fun c_53 => absurd c_53 (nI_ge (b := 119) (by omega) (by decide))) (fun c_53 => ?_)
  refine j_aload_n C dX2_nearest_56 rfl 5 rfl ?_
  refine j_getr (f := 201) (v := (ad 18)) C flX2_18 dX2_nearest_57 (wm_15 (S := S) hW) (wk_15 (S := S) hW) (by decide) rfl (wr_201_15 (S := S) hW) ?_
  refine j_iload C dX2_nearest_60 0 rfl ?_
  refine j_iald (j := (112 + wt)) (v := aI S (ad 18) (112 + wt)) C dX2_nearest_62 (wm_18 (S := S) hW) (wk_18 (S := S) hW) (inr_of (n := 119) (wl_18 (S := S) hW) (vp_in_nI (by omega) (by omega))) (nI_clamp (by omega)) rfl ?_
  refine j_istore (lv' := [(8, .int (aI S (ad 18) (112 + wt))), (7, .int (nI (112 + wt))), (6, .int 16), (5, .int 0), (4, .int 0), (3, .int (aI S (ad 19) wt)), (0, .ref (ad 15)), (1, .int 65536), (2, .int (nI wt))]) C dX2_nearest_63 (by rw [hn9]; decide) rfl ?_
  refine j_iload C dX2_nearest_65 4 rfl ?_
  refine j_iload_n C dX2_nearest_67 rfl 5 rfl ?_
  show J _ _ _ _ _ 68 _
  refine j_isub C dX2_nearest_68 rfl ?_
  refine j_callS C [.int ((0 : Int32) - (aI S (ad 19) wt))] [] mlX2_124 mcJ9_abs_0f7a4 (c_J9_abs_0f7a4 S ((0 : Int32) - (aI S (ad 19) wt))) (M.rm (by decide) (by decide) (Nat.le_of_ble_eq_true rfl) (Nat.le_of_ble_eq_true rfl)) rfl rfl (Nat.le_of_ble_eq_true rfl) dX2_nearest_69 (fun r_1 S_2 hp_3 => ?_)
  obtain ⟨rfl, e_4⟩ := hp_3
  refine J.eq (S' := S) (st' := [.int (if ((0 : Int32) - (aI S (ad 19) wt)) < 0 then -((0 : Int32) - (aI S (ad 19) wt)) else ((0 : Int32) - (aI S (ad 19) wt)))]) (lv' := [(8, .int (aI S (ad 18) (112 + wt))), (7, .int (nI (112 + wt))), (6, .int 16), (5, .int 0), (4, .int 0), (3, .int (aI S (ad 19) wt)), (0, .ref (ad 15)), (1, .int 65536), (2, .int (nI wt))]) e_4 rfl rfl ?_
  refine j_iload C dX2_nearest_72 0 rfl ?_
  refine j_iload_n C dX2_nearest_74 rfl 5 rfl ?_
  refine j_isub C dX2_nearest_75 rfl ?_
  refine j_callS C [.int ((aI S (ad 18) (112 + wt)) - (aI S (ad 19) wt))] [.int (if ((0 : Int32) - (aI S (ad 19) wt)) < 0 then -((0 : Int32) - (aI S (ad 19) wt)) else ((0 : Int32) - (aI S (ad 19) wt)))] mlX2_124 mcJ9_abs_0f7a4 (c_J9_abs_0f7a4 S ((aI S (ad 18) (112 + wt)) - (aI S (ad 19) wt))) (M.rm (by decide) (by decide) (Nat.le_of_ble_eq_true rfl) (Nat.le_of_ble_eq_true rfl)) rfl rfl (Nat.le_of_ble_eq_true rfl) dX2_nearest_76 (fun r_5 S_6 hp_7 => ?_)
  obtain ⟨rfl, e_8⟩ := hp_7
  refine J.eq (S' := S) (st' := [.int (if ((aI S (ad 18) (112 + wt)) - (aI S (ad 19) wt)) < 0 then -((aI S (ad 18) (112 + wt)) - (aI S (ad 19) wt)) else ((aI S (ad 18) (112 + wt)) - (aI S (ad 19) wt))), .int (if ((0 : Int32) - (aI S (ad 19) wt)) < 0 then -((0 : Int32) - (aI S (ad 19) wt)) else ((0 : Int32) - (aI S (ad 19) wt)))]) (lv' := [(8, .int (aI S (ad 18) (112 + wt))), (7, .int (nI (112 + wt))), (6, .int 16), (5, .int 0), (4, .int 0), (3, .int (aI S (ad 19) wt)), (0, .ref (ad 15)), (1, .int 65536), (2, .int (nI wt))]) e_8 rfl rfl ?_
  refine j_isub C dX2_nearest_79 rfl ?_
  refine j_istore (lv' := [(9, .int ((if ((0 : Int32) - (aI S (ad 19) wt)) < 0 then -((0 : Int32) - (aI S (ad 19) wt)) else ((0 : Int32) - (aI S (ad 19) wt))) - (if ((aI S (ad 18) (112 + wt)) - (aI S (ad 19) wt)) < 0 then -((aI S (ad 18) (112 + wt)) - (aI S (ad 19) wt)) else ((aI S (ad 18) (112 + wt)) - (aI S (ad 19) wt))))), (8, .int (aI S (ad 18) (112 + wt))), (7, .int (nI (112 + wt))), (6, .int 16), (5, .int 0), (4, .int 0), (3, .int (aI S (ad 19) wt)), (0, .ref (ad 15)), (1, .int 65536), (2, .int (nI wt))]) C dX2_nearest_80 (by rw [hn9]; decide) rfl ?_
  show J _ _ _ _ _ 82 _
  refine j_iload C dX2_nearest_82 4 rfl ?_
  refine j_if_eq (tgt := 104) C dX2_nearest_84 (by decide) (fun c9 => ?_) (fun c9 => absurd (by decide) c9)
  refine j_iload C dX2_nearest_104 1 rfl ?_
  refine j_istore (lv' := [(4, .int (aI S (ad 18) (112 + wt))), (9, .int ((if ((0 : Int32) - (aI S (ad 19) wt)) < 0 then -((0 : Int32) - (aI S (ad 19) wt)) else ((0 : Int32) - (aI S (ad 19) wt))) - (if ((aI S (ad 18) (112 + wt)) - (aI S (ad 19) wt)) < 0 then -((aI S (ad 18) (112 + wt)) - (aI S (ad 19) wt)) else ((aI S (ad 18) (112 + wt)) - (aI S (ad 19) wt))))), (8, .int (aI S (ad 18) (112 + wt))), (7, .int (nI (112 + wt))), (6, .int 16), (5, .int 0), (3, .int (aI S (ad 19) wt)), (0, .ref (ad 15)), (1, .int 65536), (2, .int (nI wt))]) C dX2_nearest_106 (by rw [hn9]; decide) rfl ?_
  refine j_iconst (v := 1) C dX2_nearest_108 (by decide) ?_
  refine j_istore (lv' := [(5, .int 1), (4, .int (aI S (ad 18) (112 + wt))), (9, .int ((if ((0 : Int32) - (aI S (ad 19) wt)) < 0 then -((0 : Int32) - (aI S (ad 19) wt)) else ((0 : Int32) - (aI S (ad 19) wt))) - (if ((aI S (ad 18) (112 + wt)) - (aI S (ad 19) wt)) < 0 then -((aI S (ad 18) (112 + wt)) - (aI S (ad 19) wt)) else ((aI S (ad 18) (112 + wt)) - (aI S (ad 19) wt))))), (8, .int (aI S (ad 18) (112 + wt))), (7, .int (nI (112 + wt))), (6, .int 16), (3, .int (aI S (ad 19) wt)), (0, .ref (ad 15)), (1, .int 65536), (2, .int (nI wt))]) C dX2_nearest_109 (by rw [hn9]; decide) rfl ?_
  refine j_iinc (q := 5) (v := 17) (lv' := [(6, .int 17), (5, .int 1), (4, .int (aI S (ad 18) (112 + wt))), (9, .int ((if ((0 : Int32) - (aI S (ad 19) wt)) < 0 then -((0 : Int32) - (aI S (ad 19) wt)) else ((0 : Int32) - (aI S (ad 19) wt))) - (if ((aI S (ad 18) (112 + wt)) - (aI S (ad 19) wt)) < 0 then -((aI S (ad 18) (112 + wt)) - (aI S (ad 19) wt)) else ((aI S (ad 18) (112 + wt)) - (aI S (ad 19) wt))))), (8, .int (aI S (ad 18) (112 + wt))), (7, .int (nI (112 + wt))), (3, .int (aI S (ad 19) wt)), (0, .ref (ad 15)), (1, .int 65536), (2, .int (nI wt))]) C dX2_nearest_111 rfl (by decide) (by rw [hn9]; decide) rfl ?_
  refine j_goto (tgt := 16) C dX2_nearest_114 (by decide) ?_
  show J _ _ _ _ _ 16 _
  refine j_iload C dX2_nearest_16 0 rfl ?_
  refine j_bipush (v := 16) C dX2_nearest_18 (by decide) ?_
  refine j_ic_gt (tgt := 117) C dX2_nearest_20 (by decide) (fun c9 => ?_) (fun c9 => absurd (by decide) c9)
  refine j_iload C dX2_nearest_117 2 rfl ?_
  exact j_iret C M dX2_nearest_119 (Nat.le_of_ble_eq_true rfl) (Nat.le_of_ble_eq_true rfl) ⟨rfl, rfl⟩

theorem dX2_choose_0 : decode cX2_choose 0 = .ok (.ldc 113, 2) := by decide +kernel
theorem dX2_choose_2 : decode cX2_choose 2 = .ok (.istore_n 1, 1) := by decide +kernel
theorem dX2_choose_3 : decode cX2_choose 3 = .ok (.iconst 0, 1) := by decide +kernel
theorem dX2_choose_4 : decode cX2_choose 4 = .ok (.istore_n 2, 1) := by decide +kernel
theorem dX2_choose_5 : decode cX2_choose 5 = .ok (.iload_n 2, 1) := by decide +kernel
theorem dX2_choose_6 : decode cX2_choose 6 = .ok (.bipush 16, 2) := by decide +kernel
theorem dX2_choose_8 : decode cX2_choose 8 = .ok (.if_icmp .ge 30, 3) := by decide +kernel
theorem dX2_choose_11 : decode cX2_choose 11 = .ok (.iload_n 1, 1) := by decide +kernel
theorem dX2_choose_12 : decode cX2_choose 12 = .ok (.aload_n 0, 1) := by decide +kernel
theorem dX2_choose_13 : decode cX2_choose 13 = .ok (.getfield 14, 3) := by decide +kernel
theorem dX2_choose_16 : decode cX2_choose 16 = .ok (.iload_n 2, 1) := by decide +kernel
theorem dX2_choose_17 : decode cX2_choose 17 = .ok (.invokevirtual 58, 3) := by decide +kernel
theorem dX2_choose_20 : decode cX2_choose 20 = .ok (.ifCond .eq 9, 3) := by decide +kernel
theorem dX2_choose_23 : decode cX2_choose 23 = .ok (.iconst 1, 1) := by decide +kernel
theorem dX2_choose_24 : decode cX2_choose 24 = .ok (.iload_n 2, 1) := by decide +kernel
theorem dX2_choose_25 : decode cX2_choose 25 = .ok (.ishl, 1) := by decide +kernel
theorem dX2_choose_26 : decode cX2_choose 26 = .ok (.goto 4, 3) := by decide +kernel
theorem dX2_choose_29 : decode cX2_choose 29 = .ok (.iconst 0, 1) := by decide +kernel
theorem dX2_choose_30 : decode cX2_choose 30 = .ok (.ior, 1) := by decide +kernel
theorem dX2_choose_31 : decode cX2_choose 31 = .ok (.istore_n 1, 1) := by decide +kernel
theorem dX2_choose_32 : decode cX2_choose 32 = .ok (.iinc 2 1, 3) := by decide +kernel
theorem dX2_choose_35 : decode cX2_choose 35 = .ok (.goto (-30), 3) := by decide +kernel
theorem dX2_choose_38 : decode cX2_choose 38 = .ok (.aload_n 0, 1) := by decide +kernel
theorem dX2_choose_39 : decode cX2_choose 39 = .ok (.iload_n 1, 1) := by decide +kernel
theorem dX2_choose_40 : decode cX2_choose 40 = .ok (.iconst 0, 1) := by decide +kernel
theorem dX2_choose_41 : decode cX2_choose 41 = .ok (.aload_n 0, 1) := by decide +kernel
theorem dX2_choose_42 : decode cX2_choose 42 = .ok (.getfield 35, 3) := by decide +kernel
theorem dX2_choose_45 : decode cX2_choose 45 = .ok (.iconst 0, 1) := by decide +kernel
theorem dX2_choose_46 : decode cX2_choose 46 = .ok (.iaload, 1) := by decide +kernel
theorem dX2_choose_47 : decode cX2_choose 47 = .ok (.invokevirtual 114, 3) := by decide +kernel
theorem dX2_choose_50 : decode cX2_choose 50 = .ok (.istore_n 1, 1) := by decide +kernel
theorem dX2_choose_51 : decode cX2_choose 51 = .ok (.aload_n 0, 1) := by decide +kernel
theorem dX2_choose_52 : decode cX2_choose 52 = .ok (.iload_n 1, 1) := by decide +kernel
theorem dX2_choose_53 : decode cX2_choose 53 = .ok (.iconst 1, 1) := by decide +kernel
theorem dX2_choose_54 : decode cX2_choose 54 = .ok (.aload_n 0, 1) := by decide +kernel
theorem dX2_choose_55 : decode cX2_choose 55 = .ok (.getfield 35, 3) := by decide +kernel
theorem dX2_choose_58 : decode cX2_choose 58 = .ok (.iconst 1, 1) := by decide +kernel
theorem dX2_choose_59 : decode cX2_choose 59 = .ok (.iaload, 1) := by decide +kernel
theorem dX2_choose_60 : decode cX2_choose 60 = .ok (.invokevirtual 114, 3) := by decide +kernel
theorem dX2_choose_63 : decode cX2_choose 63 = .ok (.istore_n 1, 1) := by decide +kernel
theorem dX2_choose_64 : decode cX2_choose 64 = .ok (.aload_n 0, 1) := by decide +kernel
theorem dX2_choose_65 : decode cX2_choose 65 = .ok (.getfield 35, 3) := by decide +kernel
theorem dX2_choose_68 : decode cX2_choose 68 = .ok (.iconst 1, 1) := by decide +kernel
theorem dX2_choose_69 : decode cX2_choose 69 = .ok (.iaload, 1) := by decide +kernel
theorem dX2_choose_70 : decode cX2_choose 70 = .ok (.ifCond .ne 16, 3) := by decide +kernel
theorem dX2_choose_73 : decode cX2_choose 73 = .ok (.aload_n 0, 1) := by decide +kernel
theorem dX2_choose_74 : decode cX2_choose 74 = .ok (.iload_n 1, 1) := by decide +kernel
theorem dX2_choose_75 : decode cX2_choose 75 = .ok (.iconst 2, 1) := by decide +kernel
theorem dX2_choose_76 : decode cX2_choose 76 = .ok (.aload_n 0, 1) := by decide +kernel
theorem dX2_choose_77 : decode cX2_choose 77 = .ok (.iload_n 1, 1) := by decide +kernel
theorem dX2_choose_78 : decode cX2_choose 78 = .ok (.iconst 2, 1) := by decide +kernel
theorem dX2_choose_79 : decode cX2_choose 79 = .ok (.invokevirtual 118, 3) := by decide +kernel
theorem dX2_choose_82 : decode cX2_choose 82 = .ok (.invokevirtual 114, 3) := by decide +kernel
theorem dX2_choose_85 : decode cX2_choose 85 = .ok (.istore_n 1, 1) := by decide +kernel
theorem dX2_choose_86 : decode cX2_choose 86 = .ok (.aload_n 0, 1) := by decide +kernel
theorem dX2_choose_87 : decode cX2_choose 87 = .ok (.iload_n 1, 1) := by decide +kernel
theorem dX2_choose_88 : decode cX2_choose 88 = .ok (.iconst 3, 1) := by decide +kernel
theorem dX2_choose_89 : decode cX2_choose 89 = .ok (.aload_n 0, 1) := by decide +kernel
theorem dX2_choose_90 : decode cX2_choose 90 = .ok (.iload_n 1, 1) := by decide +kernel
theorem dX2_choose_91 : decode cX2_choose 91 = .ok (.iconst 3, 1) := by decide +kernel
theorem dX2_choose_92 : decode cX2_choose 92 = .ok (.invokevirtual 118, 3) := by decide +kernel
theorem dX2_choose_95 : decode cX2_choose 95 = .ok (.invokevirtual 114, 3) := by decide +kernel
theorem dX2_choose_98 : decode cX2_choose 98 = .ok (.istore_n 1, 1) := by decide +kernel
theorem dX2_choose_99 : decode cX2_choose 99 = .ok (.aload_n 0, 1) := by decide +kernel
theorem dX2_choose_100 : decode cX2_choose 100 = .ok (.iload_n 1, 1) := by decide +kernel
theorem dX2_choose_101 : decode cX2_choose 101 = .ok (.iconst 4, 1) := by decide +kernel
theorem dX2_choose_102 : decode cX2_choose 102 = .ok (.aload_n 0, 1) := by decide +kernel
theorem dX2_choose_103 : decode cX2_choose 103 = .ok (.getfield 35, 3) := by decide +kernel
theorem dX2_choose_106 : decode cX2_choose 106 = .ok (.iconst 4, 1) := by decide +kernel
theorem dX2_choose_107 : decode cX2_choose 107 = .ok (.iaload, 1) := by decide +kernel
theorem dX2_choose_108 : decode cX2_choose 108 = .ok (.invokevirtual 114, 3) := by decide +kernel
theorem dX2_choose_111 : decode cX2_choose 111 = .ok (.istore_n 1, 1) := by decide +kernel
theorem dX2_choose_112 : decode cX2_choose 112 = .ok (.aload_n 0, 1) := by decide +kernel
theorem dX2_choose_113 : decode cX2_choose 113 = .ok (.iload_n 1, 1) := by decide +kernel
theorem dX2_choose_114 : decode cX2_choose 114 = .ok (.iconst 5, 1) := by decide +kernel
theorem dX2_choose_115 : decode cX2_choose 115 = .ok (.aload_n 0, 1) := by decide +kernel
theorem dX2_choose_116 : decode cX2_choose 116 = .ok (.iload_n 1, 1) := by decide +kernel
theorem dX2_choose_117 : decode cX2_choose 117 = .ok (.iconst 5, 1) := by decide +kernel
theorem dX2_choose_118 : decode cX2_choose 118 = .ok (.invokevirtual 118, 3) := by decide +kernel
theorem dX2_choose_121 : decode cX2_choose 121 = .ok (.invokevirtual 114, 3) := by decide +kernel
theorem dX2_choose_124 : decode cX2_choose 124 = .ok (.istore_n 1, 1) := by decide +kernel
theorem dX2_choose_125 : decode cX2_choose 125 = .ok (.aload_n 0, 1) := by decide +kernel
theorem dX2_choose_126 : decode cX2_choose 126 = .ok (.iload_n 1, 1) := by decide +kernel
theorem dX2_choose_127 : decode cX2_choose 127 = .ok (.bipush 6, 2) := by decide +kernel
theorem dX2_choose_129 : decode cX2_choose 129 = .ok (.aload_n 0, 1) := by decide +kernel
theorem dX2_choose_130 : decode cX2_choose 130 = .ok (.getfield 35, 3) := by decide +kernel
theorem dX2_choose_133 : decode cX2_choose 133 = .ok (.bipush 6, 2) := by decide +kernel
theorem dX2_choose_135 : decode cX2_choose 135 = .ok (.iaload, 1) := by decide +kernel
theorem dX2_choose_136 : decode cX2_choose 136 = .ok (.invokevirtual 114, 3) := by decide +kernel
theorem dX2_choose_139 : decode cX2_choose 139 = .ok (.istore_n 1, 1) := by decide +kernel
theorem dX2_choose_140 : decode cX2_choose 140 = .ok (.bipush 31, 2) := by decide +kernel
theorem dX2_choose_142 : decode cX2_choose 142 = .ok (.iload_n 1, 1) := by decide +kernel
theorem dX2_choose_143 : decode cX2_choose 143 = .ok (.iload_n 1, 1) := by decide +kernel
theorem dX2_choose_144 : decode cX2_choose 144 = .ok (.ineg, 1) := by decide +kernel
theorem dX2_choose_145 : decode cX2_choose 145 = .ok (.iand, 1) := by decide +kernel
theorem dX2_choose_146 : decode cX2_choose 146 = .ok (.invokestatic 121, 3) := by decide +kernel
theorem dX2_choose_149 : decode cX2_choose 149 = .ok (.isub, 1) := by decide +kernel
theorem dX2_choose_150 : decode cX2_choose 150 = .ok (.ireturn, 1) := by decide +kernel

set_option maxRecDepth 100000 in
set_option maxHeartbeats 4000000 in
theorem c_X2_choose (S : Hp) (ad : Nat → Nat) (hW : Wd ad S) (z_ad17 : ∀ j, aI S (ad 17) j = 0) : Ct 3 yX2_choose cX2_choose 3 (some .int) 0 0 [.ref (ad 15)] S (fun r S' => r = some (.int ((31 : Int32) - (nI (lz 65536)))) ∧ S' = S) := by
  refine ct_of (by decide) (Nat.le_of_ble_eq_true rfl) fun x hn9 C M hm9 => ?_
  have C : CB x RX2 cX2_choose := C
  refine J.eq (lv' := [(0, .ref (ad 15))]) rfl rfl rfl ?_
  refine j_ldc (v := 65536) C dX2_choose_0 kcX2_113 ?_
  refine j_istore_n (lv' := [(1, .int 65536), (0, .ref (ad 15))]) C dX2_choose_2 rfl (by rw [hn9]; decide) rfl ?_
  refine j_iconst (v := 0) C dX2_choose_3 (by decide) ?_
  refine j_istore_n (lv' := [(2, .int 0), (1, .int 65536), (0, .ref (ad 15))]) C dX2_choose_4 rfl (by rw [hn9]; decide) rfl ?_
  refine j_iload_n C dX2_choose_5 rfl 0 rfl ?_
  refine j_bipush (v := 16) C dX2_choose_6 (by decide) ?_
  refine j_ic_ge (tgt := 38) C dX2_choose_8 (by decide) (fun c9 => absurd c9 (by decide)) (fun c9 => ?_)
  refine j_iload_n C dX2_choose_11 rfl 1 rfl ?_
  show J _ _ _ _ _ 12 _
  refine j_aload_n C dX2_choose_12 rfl 2 rfl ?_
  refine j_getr (f := 200) (v := (ad 16)) C flX2_14 dX2_choose_13 (wm_15 (S := S) hW) (wk_15 (S := S) hW) (by decide) rfl (wr_200_15 (S := S) hW) ?_
  refine j_iload_n C dX2_choose_16 rfl 0 rfl ?_
  refine j_callV (ci := 8) C [.int 0] [.int 65536] mlX2_58 mcX8_has (c_hasf S ad hW 0 z_ad17) (wm_16 (S := S) hW) (wk_16 (S := S) hW) rfl (M.rm (by decide) (by decide) (Nat.le_of_ble_eq_true rfl) (Nat.le_of_ble_eq_true rfl)) rfl rfl (Nat.le_of_ble_eq_true rfl) dX2_choose_17 (fun r_1 S_2 hp_3 => ?_)
  obtain ⟨rfl, e_4⟩ := hp_3
  refine J.eq (S' := S) (st' := [.int 0, .int 65536]) (lv' := [(2, .int 0), (1, .int 65536), (0, .ref (ad 15))]) e_4 rfl rfl ?_
  refine j_if_eq (tgt := 29) C dX2_choose_20 (by decide) (fun c9 => ?_) (fun c9 => absurd (by decide) c9)
  refine j_iconst (v := 0) C dX2_choose_29 (by decide) ?_
  refine j_ior (v := 65536) C dX2_choose_30 (by decide) ?_
  refine j_istore_n (lv' := [(1, .int 65536), (2, .int 0), (0, .ref (ad 15))]) C dX2_choose_31 rfl (by rw [hn9]; decide) rfl ?_
  show J _ _ _ _ _ 32 _
  refine j_iinc (q := 1) (v := 1) (lv' := [(2, .int 1), (1, .int 65536), (0, .ref (ad 15))]) C dX2_choose_32 rfl (by decide) (by rw [hn9]; decide) rfl ?_
  refine j_goto (tgt := 5) C dX2_choose_35 (by decide) ?_
  refine j_iload_n C dX2_choose_5 rfl 0 rfl ?_
  refine j_bipush (v := 16) C dX2_choose_6 (by decide) ?_
  refine j_ic_ge (tgt := 38) C dX2_choose_8 (by decide) (fun c9 => absurd c9 (by decide)) (fun c9 => ?_)
  refine j_iload_n C dX2_choose_11 rfl 1 rfl ?_
  refine j_aload_n C dX2_choose_12 rfl 2 rfl ?_
  refine j_getr (f := 200) (v := (ad 16)) C flX2_14 dX2_choose_13 (wm_15 (S := S) hW) (wk_15 (S := S) hW) (by decide) rfl (wr_200_15 (S := S) hW) ?_
  show J _ _ _ _ _ 16 _
  refine j_iload_n C dX2_choose_16 rfl 0 rfl ?_
  refine j_callV (ci := 8) C [.int 1] [.int 65536] mlX2_58 mcX8_has (c_hasf S ad hW 1 z_ad17) (wm_16 (S := S) hW) (wk_16 (S := S) hW) rfl (M.rm (by decide) (by decide) (Nat.le_of_ble_eq_true rfl) (Nat.le_of_ble_eq_true rfl)) rfl rfl (Nat.le_of_ble_eq_true rfl) dX2_choose_17 (fun r_5 S_6 hp_7 => ?_)
  obtain ⟨rfl, e_8⟩ := hp_7
  refine J.eq (S' := S) (st' := [.int 0, .int 65536]) (lv' := [(2, .int 1), (1, .int 65536), (0, .ref (ad 15))]) e_8 rfl rfl ?_
  refine j_if_eq (tgt := 29) C dX2_choose_20 (by decide) (fun c9 => ?_) (fun c9 => absurd (by decide) c9)
  refine j_iconst (v := 0) C dX2_choose_29 (by decide) ?_
  refine j_ior (v := 65536) C dX2_choose_30 (by decide) ?_
  refine j_istore_n (lv' := [(1, .int 65536), (2, .int 1), (0, .ref (ad 15))]) C dX2_choose_31 rfl (by rw [hn9]; decide) rfl ?_
  refine j_iinc (q := 1) (v := 2) (lv' := [(2, .int 2), (1, .int 65536), (0, .ref (ad 15))]) C dX2_choose_32 rfl (by decide) (by rw [hn9]; decide) rfl ?_
  refine j_goto (tgt := 5) C dX2_choose_35 (by decide) ?_
  show J _ _ _ _ _ 5 _
  refine j_iload_n C dX2_choose_5 rfl 0 rfl ?_
  refine j_bipush (v := 16) C dX2_choose_6 (by decide) ?_
  refine j_ic_ge (tgt := 38) C dX2_choose_8 (by decide) (fun c9 => absurd c9 (by decide)) (fun c9 => ?_)
  refine j_iload_n C dX2_choose_11 rfl 1 rfl ?_
  refine j_aload_n C dX2_choose_12 rfl 2 rfl ?_
  refine j_getr (f := 200) (v := (ad 16)) C flX2_14 dX2_choose_13 (wm_15 (S := S) hW) (wk_15 (S := S) hW) (by decide) rfl (wr_200_15 (S := S) hW) ?_
  refine j_iload_n C dX2_choose_16 rfl 0 rfl ?_
  refine j_callV (ci := 8) C [.int 2] [.int 65536] mlX2_58 mcX8_has (c_hasf S ad hW 2 z_ad17) (wm_16 (S := S) hW) (wk_16 (S := S) hW) rfl (M.rm (by decide) (by decide) (Nat.le_of_ble_eq_true rfl) (Nat.le_of_ble_eq_true rfl)) rfl rfl (Nat.le_of_ble_eq_true rfl) dX2_choose_17 (fun r_9 S_10 hp_11 => ?_)
  obtain ⟨rfl, e_12⟩ := hp_11
  refine J.eq (S' := S) (st' := [.int 0, .int 65536]) (lv' := [(2, .int 2), (1, .int 65536), (0, .ref (ad 15))]) e_12 rfl rfl ?_
  show J _ _ _ _ _ 20 _
  refine j_if_eq (tgt := 29) C dX2_choose_20 (by decide) (fun c9 => ?_) (fun c9 => absurd (by decide) c9)
  refine j_iconst (v := 0) C dX2_choose_29 (by decide) ?_
  refine j_ior (v := 65536) C dX2_choose_30 (by decide) ?_
  refine j_istore_n (lv' := [(1, .int 65536), (2, .int 2), (0, .ref (ad 15))]) C dX2_choose_31 rfl (by rw [hn9]; decide) rfl ?_
  refine j_iinc (q := 1) (v := 3) (lv' := [(2, .int 3), (1, .int 65536), (0, .ref (ad 15))]) C dX2_choose_32 rfl (by decide) (by rw [hn9]; decide) rfl ?_
  refine j_goto (tgt := 5) C dX2_choose_35 (by decide) ?_
  refine j_iload_n C dX2_choose_5 rfl 0 rfl ?_
  refine j_bipush (v := 16) C dX2_choose_6 (by decide) ?_
  show J _ _ _ _ _ 8 _
  refine j_ic_ge (tgt := 38) C dX2_choose_8 (by decide) (fun c9 => absurd c9 (by decide)) (fun c9 => ?_)
  refine j_iload_n C dX2_choose_11 rfl 1 rfl ?_
  refine j_aload_n C dX2_choose_12 rfl 2 rfl ?_
  refine j_getr (f := 200) (v := (ad 16)) C flX2_14 dX2_choose_13 (wm_15 (S := S) hW) (wk_15 (S := S) hW) (by decide) rfl (wr_200_15 (S := S) hW) ?_
  refine j_iload_n C dX2_choose_16 rfl 0 rfl ?_
  refine j_callV (ci := 8) C [.int 3] [.int 65536] mlX2_58 mcX8_has (c_hasf S ad hW 3 z_ad17) (wm_16 (S := S) hW) (wk_16 (S := S) hW) rfl (M.rm (by decide) (by decide) (Nat.le_of_ble_eq_true rfl) (Nat.le_of_ble_eq_true rfl)) rfl rfl (Nat.le_of_ble_eq_true rfl) dX2_choose_17 (fun r_13 S_14 hp_15 => ?_)
  obtain ⟨rfl, e_16⟩ := hp_15
  refine J.eq (S' := S) (st' := [.int 0, .int 65536]) (lv' := [(2, .int 3), (1, .int 65536), (0, .ref (ad 15))]) e_16 rfl rfl ?_
  refine j_if_eq (tgt := 29) C dX2_choose_20 (by decide) (fun c9 => ?_) (fun c9 => absurd (by decide) c9)
  refine j_iconst (v := 0) C dX2_choose_29 (by decide) ?_
  show J _ _ _ _ _ 30 _
  refine j_ior (v := 65536) C dX2_choose_30 (by decide) ?_
  refine j_istore_n (lv' := [(1, .int 65536), (2, .int 3), (0, .ref (ad 15))]) C dX2_choose_31 rfl (by rw [hn9]; decide) rfl ?_
  refine j_iinc (q := 1) (v := 4) (lv' := [(2, .int 4), (1, .int 65536), (0, .ref (ad 15))]) C dX2_choose_32 rfl (by decide) (by rw [hn9]; decide) rfl ?_
  refine j_goto (tgt := 5) C dX2_choose_35 (by decide) ?_
  refine j_iload_n C dX2_choose_5 rfl 0 rfl ?_
  refine j_bipush (v := 16) C dX2_choose_6 (by decide) ?_
  refine j_ic_ge (tgt := 38) C dX2_choose_8 (by decide) (fun c9 => absurd c9 (by decide)) (fun c9 => ?_)
  refine j_iload_n C dX2_choose_11 rfl 1 rfl ?_
  show J _ _ _ _ _ 12 _
  refine j_aload_n C dX2_choose_12 rfl 2 rfl ?_
  refine j_getr (f := 200) (v := (ad 16)) C flX2_14 dX2_choose_13 (wm_15 (S := S) hW) (wk_15 (S := S) hW) (by decide) rfl (wr_200_15 (S := S) hW) ?_
  refine j_iload_n C dX2_choose_16 rfl 0 rfl ?_
  refine j_callV (ci := 8) C [.int 4] [.int 65536] mlX2_58 mcX8_has (c_hasf S ad hW 4 z_ad17) (wm_16 (S := S) hW) (wk_16 (S := S) hW) rfl (M.rm (by decide) (by decide) (Nat.le_of_ble_eq_true rfl) (Nat.le_of_ble_eq_true rfl)) rfl rfl (Nat.le_of_ble_eq_true rfl) dX2_choose_17 (fun r_17 S_18 hp_19 => ?_)
  obtain ⟨rfl, e_20⟩ := hp_19
  refine J.eq (S' := S) (st' := [.int 0, .int 65536]) (lv' := [(2, .int 4), (1, .int 65536), (0, .ref (ad 15))]) e_20 rfl rfl ?_
  refine j_if_eq (tgt := 29) C dX2_choose_20 (by decide) (fun c9 => ?_) (fun c9 => absurd (by decide) c9)
  refine j_iconst (v := 0) C dX2_choose_29 (by decide) ?_
  refine j_ior (v := 65536) C dX2_choose_30 (by decide) ?_
  refine j_istore_n (lv' := [(1, .int 65536), (2, .int 4), (0, .ref (ad 15))]) C dX2_choose_31 rfl (by rw [hn9]; decide) rfl ?_
  show J _ _ _ _ _ 32 _
  refine j_iinc (q := 1) (v := 5) (lv' := [(2, .int 5), (1, .int 65536), (0, .ref (ad 15))]) C dX2_choose_32 rfl (by decide) (by rw [hn9]; decide) rfl ?_
  refine j_goto (tgt := 5) C dX2_choose_35 (by decide) ?_
  refine j_iload_n C dX2_choose_5 rfl 0 rfl ?_
  refine j_bipush (v := 16) C dX2_choose_6 (by decide) ?_
  refine j_ic_ge (tgt := 38) C dX2_choose_8 (by decide) (fun c9 => absurd c9 (by decide)) (fun c9 => ?_)
  refine j_iload_n C dX2_choose_11 rfl 1 rfl ?_
  refine j_aload_n C dX2_choose_12 rfl 2 rfl ?_
  refine j_getr (f := 200) (v := (ad 16)) C flX2_14 dX2_choose_13 (wm_15 (S := S) hW) (wk_15 (S := S) hW) (by decide) rfl (wr_200_15 (S := S) hW) ?_
  show J _ _ _ _ _ 16 _
  refine j_iload_n C dX2_choose_16 rfl 0 rfl ?_
  refine j_callV (ci := 8) C [.int 5] [.int 65536] mlX2_58 mcX8_has (c_hasf S ad hW 5 z_ad17) (wm_16 (S := S) hW) (wk_16 (S := S) hW) rfl (M.rm (by decide) (by decide) (Nat.le_of_ble_eq_true rfl) (Nat.le_of_ble_eq_true rfl)) rfl rfl (Nat.le_of_ble_eq_true rfl) dX2_choose_17 (fun r_21 S_22 hp_23 => ?_)
  obtain ⟨rfl, e_24⟩ := hp_23
  refine J.eq (S' := S) (st' := [.int 0, .int 65536]) (lv' := [(2, .int 5), (1, .int 65536), (0, .ref (ad 15))]) e_24 rfl rfl ?_
  refine j_if_eq (tgt := 29) C dX2_choose_20 (by decide) (fun c9 => ?_) (fun c9 => absurd (by decide) c9)
  refine j_iconst (v := 0) C dX2_choose_29 (by decide) ?_
  refine j_ior (v := 65536) C dX2_choose_30 (by decide) ?_
  refine j_istore_n (lv' := [(1, .int 65536), (2, .int 5), (0, .ref (ad 15))]) C dX2_choose_31 rfl (by rw [hn9]; decide) rfl ?_
  refine j_iinc (q := 1) (v := 6) (lv' := [(2, .int 6), (1, .int 65536), (0, .ref (ad 15))]) C dX2_choose_32 rfl (by decide) (by rw [hn9]; decide) rfl ?_
  refine j_goto (tgt := 5) C dX2_choose_35 (by decide) ?_
  show J _ _ _ _ _ 5 _
  refine j_iload_n C dX2_choose_5 rfl 0 rfl ?_
  refine j_bipush (v := 16) C dX2_choose_6 (by decide) ?_
  refine j_ic_ge (tgt := 38) C dX2_choose_8 (by decide) (fun c9 => absurd c9 (by decide)) (fun c9 => ?_)
  refine j_iload_n C dX2_choose_11 rfl 1 rfl ?_
  refine j_aload_n C dX2_choose_12 rfl 2 rfl ?_
  refine j_getr (f := 200) (v := (ad 16)) C flX2_14 dX2_choose_13 (wm_15 (S := S) hW) (wk_15 (S := S) hW) (by decide) rfl (wr_200_15 (S := S) hW) ?_
  refine j_iload_n C dX2_choose_16 rfl 0 rfl ?_
  refine j_callV (ci := 8) C [.int 6] [.int 65536] mlX2_58 mcX8_has (c_hasf S ad hW 6 z_ad17) (wm_16 (S := S) hW) (wk_16 (S := S) hW) rfl (M.rm (by decide) (by decide) (Nat.le_of_ble_eq_true rfl) (Nat.le_of_ble_eq_true rfl)) rfl rfl (Nat.le_of_ble_eq_true rfl) dX2_choose_17 (fun r_25 S_26 hp_27 => ?_)
  obtain ⟨rfl, e_28⟩ := hp_27
  refine J.eq (S' := S) (st' := [.int 0, .int 65536]) (lv' := [(2, .int 6), (1, .int 65536), (0, .ref (ad 15))]) e_28 rfl rfl ?_
  show J _ _ _ _ _ 20 _
  refine j_if_eq (tgt := 29) C dX2_choose_20 (by decide) (fun c9 => ?_) (fun c9 => absurd (by decide) c9)
  refine j_iconst (v := 0) C dX2_choose_29 (by decide) ?_
  refine j_ior (v := 65536) C dX2_choose_30 (by decide) ?_
  refine j_istore_n (lv' := [(1, .int 65536), (2, .int 6), (0, .ref (ad 15))]) C dX2_choose_31 rfl (by rw [hn9]; decide) rfl ?_
  refine j_iinc (q := 1) (v := 7) (lv' := [(2, .int 7), (1, .int 65536), (0, .ref (ad 15))]) C dX2_choose_32 rfl (by decide) (by rw [hn9]; decide) rfl ?_
  refine j_goto (tgt := 5) C dX2_choose_35 (by decide) ?_
  refine j_iload_n C dX2_choose_5 rfl 0 rfl ?_
  refine j_bipush (v := 16) C dX2_choose_6 (by decide) ?_
  show J _ _ _ _ _ 8 _
  refine j_ic_ge (tgt := 38) C dX2_choose_8 (by decide) (fun c9 => absurd c9 (by decide)) (fun c9 => ?_)
  refine j_iload_n C dX2_choose_11 rfl 1 rfl ?_
  refine j_aload_n C dX2_choose_12 rfl 2 rfl ?_
  refine j_getr (f := 200) (v := (ad 16)) C flX2_14 dX2_choose_13 (wm_15 (S := S) hW) (wk_15 (S := S) hW) (by decide) rfl (wr_200_15 (S := S) hW) ?_
  refine j_iload_n C dX2_choose_16 rfl 0 rfl ?_
  refine j_callV (ci := 8) C [.int 7] [.int 65536] mlX2_58 mcX8_has (c_hasf S ad hW 7 z_ad17) (wm_16 (S := S) hW) (wk_16 (S := S) hW) rfl (M.rm (by decide) (by decide) (Nat.le_of_ble_eq_true rfl) (Nat.le_of_ble_eq_true rfl)) rfl rfl (Nat.le_of_ble_eq_true rfl) dX2_choose_17 (fun r_29 S_30 hp_31 => ?_)
  obtain ⟨rfl, e_32⟩ := hp_31
  refine J.eq (S' := S) (st' := [.int 0, .int 65536]) (lv' := [(2, .int 7), (1, .int 65536), (0, .ref (ad 15))]) e_32 rfl rfl ?_
  refine j_if_eq (tgt := 29) C dX2_choose_20 (by decide) (fun c9 => ?_) (fun c9 => absurd (by decide) c9)
  refine j_iconst (v := 0) C dX2_choose_29 (by decide) ?_
  show J _ _ _ _ _ 30 _
  refine j_ior (v := 65536) C dX2_choose_30 (by decide) ?_
  refine j_istore_n (lv' := [(1, .int 65536), (2, .int 7), (0, .ref (ad 15))]) C dX2_choose_31 rfl (by rw [hn9]; decide) rfl ?_
  refine j_iinc (q := 1) (v := 8) (lv' := [(2, .int 8), (1, .int 65536), (0, .ref (ad 15))]) C dX2_choose_32 rfl (by decide) (by rw [hn9]; decide) rfl ?_
  refine j_goto (tgt := 5) C dX2_choose_35 (by decide) ?_
  refine j_iload_n C dX2_choose_5 rfl 0 rfl ?_
  refine j_bipush (v := 16) C dX2_choose_6 (by decide) ?_
  refine j_ic_ge (tgt := 38) C dX2_choose_8 (by decide) (fun c9 => absurd c9 (by decide)) (fun c9 => ?_)
  refine j_iload_n C dX2_choose_11 rfl 1 rfl ?_
  show J _ _ _ _ _ 12 _
  refine j_aload_n C dX2_choose_12 rfl 2 rfl ?_
  refine j_getr (f := 200) (v := (ad 16)) C flX2_14 dX2_choose_13 (wm_15 (S := S) hW) (wk_15 (S := S) hW) (by decide) rfl (wr_200_15 (S := S) hW) ?_
  refine j_iload_n C dX2_choose_16 rfl 0 rfl ?_
  refine j_callV (ci := 8) C [.int 8] [.int 65536] mlX2_58 mcX8_has (c_hasf S ad hW 8 z_ad17) (wm_16 (S := S) hW) (wk_16 (S := S) hW) rfl (M.rm (by decide) (by decide) (Nat.le_of_ble_eq_true rfl) (Nat.le_of_ble_eq_true rfl)) rfl rfl (Nat.le_of_ble_eq_true rfl) dX2_choose_17 (fun r_33 S_34 hp_35 => ?_)
  obtain ⟨rfl, e_36⟩ := hp_35
  refine J.eq (S' := S) (st' := [.int 0, .int 65536]) (lv' := [(2, .int 8), (1, .int 65536), (0, .ref (ad 15))]) e_36 rfl rfl ?_
  refine j_if_eq (tgt := 29) C dX2_choose_20 (by decide) (fun c9 => ?_) (fun c9 => absurd (by decide) c9)
  refine j_iconst (v := 0) C dX2_choose_29 (by decide) ?_
  refine j_ior (v := 65536) C dX2_choose_30 (by decide) ?_
  refine j_istore_n (lv' := [(1, .int 65536), (2, .int 8), (0, .ref (ad 15))]) C dX2_choose_31 rfl (by rw [hn9]; decide) rfl ?_
  show J _ _ _ _ _ 32 _
  refine j_iinc (q := 1) (v := 9) (lv' := [(2, .int 9), (1, .int 65536), (0, .ref (ad 15))]) C dX2_choose_32 rfl (by decide) (by rw [hn9]; decide) rfl ?_
  refine j_goto (tgt := 5) C dX2_choose_35 (by decide) ?_
  refine j_iload_n C dX2_choose_5 rfl 0 rfl ?_
  refine j_bipush (v := 16) C dX2_choose_6 (by decide) ?_
  refine j_ic_ge (tgt := 38) C dX2_choose_8 (by decide) (fun c9 => absurd c9 (by decide)) (fun c9 => ?_)
  refine j_iload_n C dX2_choose_11 rfl 1 rfl ?_
  refine j_aload_n C dX2_choose_12 rfl 2 rfl ?_
  refine j_getr (f := 200) (v := (ad 16)) C flX2_14 dX2_choose_13 (wm_15 (S := S) hW) (wk_15 (S := S) hW) (by decide) rfl (wr_200_15 (S := S) hW) ?_
  show J _ _ _ _ _ 16 _
  refine j_iload_n C dX2_choose_16 rfl 0 rfl ?_
  refine j_callV (ci := 8) C [.int 9] [.int 65536] mlX2_58 mcX8_has (c_hasf S ad hW 9 z_ad17) (wm_16 (S := S) hW) (wk_16 (S := S) hW) rfl (M.rm (by decide) (by decide) (Nat.le_of_ble_eq_true rfl) (Nat.le_of_ble_eq_true rfl)) rfl rfl (Nat.le_of_ble_eq_true rfl) dX2_choose_17 (fun r_37 S_38 hp_39 => ?_)
  obtain ⟨rfl, e_40⟩ := hp_39
  refine J.eq (S' := S) (st' := [.int 0, .int 65536]) (lv' := [(2, .int 9), (1, .int 65536), (0, .ref (ad 15))]) e_40 rfl rfl ?_
  refine j_if_eq (tgt := 29) C dX2_choose_20 (by decide) (fun c9 => ?_) (fun c9 => absurd (by decide) c9)
  refine j_iconst (v := 0) C dX2_choose_29 (by decide) ?_
  refine j_ior (v := 65536) C dX2_choose_30 (by decide) ?_
  refine j_istore_n (lv' := [(1, .int 65536), (2, .int 9), (0, .ref (ad 15))]) C dX2_choose_31 rfl (by rw [hn9]; decide) rfl ?_
  refine j_iinc (q := 1) (v := 10) (lv' := [(2, .int 10), (1, .int 65536), (0, .ref (ad 15))]) C dX2_choose_32 rfl (by decide) (by rw [hn9]; decide) rfl ?_
  refine j_goto (tgt := 5) C dX2_choose_35 (by decide) ?_
  show J _ _ _ _ _ 5 _
  refine j_iload_n C dX2_choose_5 rfl 0 rfl ?_
  refine j_bipush (v := 16) C dX2_choose_6 (by decide) ?_
  refine j_ic_ge (tgt := 38) C dX2_choose_8 (by decide) (fun c9 => absurd c9 (by decide)) (fun c9 => ?_)
  refine j_iload_n C dX2_choose_11 rfl 1 rfl ?_
  refine j_aload_n C dX2_choose_12 rfl 2 rfl ?_
  refine j_getr (f := 200) (v := (ad 16)) C flX2_14 dX2_choose_13 (wm_15 (S := S) hW) (wk_15 (S := S) hW) (by decide) rfl (wr_200_15 (S := S) hW) ?_
  refine j_iload_n C dX2_choose_16 rfl 0 rfl ?_
  refine j_callV (ci := 8) C [.int 10] [.int 65536] mlX2_58 mcX8_has (c_hasf S ad hW 10 z_ad17) (wm_16 (S := S) hW) (wk_16 (S := S) hW) rfl (M.rm (by decide) (by decide) (Nat.le_of_ble_eq_true rfl) (Nat.le_of_ble_eq_true rfl)) rfl rfl (Nat.le_of_ble_eq_true rfl) dX2_choose_17 (fun r_41 S_42 hp_43 => ?_)
  obtain ⟨rfl, e_44⟩ := hp_43
  refine J.eq (S' := S) (st' := [.int 0, .int 65536]) (lv' := [(2, .int 10), (1, .int 65536), (0, .ref (ad 15))]) e_44 rfl rfl ?_
  show J _ _ _ _ _ 20 _
  refine j_if_eq (tgt := 29) C dX2_choose_20 (by decide) (fun c9 => ?_) (fun c9 => absurd (by decide) c9)
  refine j_iconst (v := 0) C dX2_choose_29 (by decide) ?_
  refine j_ior (v := 65536) C dX2_choose_30 (by decide) ?_
  refine j_istore_n (lv' := [(1, .int 65536), (2, .int 10), (0, .ref (ad 15))]) C dX2_choose_31 rfl (by rw [hn9]; decide) rfl ?_
  refine j_iinc (q := 1) (v := 11) (lv' := [(2, .int 11), (1, .int 65536), (0, .ref (ad 15))]) C dX2_choose_32 rfl (by decide) (by rw [hn9]; decide) rfl ?_
  refine j_goto (tgt := 5) C dX2_choose_35 (by decide) ?_
  refine j_iload_n C dX2_choose_5 rfl 0 rfl ?_
  refine j_bipush (v := 16) C dX2_choose_6 (by decide) ?_
  show J _ _ _ _ _ 8 _
  refine j_ic_ge (tgt := 38) C dX2_choose_8 (by decide) (fun c9 => absurd c9 (by decide)) (fun c9 => ?_)
  refine j_iload_n C dX2_choose_11 rfl 1 rfl ?_
  refine j_aload_n C dX2_choose_12 rfl 2 rfl ?_
  refine j_getr (f := 200) (v := (ad 16)) C flX2_14 dX2_choose_13 (wm_15 (S := S) hW) (wk_15 (S := S) hW) (by decide) rfl (wr_200_15 (S := S) hW) ?_
  refine j_iload_n C dX2_choose_16 rfl 0 rfl ?_
  refine j_callV (ci := 8) C [.int 11] [.int 65536] mlX2_58 mcX8_has (c_hasf S ad hW 11 z_ad17) (wm_16 (S := S) hW) (wk_16 (S := S) hW) rfl (M.rm (by decide) (by decide) (Nat.le_of_ble_eq_true rfl) (Nat.le_of_ble_eq_true rfl)) rfl rfl (Nat.le_of_ble_eq_true rfl) dX2_choose_17 (fun r_45 S_46 hp_47 => ?_)
  obtain ⟨rfl, e_48⟩ := hp_47
  refine J.eq (S' := S) (st' := [.int 0, .int 65536]) (lv' := [(2, .int 11), (1, .int 65536), (0, .ref (ad 15))]) e_48 rfl rfl ?_
  refine j_if_eq (tgt := 29) C dX2_choose_20 (by decide) (fun c9 => ?_) (fun c9 => absurd (by decide) c9)
  refine j_iconst (v := 0) C dX2_choose_29 (by decide) ?_
  show J _ _ _ _ _ 30 _
  refine j_ior (v := 65536) C dX2_choose_30 (by decide) ?_
  refine j_istore_n (lv' := [(1, .int 65536), (2, .int 11), (0, .ref (ad 15))]) C dX2_choose_31 rfl (by rw [hn9]; decide) rfl ?_
  refine j_iinc (q := 1) (v := 12) (lv' := [(2, .int 12), (1, .int 65536), (0, .ref (ad 15))]) C dX2_choose_32 rfl (by decide) (by rw [hn9]; decide) rfl ?_
  refine j_goto (tgt := 5) C dX2_choose_35 (by decide) ?_
  refine j_iload_n C dX2_choose_5 rfl 0 rfl ?_
  refine j_bipush (v := 16) C dX2_choose_6 (by decide) ?_
  refine j_ic_ge (tgt := 38) C dX2_choose_8 (by decide) (fun c9 => absurd c9 (by decide)) (fun c9 => ?_)
  refine j_iload_n C dX2_choose_11 rfl 1 rfl ?_
  show J _ _ _ _ _ 12 _
  refine j_aload_n C dX2_choose_12 rfl 2 rfl ?_
  refine j_getr (f := 200) (v := (ad 16)) C flX2_14 dX2_choose_13 (wm_15 (S := S) hW) (wk_15 (S := S) hW) (by decide) rfl (wr_200_15 (S := S) hW) ?_
  refine j_iload_n C dX2_choose_16 rfl 0 rfl ?_
  refine j_callV (ci := 8) C [.int 12] [.int 65536] mlX2_58 mcX8_has (c_hasf S ad hW 12 z_ad17) (wm_16 (S := S) hW) (wk_16 (S := S) hW) rfl (M.rm (by decide) (by decide) (Nat.le_of_ble_eq_true rfl) (Nat.le_of_ble_eq_true rfl)) rfl rfl (Nat.le_of_ble_eq_true rfl) dX2_choose_17 (fun r_49 S_50 hp_51 => ?_)
  obtain ⟨rfl, e_52⟩ := hp_51
  refine J.eq (S' := S) (st' := [.int 0, .int 65536]) (lv' := [(2, .int 12), (1, .int 65536), (0, .ref (ad 15))]) e_52 rfl rfl ?_
  refine j_if_eq (tgt := 29) C dX2_choose_20 (by decide) (fun c9 => ?_) (fun c9 => absurd (by decide) c9)
  refine j_iconst (v := 0) C dX2_choose_29 (by decide) ?_
  refine j_ior (v := 65536) C dX2_choose_30 (by decide) ?_
  refine j_istore_n (lv' := [(1, .int 65536), (2, .int 12), (0, .ref (ad 15))]) C dX2_choose_31 rfl (by rw [hn9]; decide) rfl ?_
  show J _ _ _ _ _ 32 _
  refine j_iinc (q := 1) (v := 13) (lv' := [(2, .int 13), (1, .int 65536), (0, .ref (ad 15))]) C dX2_choose_32 rfl (by decide) (by rw [hn9]; decide) rfl ?_
  refine j_goto (tgt := 5) C dX2_choose_35 (by decide) ?_
  refine j_iload_n C dX2_choose_5 rfl 0 rfl ?_
  refine j_bipush (v := 16) C dX2_choose_6 (by decide) ?_
  refine j_ic_ge (tgt := 38) C dX2_choose_8 (by decide) (fun c9 => absurd c9 (by decide)) (fun c9 => ?_)
  refine j_iload_n C dX2_choose_11 rfl 1 rfl ?_
  refine j_aload_n C dX2_choose_12 rfl 2 rfl ?_
  refine j_getr (f := 200) (v := (ad 16)) C flX2_14 dX2_choose_13 (wm_15 (S := S) hW) (wk_15 (S := S) hW) (by decide) rfl (wr_200_15 (S := S) hW) ?_
  show J _ _ _ _ _ 16 _
  refine j_iload_n C dX2_choose_16 rfl 0 rfl ?_
  refine j_callV (ci := 8) C [.int 13] [.int 65536] mlX2_58 mcX8_has (c_hasf S ad hW 13 z_ad17) (wm_16 (S := S) hW) (wk_16 (S := S) hW) rfl (M.rm (by decide) (by decide) (Nat.le_of_ble_eq_true rfl) (Nat.le_of_ble_eq_true rfl)) rfl rfl (Nat.le_of_ble_eq_true rfl) dX2_choose_17 (fun r_53 S_54 hp_55 => ?_)
  obtain ⟨rfl, e_56⟩ := hp_55
  refine J.eq (S' := S) (st' := [.int 0, .int 65536]) (lv' := [(2, .int 13), (1, .int 65536), (0, .ref (ad 15))]) e_56 rfl rfl ?_
  refine j_if_eq (tgt := 29) C dX2_choose_20 (by decide) (fun c9 => ?_) (fun c9 => absurd (by decide) c9)
  refine j_iconst (v := 0) C dX2_choose_29 (by decide) ?_
  refine j_ior (v := 65536) C dX2_choose_30 (by decide) ?_
  refine j_istore_n (lv' := [(1, .int 65536), (2, .int 13), (0, .ref (ad 15))]) C dX2_choose_31 rfl (by rw [hn9]; decide) rfl ?_
  refine j_iinc (q := 1) (v := 14) (lv' := [(2, .int 14), (1, .int 65536), (0, .ref (ad 15))]) C dX2_choose_32 rfl (by decide) (by rw [hn9]; decide) rfl ?_
  refine j_goto (tgt := 5) C dX2_choose_35 (by decide) ?_
  show J _ _ _ _ _ 5 _
  refine j_iload_n C dX2_choose_5 rfl 0 rfl ?_
  refine j_bipush (v := 16) C dX2_choose_6 (by decide) ?_
  refine j_ic_ge (tgt := 38) C dX2_choose_8 (by decide) (fun c9 => absurd c9 (by decide)) (fun c9 => ?_)
  refine j_iload_n C dX2_choose_11 rfl 1 rfl ?_
  refine j_aload_n C dX2_choose_12 rfl 2 rfl ?_
  refine j_getr (f := 200) (v := (ad 16)) C flX2_14 dX2_choose_13 (wm_15 (S := S) hW) (wk_15 (S := S) hW) (by decide) rfl (wr_200_15 (S := S) hW) ?_
  refine j_iload_n C dX2_choose_16 rfl 0 rfl ?_
  refine j_callV (ci := 8) C [.int 14] [.int 65536] mlX2_58 mcX8_has (c_hasf S ad hW 14 z_ad17) (wm_16 (S := S) hW) (wk_16 (S := S) hW) rfl (M.rm (by decide) (by decide) (Nat.le_of_ble_eq_true rfl) (Nat.le_of_ble_eq_true rfl)) rfl rfl (Nat.le_of_ble_eq_true rfl) dX2_choose_17 (fun r_57 S_58 hp_59 => ?_)
  obtain ⟨rfl, e_60⟩ := hp_59
  refine J.eq (S' := S) (st' := [.int 0, .int 65536]) (lv' := [(2, .int 14), (1, .int 65536), (0, .ref (ad 15))]) e_60 rfl rfl ?_
  show J _ _ _ _ _ 20 _
  refine j_if_eq (tgt := 29) C dX2_choose_20 (by decide) (fun c9 => ?_) (fun c9 => absurd (by decide) c9)
  refine j_iconst (v := 0) C dX2_choose_29 (by decide) ?_
  refine j_ior (v := 65536) C dX2_choose_30 (by decide) ?_
  refine j_istore_n (lv' := [(1, .int 65536), (2, .int 14), (0, .ref (ad 15))]) C dX2_choose_31 rfl (by rw [hn9]; decide) rfl ?_
  refine j_iinc (q := 1) (v := 15) (lv' := [(2, .int 15), (1, .int 65536), (0, .ref (ad 15))]) C dX2_choose_32 rfl (by decide) (by rw [hn9]; decide) rfl ?_
  refine j_goto (tgt := 5) C dX2_choose_35 (by decide) ?_
  refine j_iload_n C dX2_choose_5 rfl 0 rfl ?_
  refine j_bipush (v := 16) C dX2_choose_6 (by decide) ?_
  show J _ _ _ _ _ 8 _
  refine j_ic_ge (tgt := 38) C dX2_choose_8 (by decide) (fun c9 => absurd c9 (by decide)) (fun c9 => ?_)
  refine j_iload_n C dX2_choose_11 rfl 1 rfl ?_
  refine j_aload_n C dX2_choose_12 rfl 2 rfl ?_
  refine j_getr (f := 200) (v := (ad 16)) C flX2_14 dX2_choose_13 (wm_15 (S := S) hW) (wk_15 (S := S) hW) (by decide) rfl (wr_200_15 (S := S) hW) ?_
  refine j_iload_n C dX2_choose_16 rfl 0 rfl ?_
  refine j_callV (ci := 8) C [.int 15] [.int 65536] mlX2_58 mcX8_has (c_hasf S ad hW 15 z_ad17) (wm_16 (S := S) hW) (wk_16 (S := S) hW) rfl (M.rm (by decide) (by decide) (Nat.le_of_ble_eq_true rfl) (Nat.le_of_ble_eq_true rfl)) rfl rfl (Nat.le_of_ble_eq_true rfl) dX2_choose_17 (fun r_61 S_62 hp_63 => ?_)
  obtain ⟨rfl, e_64⟩ := hp_63
  refine J.eq (S' := S) (st' := [.int 0, .int 65536]) (lv' := [(2, .int 15), (1, .int 65536), (0, .ref (ad 15))]) e_64 rfl rfl ?_
  refine j_if_eq (tgt := 29) C dX2_choose_20 (by decide) (fun c9 => ?_) (fun c9 => absurd (by decide) c9)
  refine j_iconst (v := 0) C dX2_choose_29 (by decide) ?_
  show J _ _ _ _ _ 30 _
  refine j_ior (v := 65536) C dX2_choose_30 (by decide) ?_
  refine j_istore_n (lv' := [(1, .int 65536), (2, .int 15), (0, .ref (ad 15))]) C dX2_choose_31 rfl (by rw [hn9]; decide) rfl ?_
  refine j_iinc (q := 1) (v := 16) (lv' := [(2, .int 16), (1, .int 65536), (0, .ref (ad 15))]) C dX2_choose_32 rfl (by decide) (by rw [hn9]; decide) rfl ?_
  refine j_goto (tgt := 5) C dX2_choose_35 (by decide) ?_
  refine j_iload_n C dX2_choose_5 rfl 0 rfl ?_
  refine j_bipush (v := 16) C dX2_choose_6 (by decide) ?_
  refine j_ic_ge (tgt := 38) C dX2_choose_8 (by decide) (fun c9 => ?_) (fun c9 => absurd (by decide) c9)
  refine j_aload_n C dX2_choose_38 rfl 2 rfl ?_
  show J _ _ _ _ _ 39 _
  refine j_iload_n C dX2_choose_39 rfl 1 rfl ?_
  refine j_iconst (v := 0) C dX2_choose_40 (by decide) ?_
  refine j_aload_n C dX2_choose_41 rfl 2 rfl ?_
  refine j_getr (f := 207) (v := (ad 19)) C flX2_35 dX2_choose_42 (wm_15 (S := S) hW) (wk_15 (S := S) hW) (by decide) rfl (wr_207_15 (S := S) hW) ?_
  refine j_iconst (v := 0) C dX2_choose_45 (by decide) ?_
  refine j_iald (j := 0) (v := aI S (ad 19) 0) C dX2_choose_46 (wm_19 (S := S) hW) (wk_19 (S := S) hW) (inr_of (n := 8) (wl_19 (S := S) hW) (vp_lit (by decide))) (by decide) rfl ?_
  refine j_callV (ci := 2) C [.int 65536, .int 0, .int (aI S (ad 19) 0)] [] mlX2_114 mcX2_alike (c_X2_alike S ad hW 0 (aI S (ad 19) 0) (by omega)) (wm_15 (S := S) hW) (wk_15 (S := S) hW) rfl (M.rm (by decide) (by decide) (Nat.le_of_ble_eq_true rfl) (Nat.le_of_ble_eq_true rfl)) rfl rfl (Nat.le_of_ble_eq_true rfl) dX2_choose_47 (fun r_65 S_66 hp_67 => ?_)
  obtain ⟨rfl, e_68⟩ := hp_67
  refine J.eq (S' := S) (st' := [.int 65536]) (lv' := [(2, .int 16), (1, .int 65536), (0, .ref (ad 15))]) e_68 rfl rfl ?_
  refine j_istore_n (lv' := [(1, .int 65536), (2, .int 16), (0, .ref (ad 15))]) C dX2_choose_50 rfl (by rw [hn9]; decide) rfl ?_
  show J _ _ _ _ _ 51 _
  refine j_aload_n C dX2_choose_51 rfl 2 rfl ?_
  refine j_iload_n C dX2_choose_52 rfl 0 rfl ?_
  refine j_iconst (v := 1) C dX2_choose_53 (by decide) ?_
  refine j_aload_n C dX2_choose_54 rfl 2 rfl ?_
  refine j_getr (f := 207) (v := (ad 19)) C flX2_35 dX2_choose_55 (wm_15 (S := S) hW) (wk_15 (S := S) hW) (by decide) rfl (wr_207_15 (S := S) hW) ?_
  refine j_iconst (v := 1) C dX2_choose_58 (by decide) ?_
  refine j_iald (j := 1) (v := aI S (ad 19) 1) C dX2_choose_59 (wm_19 (S := S) hW) (wk_19 (S := S) hW) (inr_of (n := 8) (wl_19 (S := S) hW) (vp_lit (by decide))) (by decide) rfl ?_
  refine j_callV (ci := 2) C [.int 65536, .int 1, .int (aI S (ad 19) 1)] [] mlX2_114 mcX2_alike (c_X2_alike S ad hW 1 (aI S (ad 19) 1) (by omega)) (wm_15 (S := S) hW) (wk_15 (S := S) hW) rfl (M.rm (by decide) (by decide) (Nat.le_of_ble_eq_true rfl) (Nat.le_of_ble_eq_true rfl)) rfl rfl (Nat.le_of_ble_eq_true rfl) dX2_choose_60 (fun r_69 S_70 hp_71 => ?_)
  obtain ⟨rfl, e_72⟩ := hp_71
  refine J.eq (S' := S) (st' := [.int 65536]) (lv' := [(1, .int 65536), (2, .int 16), (0, .ref (ad 15))]) e_72 rfl rfl ?_
  show J _ _ _ _ _ 63 _
  refine j_istore_n (lv' := [(1, .int 65536), (2, .int 16), (0, .ref (ad 15))]) C dX2_choose_63 rfl (by rw [hn9]; decide) rfl ?_
  refine j_aload_n C dX2_choose_64 rfl 2 rfl ?_
  refine j_getr (f := 207) (v := (ad 19)) C flX2_35 dX2_choose_65 (wm_15 (S := S) hW) (wk_15 (S := S) hW) (by decide) rfl (wr_207_15 (S := S) hW) ?_
  refine j_iconst (v := 1) C dX2_choose_68 (by decide) ?_
  refine j_iald (j := 1) (v := aI S (ad 19) 1) C dX2_choose_69 (wm_19 (S := S) hW) (wk_19 (S := S) hW) (inr_of (n := 8) (wl_19 (S := S) hW) (vp_lit (by decide))) (by decide) rfl ?_
  refine j_if_ne (tgt := 86) C dX2_choose_70 (by decide) (fun c_70 => ?_) (fun c_70 => ?_)
  · skip
    refine j_aload_n C dX2_choose_86 rfl 2 rfl ?_
    refine j_iload_n C dX2_choose_87 rfl 0 rfl ?_
    refine j_iconst (v := 3) C dX2_choose_88 (by decide) ?_
    show J _ _ _ _ _ 89 _
    refine j_aload_n C dX2_choose_89 rfl 2 rfl ?_
    refine j_iload_n C dX2_choose_90 rfl 0 rfl ?_
    refine j_iconst (v := 3) C dX2_choose_91 (by decide) ?_
    refine j_callV (ci := 2) C [.int 65536, .int 3] [.int 3, .int 65536, .ref (ad 15)] mlX2_118 mcX2_nearest (c_X2_nearest S ad hW 3 (by omega)) (wm_15 (S := S) hW) (wk_15 (S := S) hW) rfl (M.rm (by decide) (by decide) (Nat.le_of_ble_eq_true rfl) (Nat.le_of_ble_eq_true rfl)) rfl rfl (Nat.le_of_ble_eq_true rfl) dX2_choose_92 (fun r_73 S_74 hp_75 => ?_)
    obtain ⟨rfl, e_76⟩ := hp_75
    refine J.eq (S' := S) (st' := [.int (aI S (ad 18) (112 + 3)), .int 3, .int 65536, .ref (ad 15)]) (lv' := [(1, .int 65536), (2, .int 16), (0, .ref (ad 15))]) e_76 rfl rfl ?_
    refine j_callV (ci := 2) C [.int 65536, .int 3, .int (aI S (ad 18) (112 + 3))] [] mlX2_114 mcX2_alike (c_X2_alike S ad hW 3 (aI S (ad 18) (112 + 3)) (by omega)) (wm_15 (S := S) hW) (wk_15 (S := S) hW) rfl (M.rm (by decide) (by decide) (Nat.le_of_ble_eq_true rfl) (Nat.le_of_ble_eq_true rfl)) rfl rfl (Nat.le_of_ble_eq_true rfl) dX2_choose_95 (fun r_77 S_78 hp_79 => ?_)
    obtain ⟨rfl, e_80⟩ := hp_79
    refine J.eq (S' := S) (st' := [.int 65536]) (lv' := [(1, .int 65536), (2, .int 16), (0, .ref (ad 15))]) e_80 rfl rfl ?_
    refine j_istore_n (lv' := [(1, .int 65536), (2, .int 16), (0, .ref (ad 15))]) C dX2_choose_98 rfl (by rw [hn9]; decide) rfl ?_
    refine j_aload_n C dX2_choose_99 rfl 2 rfl ?_
    refine j_iload_n C dX2_choose_100 rfl 0 rfl ?_
    show J _ _ _ _ _ 101 _
    refine j_iconst (v := 4) C dX2_choose_101 (by decide) ?_
    refine j_aload_n C dX2_choose_102 rfl 2 rfl ?_
    refine j_getr (f := 207) (v := (ad 19)) C flX2_35 dX2_choose_103 (wm_15 (S := S) hW) (wk_15 (S := S) hW) (by decide) rfl (wr_207_15 (S := S) hW) ?_
    refine j_iconst (v := 4) C dX2_choose_106 (by decide) ?_
    refine j_iald (j := 4) (v := aI S (ad 19) 4) C dX2_choose_107 (wm_19 (S := S) hW) (wk_19 (S := S) hW) (inr_of (n := 8) (wl_19 (S := S) hW) (vp_lit (by decide))) (by decide) rfl ?_
    refine j_callV (ci := 2) C [.int 65536, .int 4, .int (aI S (ad 19) 4)] [] mlX2_114 mcX2_alike (c_X2_alike S ad hW 4 (aI S (ad 19) 4) (by omega)) (wm_15 (S := S) hW) (wk_15 (S := S) hW) rfl (M.rm (by decide) (by decide) (Nat.le_of_ble_eq_true rfl) (Nat.le_of_ble_eq_true rfl)) rfl rfl (Nat.le_of_ble_eq_true rfl) dX2_choose_108 (fun r_81 S_82 hp_83 => ?_)
    obtain ⟨rfl, e_84⟩ := hp_83
    refine J.eq (S' := S) (st' := [.int 65536]) (lv' := [(1, .int 65536), (2, .int 16), (0, .ref (ad 15))]) e_84 rfl rfl ?_
    refine j_istore_n (lv' := [(1, .int 65536), (2, .int 16), (0, .ref (ad 15))]) C dX2_choose_111 rfl (by rw [hn9]; decide) rfl ?_
    refine j_aload_n C dX2_choose_112 rfl 2 rfl ?_
    show J _ _ _ _ _ 113 _
    refine j_iload_n C dX2_choose_113 rfl 0 rfl ?_
    refine j_iconst (v := 5) C dX2_choose_114 (by decide) ?_
    refine j_aload_n C dX2_choose_115 rfl 2 rfl ?_
    refine j_iload_n C dX2_choose_116 rfl 0 rfl ?_
    refine j_iconst (v := 5) C dX2_choose_117 (by decide) ?_
    refine j_callV (ci := 2) C [.int 65536, .int 5] [.int 5, .int 65536, .ref (ad 15)] mlX2_118 mcX2_nearest (c_X2_nearest S ad hW 5 (by omega)) (wm_15 (S := S) hW) (wk_15 (S := S) hW) rfl (M.rm (by decide) (by decide) (Nat.le_of_ble_eq_true rfl) (Nat.le_of_ble_eq_true rfl)) rfl rfl (Nat.le_of_ble_eq_true rfl) dX2_choose_118 (fun r_85 S_86 hp_87 => ?_)
    obtain ⟨rfl, e_88⟩ := hp_87
    refine J.eq (S' := S) (st' := [.int (aI S (ad 18) (112 + 5)), .int 5, .int 65536, .ref (ad 15)]) (lv' := [(1, .int 65536), (2, .int 16), (0, .ref (ad 15))]) e_88 rfl rfl ?_
    refine j_callV (ci := 2) C [.int 65536, .int 5, .int (aI S (ad 18) (112 + 5))] [] mlX2_114 mcX2_alike (c_X2_alike S ad hW 5 (aI S (ad 18) (112 + 5)) (by omega)) (wm_15 (S := S) hW) (wk_15 (S := S) hW) rfl (M.rm (by decide) (by decide) (Nat.le_of_ble_eq_true rfl) (Nat.le_of_ble_eq_true rfl)) rfl rfl (Nat.le_of_ble_eq_true rfl) dX2_choose_121 (fun r_89 S_90 hp_91 => ?_)
    obtain ⟨rfl, e_92⟩ := hp_91
    refine J.eq (S' := S) (st' := [.int 65536]) (lv' := [(1, .int 65536), (2, .int 16), (0, .ref (ad 15))]) e_92 rfl rfl ?_
    refine j_istore_n (lv' := [(1, .int 65536), (2, .int 16), (0, .ref (ad 15))]) C dX2_choose_124 rfl (by rw [hn9]; decide) rfl ?_
    show J _ _ _ _ _ 125 _
    refine j_aload_n C dX2_choose_125 rfl 2 rfl ?_
    refine j_iload_n C dX2_choose_126 rfl 0 rfl ?_
    refine j_bipush (v := 6) C dX2_choose_127 (by decide) ?_
    refine j_aload_n C dX2_choose_129 rfl 2 rfl ?_
    refine j_getr (f := 207) (v := (ad 19)) C flX2_35 dX2_choose_130 (wm_15 (S := S) hW) (wk_15 (S := S) hW) (by decide) rfl (wr_207_15 (S := S) hW) ?_
    refine j_bipush (v := 6) C dX2_choose_133 (by decide) ?_
    refine j_iald (j := 6) (v := aI S (ad 19) 6) C dX2_choose_135 (wm_19 (S := S) hW) (wk_19 (S := S) hW) (inr_of (n := 8) (wl_19 (S := S) hW) (vp_lit (by decide))) (by decide) rfl ?_
    refine j_callV (ci := 2) C [.int 65536, .int 6, .int (aI S (ad 19) 6)] [] mlX2_114 mcX2_alike (c_X2_alike S ad hW 6 (aI S (ad 19) 6) (by omega)) (wm_15 (S := S) hW) (wk_15 (S := S) hW) rfl (M.rm (by decide) (by decide) (Nat.le_of_ble_eq_true rfl) (Nat.le_of_ble_eq_true rfl)) rfl rfl (Nat.le_of_ble_eq_true rfl) dX2_choose_136 (fun r_93 S_94 hp_95 => ?_)
    obtain ⟨rfl, e_96⟩ := hp_95
    refine J.eq (S' := S) (st' := [.int 65536]) (lv' := [(1, .int 65536), (2, .int 16), (0, .ref (ad 15))]) e_96 rfl rfl ?_
    show J _ _ _ _ _ 139 _
    refine j_istore_n (lv' := [(1, .int 65536), (2, .int 16), (0, .ref (ad 15))]) C dX2_choose_139 rfl (by rw [hn9]; decide) rfl ?_
    refine j_bipush (v := 31) C dX2_choose_140 (by decide) ?_
    refine j_iload_n C dX2_choose_142 rfl 0 rfl ?_
    refine j_iload_n C dX2_choose_143 rfl 0 rfl ?_
    refine j_ineg (v := (-65536)) C dX2_choose_144 (by decide) ?_
    refine j_iand (v := 65536) C dX2_choose_145 (by decide) ?_
    refine j_callS C [.int 65536] [.int 31] mlX2_121 mcX11_zerosAhead (c_X11_zerosAhead S 65536) (M.rm (by decide) (by decide) (Nat.le_of_ble_eq_true rfl) (Nat.le_of_ble_eq_true rfl)) rfl rfl (Nat.le_of_ble_eq_true rfl) dX2_choose_146 (fun r_97 S_98 hp_99 => ?_)
    obtain ⟨rfl, e_100⟩ := hp_99
    refine J.eq (S' := S) (st' := [.int (nI (lz 65536)), .int 31]) (lv' := [(1, .int 65536), (2, .int 16), (0, .ref (ad 15))]) e_100 rfl rfl ?_
    refine j_isub C dX2_choose_149 rfl ?_
    show J _ _ _ _ _ 150 _
    exact j_iret C M dX2_choose_150 (Nat.le_of_ble_eq_true rfl) (Nat.le_of_ble_eq_true rfl) ⟨rfl, rfl⟩
  · skip
    refine j_aload_n C dX2_choose_73 rfl 2 rfl ?_
    refine j_iload_n C dX2_choose_74 rfl 0 rfl ?_
    refine j_iconst (v := 2) C dX2_choose_75 (by decide) ?_
    refine j_aload_n C dX2_choose_76 rfl 2 rfl ?_
    refine j_iload_n C dX2_choose_77 rfl 0 rfl ?_
    refine j_iconst (v := 2) C dX2_choose_78 (by decide) ?_
    refine j_callV (ci := 2) C [.int 65536, .int 2] [.int 2, .int 65536, .ref (ad 15)] mlX2_118 mcX2_nearest (c_X2_nearest S ad hW 2 (by omega)) (wm_15 (S := S) hW) (wk_15 (S := S) hW) rfl (M.rm (by decide) (by decide) (Nat.le_of_ble_eq_true rfl) (Nat.le_of_ble_eq_true rfl)) rfl rfl (Nat.le_of_ble_eq_true rfl) dX2_choose_79 (fun r_101 S_102 hp_103 => ?_)
    obtain ⟨rfl, e_104⟩ := hp_103
    refine J.eq (S' := S) (st' := [.int (aI S (ad 18) (112 + 2)), .int 2, .int 65536, .ref (ad 15)]) (lv' := [(1, .int 65536), (2, .int 16), (0, .ref (ad 15))]) e_104 rfl rfl ?_
    refine j_callV (ci := 2) C [.int 65536, .int 2, .int (aI S (ad 18) (112 + 2))] [] mlX2_114 mcX2_alike (c_X2_alike S ad hW 2 (aI S (ad 18) (112 + 2)) (by omega)) (wm_15 (S := S) hW) (wk_15 (S := S) hW) rfl (M.rm (by decide) (by decide) (Nat.le_of_ble_eq_true rfl) (Nat.le_of_ble_eq_true rfl)) rfl rfl (Nat.le_of_ble_eq_true rfl) dX2_choose_82 (fun r_105 S_106 hp_107 => ?_)
    obtain ⟨rfl, e_108⟩ := hp_107
    refine J.eq (S' := S) (st' := [.int 65536]) (lv' := [(1, .int 65536), (2, .int 16), (0, .ref (ad 15))]) e_108 rfl rfl ?_
    show J _ _ _ _ _ 85 _
    refine j_istore_n (lv' := [(1, .int 65536), (2, .int 16), (0, .ref (ad 15))]) C dX2_choose_85 rfl (by rw [hn9]; decide) rfl ?_
    refine j_aload_n C dX2_choose_86 rfl 2 rfl ?_
    refine j_iload_n C dX2_choose_87 rfl 0 rfl ?_
    refine j_iconst (v := 3) C dX2_choose_88 (by decide) ?_
    refine j_aload_n C dX2_choose_89 rfl 2 rfl ?_
    refine j_iload_n C dX2_choose_90 rfl 0 rfl ?_
    refine j_iconst (v := 3) C dX2_choose_91 (by decide) ?_
    refine j_callV (ci := 2) C [.int 65536, .int 3] [.int 3, .int 65536, .ref (ad 15)] mlX2_118 mcX2_nearest (c_X2_nearest S ad hW 3 (by omega)) (wm_15 (S := S) hW) (wk_15 (S := S) hW) rfl (M.rm (by decide) (by decide) (Nat.le_of_ble_eq_true rfl) (Nat.le_of_ble_eq_true rfl)) rfl rfl (Nat.le_of_ble_eq_true rfl) dX2_choose_92 (fun r_109 S_110 hp_111 => ?_)
    obtain ⟨rfl, e_112⟩ := hp_111
    refine J.eq (S' := S) (st' := [.int (aI S (ad 18) (112 + 3)), .int 3, .int 65536, .ref (ad 15)]) (lv' := [(1, .int 65536), (2, .int 16), (0, .ref (ad 15))]) e_112 rfl rfl ?_
    show J _ _ _ _ _ 95 _
    refine j_callV (ci := 2) C [.int 65536, .int 3, .int (aI S (ad 18) (112 + 3))] [] mlX2_114 mcX2_alike (c_X2_alike S ad hW 3 (aI S (ad 18) (112 + 3)) (by omega)) (wm_15 (S := S) hW) (wk_15 (S := S) hW) rfl (M.rm (by decide) (by decide) (Nat.le_of_ble_eq_true rfl) (Nat.le_of_ble_eq_true rfl)) rfl rfl (Nat.le_of_ble_eq_true rfl) dX2_choose_95 (fun r_113 S_114 hp_115 => ?_)
    obtain ⟨rfl, e_116⟩ := hp_115
    refine J.eq (S' := S) (st' := [.int 65536]) (lv' := [(1, .int 65536), (2, .int 16), (0, .ref (ad 15))]) e_116 rfl rfl ?_
    refine j_istore_n (lv' := [(1, .int 65536), (2, .int 16), (0, .ref (ad 15))]) C dX2_choose_98 rfl (by rw [hn9]; decide) rfl ?_
    refine j_aload_n C dX2_choose_99 rfl 2 rfl ?_
    refine j_iload_n C dX2_choose_100 rfl 0 rfl ?_
    refine j_iconst (v := 4) C dX2_choose_101 (by decide) ?_
    refine j_aload_n C dX2_choose_102 rfl 2 rfl ?_
    refine j_getr (f := 207) (v := (ad 19)) C flX2_35 dX2_choose_103 (wm_15 (S := S) hW) (wk_15 (S := S) hW) (by decide) rfl (wr_207_15 (S := S) hW) ?_
    refine j_iconst (v := 4) C dX2_choose_106 (by decide) ?_
    show J _ _ _ _ _ 107 _
    refine j_iald (j := 4) (v := aI S (ad 19) 4) C dX2_choose_107 (wm_19 (S := S) hW) (wk_19 (S := S) hW) (inr_of (n := 8) (wl_19 (S := S) hW) (vp_lit (by decide))) (by decide) rfl ?_
    refine j_callV (ci := 2) C [.int 65536, .int 4, .int (aI S (ad 19) 4)] [] mlX2_114 mcX2_alike (c_X2_alike S ad hW 4 (aI S (ad 19) 4) (by omega)) (wm_15 (S := S) hW) (wk_15 (S := S) hW) rfl (M.rm (by decide) (by decide) (Nat.le_of_ble_eq_true rfl) (Nat.le_of_ble_eq_true rfl)) rfl rfl (Nat.le_of_ble_eq_true rfl) dX2_choose_108 (fun r_117 S_118 hp_119 => ?_)
    obtain ⟨rfl, e_120⟩ := hp_119
    refine J.eq (S' := S) (st' := [.int 65536]) (lv' := [(1, .int 65536), (2, .int 16), (0, .ref (ad 15))]) e_120 rfl rfl ?_
    refine j_istore_n (lv' := [(1, .int 65536), (2, .int 16), (0, .ref (ad 15))]) C dX2_choose_111 rfl (by rw [hn9]; decide) rfl ?_
    refine j_aload_n C dX2_choose_112 rfl 2 rfl ?_
    refine j_iload_n C dX2_choose_113 rfl 0 rfl ?_
    refine j_iconst (v := 5) C dX2_choose_114 (by decide) ?_
    refine j_aload_n C dX2_choose_115 rfl 2 rfl ?_
    refine j_iload_n C dX2_choose_116 rfl 0 rfl ?_
    show J _ _ _ _ _ 117 _
    refine j_iconst (v := 5) C dX2_choose_117 (by decide) ?_
    refine j_callV (ci := 2) C [.int 65536, .int 5] [.int 5, .int 65536, .ref (ad 15)] mlX2_118 mcX2_nearest (c_X2_nearest S ad hW 5 (by omega)) (wm_15 (S := S) hW) (wk_15 (S := S) hW) rfl (M.rm (by decide) (by decide) (Nat.le_of_ble_eq_true rfl) (Nat.le_of_ble_eq_true rfl)) rfl rfl (Nat.le_of_ble_eq_true rfl) dX2_choose_118 (fun r_121 S_122 hp_123 => ?_)
    obtain ⟨rfl, e_124⟩ := hp_123
    refine J.eq (S' := S) (st' := [.int (aI S (ad 18) (112 + 5)), .int 5, .int 65536, .ref (ad 15)]) (lv' := [(1, .int 65536), (2, .int 16), (0, .ref (ad 15))]) e_124 rfl rfl ?_
    refine j_callV (ci := 2) C [.int 65536, .int 5, .int (aI S (ad 18) (112 + 5))] [] mlX2_114 mcX2_alike (c_X2_alike S ad hW 5 (aI S (ad 18) (112 + 5)) (by omega)) (wm_15 (S := S) hW) (wk_15 (S := S) hW) rfl (M.rm (by decide) (by decide) (Nat.le_of_ble_eq_true rfl) (Nat.le_of_ble_eq_true rfl)) rfl rfl (Nat.le_of_ble_eq_true rfl) dX2_choose_121 (fun r_125 S_126 hp_127 => ?_)
    obtain ⟨rfl, e_128⟩ := hp_127
    refine J.eq (S' := S) (st' := [.int 65536]) (lv' := [(1, .int 65536), (2, .int 16), (0, .ref (ad 15))]) e_128 rfl rfl ?_
    refine j_istore_n (lv' := [(1, .int 65536), (2, .int 16), (0, .ref (ad 15))]) C dX2_choose_124 rfl (by rw [hn9]; decide) rfl ?_
    refine j_aload_n C dX2_choose_125 rfl 2 rfl ?_
    refine j_iload_n C dX2_choose_126 rfl 0 rfl ?_
    refine j_bipush (v := 6) C dX2_choose_127 (by decide) ?_
    refine j_aload_n C dX2_choose_129 rfl 2 rfl ?_
    show J _ _ _ _ _ 130 _
    refine j_getr (f := 207) (v := (ad 19)) C flX2_35 dX2_choose_130 (wm_15 (S := S) hW) (wk_15 (S := S) hW) (by decide) rfl (wr_207_15 (S := S) hW) ?_
    refine j_bipush (v := 6) C dX2_choose_133 (by decide) ?_
    refine j_iald (j := 6) (v := aI S (ad 19) 6) C dX2_choose_135 (wm_19 (S := S) hW) (wk_19 (S := S) hW) (inr_of (n := 8) (wl_19 (S := S) hW) (vp_lit (by decide))) (by decide) rfl ?_
    refine j_callV (ci := 2) C [.int 65536, .int 6, .int (aI S (ad 19) 6)] [] mlX2_114 mcX2_alike (c_X2_alike S ad hW 6 (aI S (ad 19) 6) (by omega)) (wm_15 (S := S) hW) (wk_15 (S := S) hW) rfl (M.rm (by decide) (by decide) (Nat.le_of_ble_eq_true rfl) (Nat.le_of_ble_eq_true rfl)) rfl rfl (Nat.le_of_ble_eq_true rfl) dX2_choose_136 (fun r_129 S_130 hp_131 => ?_)
    obtain ⟨rfl, e_132⟩ := hp_131
    refine J.eq (S' := S) (st' := [.int 65536]) (lv' := [(1, .int 65536), (2, .int 16), (0, .ref (ad 15))]) e_132 rfl rfl ?_
    refine j_istore_n (lv' := [(1, .int 65536), (2, .int 16), (0, .ref (ad 15))]) C dX2_choose_139 rfl (by rw [hn9]; decide) rfl ?_
    refine j_bipush (v := 31) C dX2_choose_140 (by decide) ?_
    refine j_iload_n C dX2_choose_142 rfl 0 rfl ?_
    refine j_iload_n C dX2_choose_143 rfl 0 rfl ?_
    show J _ _ _ _ _ 144 _
    refine j_ineg (v := (-65536)) C dX2_choose_144 (by decide) ?_
    refine j_iand (v := 65536) C dX2_choose_145 (by decide) ?_
    refine j_callS C [.int 65536] [.int 31] mlX2_121 mcX11_zerosAhead (c_X11_zerosAhead S 65536) (M.rm (by decide) (by decide) (Nat.le_of_ble_eq_true rfl) (Nat.le_of_ble_eq_true rfl)) rfl rfl (Nat.le_of_ble_eq_true rfl) dX2_choose_146 (fun r_133 S_134 hp_135 => ?_)
    obtain ⟨rfl, e_136⟩ := hp_135
    refine J.eq (S' := S) (st' := [.int (nI (lz 65536)), .int 31]) (lv' := [(1, .int 65536), (2, .int 16), (0, .ref (ad 15))]) e_136 rfl rfl ?_
    refine j_isub C dX2_choose_149 rfl ?_
    exact j_iret C M dX2_choose_150 (Nat.le_of_ble_eq_true rfl) (Nat.le_of_ble_eq_true rfl) ⟨rfl, rfl⟩
