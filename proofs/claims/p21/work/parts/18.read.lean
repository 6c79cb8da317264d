/-- the first n bytes of a row are B, below 128 -/
def STR (D : Nat → Int32) (B : Nat → Nat) (n : Nat) : Prop := ∀ j, j < n → D j = nI (B j) ∧ B j < 128
theorem and255 {b : Nat} (h : b < 256) : nI b &&& 255 = nI b := by
  have := pk_andN (n := b) (by omega) (m := 255) 8 (by decide)
  rw [this, Nat.mod_eq_of_lt (by omega)]

theorem dX5_byteAt_0 : decode cX5_byteAt 0 = .ok (.iload_n 1, 1) := by decide +kernel
theorem dX5_byteAt_1 : decode cX5_byteAt 1 = .ok (.ifCond .lt 33, 3) := by decide +kernel
theorem dX5_byteAt_4 : decode cX5_byteAt 4 = .ok (.iload_n 1, 1) := by decide +kernel
theorem dX5_byteAt_5 : decode cX5_byteAt 5 = .ok (.aload_n 0, 1) := by decide +kernel
theorem dX5_byteAt_6 : decode cX5_byteAt 6 = .ok (.getfield 28, 3) := by decide +kernel
theorem dX5_byteAt_9 : decode cX5_byteAt 9 = .ok (.if_icmp .ge 25, 3) := by decide +kernel
theorem dX5_byteAt_12 : decode cX5_byteAt 12 = .ok (.iload_n 1, 1) := by decide +kernel
theorem dX5_byteAt_13 : decode cX5_byteAt 13 = .ok (.aload_n 0, 1) := by decide +kernel
theorem dX5_byteAt_14 : decode cX5_byteAt 14 = .ok (.getfield 9, 3) := by decide +kernel
theorem dX5_byteAt_17 : decode cX5_byteAt 17 = .ok (.arraylength, 1) := by decide +kernel
theorem dX5_byteAt_18 : decode cX5_byteAt 18 = .ok (.if_icmp .ge 16, 3) := by decide +kernel
theorem dX5_byteAt_21 : decode cX5_byteAt 21 = .ok (.aload_n 0, 1) := by decide +kernel
theorem dX5_byteAt_22 : decode cX5_byteAt 22 = .ok (.getfield 9, 3) := by decide +kernel
theorem dX5_byteAt_25 : decode cX5_byteAt 25 = .ok (.iload_n 1, 1) := by decide +kernel
theorem dX5_byteAt_26 : decode cX5_byteAt 26 = .ok (.baload, 1) := by decide +kernel
theorem dX5_byteAt_27 : decode cX5_byteAt 27 = .ok (.sipush 255, 3) := by decide +kernel
theorem dX5_byteAt_30 : decode cX5_byteAt 30 = .ok (.iand, 1) := by decide +kernel
theorem dX5_byteAt_31 : decode cX5_byteAt 31 = .ok (.goto 4, 3) := by decide +kernel
theorem dX5_byteAt_34 : decode cX5_byteAt 34 = .ok (.iconst (-1), 1) := by decide +kernel
theorem dX5_byteAt_35 : decode cX5_byteAt 35 = .ok (.ireturn, 1) := by decide +kernel

set_option maxRecDepth 100000 in
set_option maxHeartbeats 4000000 in
theorem c_X5_byteAt (S : Hp) (ad : Nat → Nat) (hW : Wd ad S) (B : Nat → Nat) (n : Nat) (hR_500_ad35 : hR S 500 (ad 35) = some (ad 2)) (hI_502_ad35 : hI S 502 (ad 35) = nI n) (hs : STR (aI S (ad 2)) B n) (hn : n ≤ 12000) (i9 : Nat) (hi : i9 < n) : Ct 1 yX5_byteAt cX5_byteAt 2 (some .int) 0 0 [.ref (ad 35), .int (nI i9)] S (fun r S' => r = some (.int (nI (B i9))) ∧ S' = S) := by
  refine ct_of (by decide) (Nat.le_of_ble_eq_true rfl) fun x hn9 C M hm9 => ?_
  have C : CB x RX5 cX5_byteAt := C
  refine J.eq (lv' := [(0, .ref (ad 35)), (1, .int (nI i9))]) rfl rfl rfl ?_
  refine j_iload_n C dX5_byteAt_0 rfl 1 rfl ?_
  refine j_if_lt (tgt := 34) C dX5_byteAt_1 (by decide) (fun c_1 => absurd c_1 (nI_pos (by omega))) (fun c_1 => ?_)
  refine j_iload_n C dX5_byteAt_4 rfl 1 rfl ?_
  refine j_aload_n C dX5_byteAt_5 rfl 0 rfl ?_
  refine j_geti (f := 502) (v := nI n) C flX5_28 dX5_byteAt_6 (wm_35 (S := S) hW) (wk_35 (S := S) hW) (by decide) (by decide) rfl hI_502_ad35 ?_
  refine j_ic_ge (tgt := 34) C dX5_byteAt_9 (by decide) (fun c_9 => absurd c_9 (nI_ge (by omega) (by omega))) (fun c_9 => ?_)
  refine j_iload_n C dX5_byteAt_12 rfl 1 rfl ?_
  refine j_aload_n C dX5_byteAt_13 rfl 0 rfl ?_
  show J _ _ _ _ _ 14 _
  refine j_getr (f := 500) (v := (ad 2)) C flX5_9 dX5_byteAt_14 (wm_35 (S := S) hW) (wk_35 (S := S) hW) (by decide) rfl hR_500_ad35 ?_
  refine j_alen (v := 12000) C dX5_byteAt_17 (wm_2 (S := S) hW) (wk_2 (S := S) hW) (by decide) (by decide) (len_of (n := 12000) (wl_2 (S := S) hW) (by decide)) ?_
  refine j_ic_ge (tgt := 34) C dX5_byteAt_18 (by decide) (fun c_18 => absurd c_18 (nI_ge (b := 12000) (by omega) (by omega))) (fun c_18 => ?_)
  refine j_aload_n C dX5_byteAt_21 rfl 0 rfl ?_
  refine j_getr (f := 500) (v := (ad 2)) C flX5_9 dX5_byteAt_22 (wm_35 (S := S) hW) (wk_35 (S := S) hW) (by decide) rfl hR_500_ad35 ?_
  refine j_iload_n C dX5_byteAt_25 rfl 1 rfl ?_
  refine j_bald (j := i9) (v := nI (B i9)) C dX5_byteAt_26 (wm_2 (S := S) hW) (wk_2 (S := S) hW) (inr_of (n := 12000) (wl_2 (S := S) hW) (vp_in_nI (by omega) (by omega))) (nI_clamp (by omega)) (hs i9 hi).1 ?_
  refine j_sipush (v := 255) C dX5_byteAt_27 (by decide) ?_
  show J _ _ _ _ _ 30 _
  refine j_iand (v := nI (B i9)) C dX5_byteAt_30 (and255 (Nat.lt_trans (hs i9 hi).2 (by decide))) ?_
  refine j_goto (tgt := 35) C dX5_byteAt_31 (by decide) ?_
  exact j_iret C M dX5_byteAt_35 (by decide) (by decide) ⟨rfl, rfl⟩

theorem dX5_next_0 : decode cX5_next 0 = .ok (.aload_n 0, 1) := by decide +kernel
theorem dX5_next_1 : decode cX5_next 1 = .ok (.aload_n 0, 1) := by decide +kernel
theorem dX5_next_2 : decode cX5_next 2 = .ok (.getfield 21, 3) := by decide +kernel
theorem dX5_next_5 : decode cX5_next 5 = .ok (.invokevirtual 34, 3) := by decide +kernel
theorem dX5_next_8 : decode cX5_next 8 = .ok (.ireturn, 1) := by decide +kernel

set_option maxRecDepth 100000 in
set_option maxHeartbeats 4000000 in
theorem c_X5_next (S : Hp) (ad : Nat → Nat) (hW : Wd ad S) (B : Nat → Nat) (n : Nat) (hR_500_ad35 : hR S 500 (ad 35) = some (ad 2)) (hI_502_ad35 : hI S 502 (ad 35) = nI n) (hs : STR (aI S (ad 2)) B n) (hn : n ≤ 12000) (p9 : Nat) (hI_501_ad35 : hI S 501 (ad 35) = nI p9) (hp : p9 < n) : Ct 2 yX5_next cX5_next 1 (some .int) 0 0 [.ref (ad 35)] S (fun r S' => r = some (.int (nI (B p9))) ∧ S' = S) := by
  refine ct_of (by decide) (Nat.le_of_ble_eq_true rfl) fun x hn9 C M hm9 => ?_
  have C : CB x RX5 cX5_next := C
  refine J.eq (lv' := [(0, .ref (ad 35))]) rfl rfl rfl ?_
  refine j_aload_n C dX5_next_0 rfl 0 rfl ?_
  refine j_aload_n C dX5_next_1 rfl 0 rfl ?_
  refine j_geti (f := 501) (v := nI p9) C flX5_21 dX5_next_2 (wm_35 (S := S) hW) (wk_35 (S := S) hW) (by decide) (by decide) rfl hI_501_ad35 ?_
  refine j_callV (ci := 5) C [.int (nI p9)] [] mlX5_34 mcX5_byteAt (c_X5_byteAt S ad hW B n hR_500_ad35 hI_502_ad35 hs hn p9 (by omega)) (wm_35 (S := S) hW) (wk_35 (S := S) hW) rfl (M.rm (by decide) (by decide) (Nat.le_of_ble_eq_true rfl) (Nat.le_of_ble_eq_true rfl)) rfl rfl (Nat.le_of_ble_eq_true rfl) dX5_next_5 (fun r_1 S_2 hp_3 => ?_)
  obtain ⟨rfl, e_4⟩ := hp_3
  refine J.eq (S' := S) (st' := [.int (nI (B p9))]) (lv' := [(0, .ref (ad 35))]) e_4 rfl rfl ?_
  exact j_iret C M dX5_next_8 (Nat.le_of_ble_eq_true rfl) (Nat.le_of_ble_eq_true rfl) ⟨rfl, rfl⟩

theorem lt_lit {a b : Nat} (h : a < b) (hb : b < 2 ^ 31) : nI a < nI b := nI_lt h hb

theorem dX5_isDigit_0 : decode cX5_isDigit 0 = .ok (.aload_n 0, 1) := by decide +kernel
theorem dX5_isDigit_1 : decode cX5_isDigit 1 = .ok (.iload_n 1, 1) := by decide +kernel
theorem dX5_isDigit_2 : decode cX5_isDigit 2 = .ok (.invokevirtual 34, 3) := by decide +kernel
theorem dX5_isDigit_5 : decode cX5_isDigit 5 = .ok (.istore_n 2, 1) := by decide +kernel
theorem dX5_isDigit_6 : decode cX5_isDigit 6 = .ok (.iload_n 2, 1) := by decide +kernel
theorem dX5_isDigit_7 : decode cX5_isDigit 7 = .ok (.bipush 48, 2) := by decide +kernel
theorem dX5_isDigit_9 : decode cX5_isDigit 9 = .ok (.if_icmp .lt 13, 3) := by decide +kernel
theorem dX5_isDigit_12 : decode cX5_isDigit 12 = .ok (.iload_n 2, 1) := by decide +kernel
theorem dX5_isDigit_13 : decode cX5_isDigit 13 = .ok (.bipush 57, 2) := by decide +kernel
theorem dX5_isDigit_15 : decode cX5_isDigit 15 = .ok (.if_icmp .gt 7, 3) := by decide +kernel
theorem dX5_isDigit_18 : decode cX5_isDigit 18 = .ok (.iconst 1, 1) := by decide +kernel
theorem dX5_isDigit_19 : decode cX5_isDigit 19 = .ok (.goto 4, 3) := by decide +kernel
theorem dX5_isDigit_22 : decode cX5_isDigit 22 = .ok (.iconst 0, 1) := by decide +kernel
theorem dX5_isDigit_23 : decode cX5_isDigit 23 = .ok (.ireturn, 1) := by decide +kernel

set_option maxRecDepth 100000 in
set_option maxHeartbeats 4000000 in
theorem c_dig1 (S : Hp) (ad : Nat → Nat) (hW : Wd ad S) (B : Nat → Nat) (n : Nat) (hR_500_ad35 : hR S 500 (ad 35) = some (ad 2)) (hI_502_ad35 : hI S 502 (ad 35) = nI n) (hs : STR (aI S (ad 2)) B n) (hn : n ≤ 12000) (i9 : Nat) (hi : i9 < n) (h1 : 48 ≤ B i9) (h2 : B i9 ≤ 57) : Ct 2 yX5_isDigit cX5_isDigit 3 (some .boolean) 0 0 [.ref (ad 35), .int (nI i9)] S (fun r S' => r = some (.int 1) ∧ S' = S) := by
  refine ct_of (by decide) (Nat.le_of_ble_eq_true rfl) fun x hn9 C M hm9 => ?_
  have C : CB x RX5 cX5_isDigit := C
  refine J.eq (lv' := [(0, .ref (ad 35)), (1, .int (nI i9))]) rfl rfl rfl ?_
  refine j_aload_n C dX5_isDigit_0 rfl 0 rfl ?_
  refine j_iload_n C dX5_isDigit_1 rfl 1 rfl ?_
  refine j_callV (ci := 5) C [.int (nI i9)] [] mlX5_34 mcX5_byteAt (c_X5_byteAt S ad hW B n hR_500_ad35 hI_502_ad35 hs hn i9 (by omega)) (wm_35 (S := S) hW) (wk_35 (S := S) hW) rfl (M.rm (by decide) (by decide) (Nat.le_of_ble_eq_true rfl) (Nat.le_of_ble_eq_true rfl)) rfl rfl (Nat.le_of_ble_eq_true rfl) dX5_isDigit_2 (fun r_1 S_2 hp_3 => ?_)
  obtain ⟨rfl, e_4⟩ := hp_3
  refine J.eq (S' := S) (st' := [.int (nI (B i9))]) (lv' := [(0, .ref (ad 35)), (1, .int (nI i9))]) e_4 rfl rfl ?_
  refine j_istore_n (lv' := [(2, .int (nI (B i9))), (0, .ref (ad 35)), (1, .int (nI i9))]) C dX5_isDigit_5 rfl (by rw [hn9]; decide) rfl ?_
  refine j_iload_n C dX5_isDigit_6 rfl 0 rfl ?_
  refine j_bipush (v := 48) C dX5_isDigit_7 (by decide) ?_
  refine j_ic_lt (tgt := 22) C dX5_isDigit_9 (by decide) (fun c_9 => absurd c_9 (nI_nlt (a := B i9) (b := 48) h1 (by omega))) (fun c_9 => ?_)
  refine j_iload_n C dX5_isDigit_12 rfl 0 rfl ?_
  show J _ _ _ _ _ 13 _
  refine j_bipush (v := 57) C dX5_isDigit_13 (by decide) ?_
  refine j_ic_gt (tgt := 22) C dX5_isDigit_15 (by decide) (fun c_15 => absurd c_15 (nI_nlt (a := 57) (b := B i9) h2 (by decide))) (fun c_15 => ?_)
  refine j_iconst (v := 1) C dX5_isDigit_18 (by decide) ?_
  refine j_goto (tgt := 23) C dX5_isDigit_19 (by decide) ?_
  exact j_zret C M rfl dX5_isDigit_23 (Nat.le_of_ble_eq_true rfl) (Nat.le_of_ble_eq_true rfl) ⟨rfl, rfl⟩

set_option maxRecDepth 100000 in
set_option maxHeartbeats 4000000 in
theorem c_dig0 (S : Hp) (ad : Nat → Nat) (hW : Wd ad S) (B : Nat → Nat) (n : Nat) (hR_500_ad35 : hR S 500 (ad 35) = some (ad 2)) (hI_502_ad35 : hI S 502 (ad 35) = nI n) (hs : STR (aI S (ad 2)) B n) (hn : n ≤ 12000) (i9 : Nat) (hi : i9 < n) (h1 : 57 < B i9) : Ct 2 yX5_isDigit cX5_isDigit 3 (some .boolean) 0 0 [.ref (ad 35), .int (nI i9)] S (fun r S' => r = some (.int 0) ∧ S' = S) := by
  refine ct_of (by decide) (Nat.le_of_ble_eq_true rfl) fun x hn9 C M hm9 => ?_
  have C : CB x RX5 cX5_isDigit := C
  refine J.eq (lv' := [(0, .ref (ad 35)), (1, .int (nI i9))]) rfl rfl rfl ?_
  refine j_aload_n C dX5_isDigit_0 rfl 0 rfl ?_
  refine j_iload_n C dX5_isDigit_1 rfl 1 rfl ?_
  refine j_callV (ci := 5) C [.int (nI i9)] [] mlX5_34 mcX5_byteAt (c_X5_byteAt S ad hW B n hR_500_ad35 hI_502_ad35 hs hn i9 (by omega)) (wm_35 (S := S) hW) (wk_35 (S := S) hW) rfl (M.rm (by decide) (by decide) (Nat.le_of_ble_eq_true rfl) (Nat.le_of_ble_eq_true rfl)) rfl rfl (Nat.le_of_ble_eq_true rfl) dX5_isDigit_2 (fun r_1 S_2 hp_3 => ?_)
  obtain ⟨rfl, e_4⟩ := hp_3
  refine J.eq (S' := S) (st' := [.int (nI (B i9))]) (lv' := [(0, .ref (ad 35)), (1, .int (nI i9))]) e_4 rfl rfl ?_
  refine j_istore_n (lv' := [(2, .int (nI (B i9))), (0, .ref (ad 35)), (1, .int (nI i9))]) C dX5_isDigit_5 rfl (by rw [hn9]; decide) rfl ?_
  refine j_iload_n C dX5_isDigit_6 rfl 0 rfl ?_
  refine j_bipush (v := 48) C dX5_isDigit_7 (by decide) ?_
  refine j_ic_lt (tgt := 22) C dX5_isDigit_9 (by decide) (fun c_9 => absurd c_9 (nI_nlt (a := B i9) (b := 48) (by omega) (by have := (hs i9 hi).2; omega))) (fun c_9 => ?_)
  refine j_iload_n C dX5_isDigit_12 rfl 0 rfl ?_
  show J _ _ _ _ _ 13 _
  refine j_bipush (v := 57) C dX5_isDigit_13 (by decide) ?_
  refine j_ic_gt (tgt := 22) C dX5_isDigit_15 (by decide) (fun c_15 => ?_) (fun c_15 => absurd (nI_lt (a := 57) (b := B i9) h1 (by have := (hs i9 hi).2; omega)) c_15)
  refine j_iconst (v := 0) C dX5_isDigit_22 (by decide) ?_
  exact j_zret C M rfl dX5_isDigit_23 (Nat.le_of_ble_eq_true rfl) (Nat.le_of_ble_eq_true rfl) ⟨rfl, rfl⟩

theorem dX5_readValue_0 : decode cX5_readValue 0 = .ok (.aload_n 0, 1) := by decide +kernel
theorem dX5_readValue_1 : decode cX5_readValue 1 = .ok (.getfield 21, 3) := by decide +kernel
theorem dX5_readValue_4 : decode cX5_readValue 4 = .ok (.istore_n 1, 1) := by decide +kernel
theorem dX5_readValue_5 : decode cX5_readValue 5 = .ok (.aload_n 0, 1) := by decide +kernel
theorem dX5_readValue_6 : decode cX5_readValue 6 = .ok (.iload_n 1, 1) := by decide +kernel
theorem dX5_readValue_7 : decode cX5_readValue 7 = .ok (.invokevirtual 34, 3) := by decide +kernel
theorem dX5_readValue_10 : decode cX5_readValue 10 = .ok (.istore_n 2, 1) := by decide +kernel
theorem dX5_readValue_11 : decode cX5_readValue 11 = .ok (.aload_n 0, 1) := by decide +kernel
theorem dX5_readValue_12 : decode cX5_readValue 12 = .ok (.iload_n 2, 1) := by decide +kernel
theorem dX5_readValue_13 : decode cX5_readValue 13 = .ok (.bipush 45, 2) := by decide +kernel
theorem dX5_readValue_15 : decode cX5_readValue 15 = .ok (.if_icmp .ne 7, 3) := by decide +kernel
theorem dX5_readValue_18 : decode cX5_readValue 18 = .ok (.iconst 1, 1) := by decide +kernel
theorem dX5_readValue_19 : decode cX5_readValue 19 = .ok (.goto 4, 3) := by decide +kernel
theorem dX5_readValue_22 : decode cX5_readValue 22 = .ok (.iconst 0, 1) := by decide +kernel
theorem dX5_readValue_23 : decode cX5_readValue 23 = .ok (.putfield 38, 3) := by decide +kernel
theorem dX5_readValue_26 : decode cX5_readValue 26 = .ok (.aload_n 0, 1) := by decide +kernel
theorem dX5_readValue_27 : decode cX5_readValue 27 = .ok (.aload_n 0, 1) := by decide +kernel
theorem dX5_readValue_28 : decode cX5_readValue 28 = .ok (.getfield 38, 3) := by decide +kernel
theorem dX5_readValue_31 : decode cX5_readValue 31 = .ok (.ifCond .ne 9, 3) := by decide +kernel
theorem dX5_readValue_34 : decode cX5_readValue 34 = .ok (.iload_n 2, 1) := by decide +kernel
theorem dX5_readValue_35 : decode cX5_readValue 35 = .ok (.bipush 43, 2) := by decide +kernel
theorem dX5_readValue_37 : decode cX5_readValue 37 = .ok (.if_icmp .ne 7, 3) := by decide +kernel
theorem dX5_readValue_40 : decode cX5_readValue 40 = .ok (.iconst 1, 1) := by decide +kernel
theorem dX5_readValue_41 : decode cX5_readValue 41 = .ok (.goto 4, 3) := by decide +kernel
theorem dX5_readValue_44 : decode cX5_readValue 44 = .ok (.iconst 0, 1) := by decide +kernel
theorem dX5_readValue_45 : decode cX5_readValue 45 = .ok (.putfield 42, 3) := by decide +kernel
theorem dX5_readValue_48 : decode cX5_readValue 48 = .ok (.aload_n 0, 1) := by decide +kernel
theorem dX5_readValue_49 : decode cX5_readValue 49 = .ok (.getfield 42, 3) := by decide +kernel
theorem dX5_readValue_52 : decode cX5_readValue 52 = .ok (.ifCond .eq 6, 3) := by decide +kernel
theorem dX5_readValue_55 : decode cX5_readValue 55 = .ok (.iinc 1 1, 3) := by decide +kernel
theorem dX5_readValue_58 : decode cX5_readValue 58 = .ok (.aload_n 0, 1) := by decide +kernel
theorem dX5_readValue_59 : decode cX5_readValue 59 = .ok (.iconst 0, 1) := by decide +kernel
theorem dX5_readValue_60 : decode cX5_readValue 60 = .ok (.putfield 45, 3) := by decide +kernel
theorem dX5_readValue_63 : decode cX5_readValue 63 = .ok (.aload_n 0, 1) := by decide +kernel
theorem dX5_readValue_64 : decode cX5_readValue 64 = .ok (.iconst 0, 1) := by decide +kernel
theorem dX5_readValue_65 : decode cX5_readValue 65 = .ok (.putfield 48, 3) := by decide +kernel
theorem dX5_readValue_68 : decode cX5_readValue 68 = .ok (.iload_n 1, 1) := by decide +kernel
theorem dX5_readValue_69 : decode cX5_readValue 69 = .ok (.aload_n 0, 1) := by decide +kernel
theorem dX5_readValue_70 : decode cX5_readValue 70 = .ok (.getfield 28, 3) := by decide +kernel
theorem dX5_readValue_73 : decode cX5_readValue 73 = .ok (.if_icmp .ge 43, 3) := by decide +kernel
theorem dX5_readValue_76 : decode cX5_readValue 76 = .ok (.aload_n 0, 1) := by decide +kernel
theorem dX5_readValue_77 : decode cX5_readValue 77 = .ok (.iload_n 1, 1) := by decide +kernel
theorem dX5_readValue_78 : decode cX5_readValue 78 = .ok (.invokevirtual 51, 3) := by decide +kernel
theorem dX5_readValue_81 : decode cX5_readValue 81 = .ok (.ifCond .eq 35, 3) := by decide +kernel
theorem dX5_readValue_84 : decode cX5_readValue 84 = .ok (.aload_n 0, 1) := by decide +kernel
theorem dX5_readValue_85 : decode cX5_readValue 85 = .ok (.bipush 10, 2) := by decide +kernel
theorem dX5_readValue_87 : decode cX5_readValue 87 = .ok (.aload_n 0, 1) := by decide +kernel
theorem dX5_readValue_88 : decode cX5_readValue 88 = .ok (.getfield 45, 3) := by decide +kernel
theorem dX5_readValue_91 : decode cX5_readValue 91 = .ok (.imul, 1) := by decide +kernel
theorem dX5_readValue_92 : decode cX5_readValue 92 = .ok (.aload_n 0, 1) := by decide +kernel
theorem dX5_readValue_93 : decode cX5_readValue 93 = .ok (.iload_n 1, 1) := by decide +kernel
theorem dX5_readValue_94 : decode cX5_readValue 94 = .ok (.invokevirtual 34, 3) := by decide +kernel
theorem dX5_readValue_97 : decode cX5_readValue 97 = .ok (.iadd, 1) := by decide +kernel
theorem dX5_readValue_98 : decode cX5_readValue 98 = .ok (.bipush 48, 2) := by decide +kernel
theorem dX5_readValue_100 : decode cX5_readValue 100 = .ok (.isub, 1) := by decide +kernel
theorem dX5_readValue_101 : decode cX5_readValue 101 = .ok (.sipush 32767, 3) := by decide +kernel
theorem dX5_readValue_104 : decode cX5_readValue 104 = .ok (.invokestatic 25, 3) := by decide +kernel
theorem dX5_readValue_107 : decode cX5_readValue 107 = .ok (.putfield 45, 3) := by decide +kernel
theorem dX5_readValue_110 : decode cX5_readValue 110 = .ok (.iinc 1 1, 3) := by decide +kernel
theorem dX5_readValue_113 : decode cX5_readValue 113 = .ok (.goto (-45), 3) := by decide +kernel
theorem dX5_readValue_116 : decode cX5_readValue 116 = .ok (.aload_n 0, 1) := by decide +kernel
theorem dX5_readValue_117 : decode cX5_readValue 117 = .ok (.iload_n 1, 1) := by decide +kernel
theorem dX5_readValue_118 : decode cX5_readValue 118 = .ok (.invokevirtual 34, 3) := by decide +kernel
theorem dX5_readValue_121 : decode cX5_readValue 121 = .ok (.bipush 46, 2) := by decide +kernel
theorem dX5_readValue_123 : decode cX5_readValue 123 = .ok (.if_icmp .ne 56, 3) := by decide +kernel
theorem dX5_readValue_126 : decode cX5_readValue 126 = .ok (.iinc 1 1, 3) := by decide +kernel
theorem dX5_readValue_129 : decode cX5_readValue 129 = .ok (.sipush 1000, 3) := by decide +kernel
theorem dX5_readValue_132 : decode cX5_readValue 132 = .ok (.istore_n 3, 1) := by decide +kernel
theorem dX5_readValue_133 : decode cX5_readValue 133 = .ok (.iload_n 1, 1) := by decide +kernel
theorem dX5_readValue_134 : decode cX5_readValue 134 = .ok (.aload_n 0, 1) := by decide +kernel
theorem dX5_readValue_135 : decode cX5_readValue 135 = .ok (.getfield 28, 3) := by decide +kernel
theorem dX5_readValue_138 : decode cX5_readValue 138 = .ok (.if_icmp .ge 41, 3) := by decide +kernel
theorem dX5_readValue_141 : decode cX5_readValue 141 = .ok (.aload_n 0, 1) := by decide +kernel
theorem dX5_readValue_142 : decode cX5_readValue 142 = .ok (.iload_n 1, 1) := by decide +kernel
theorem dX5_readValue_143 : decode cX5_readValue 143 = .ok (.invokevirtual 51, 3) := by decide +kernel
theorem dX5_readValue_146 : decode cX5_readValue 146 = .ok (.ifCond .eq 33, 3) := by decide +kernel
theorem dX5_readValue_149 : decode cX5_readValue 149 = .ok (.aload_n 0, 1) := by decide +kernel
theorem dX5_readValue_150 : decode cX5_readValue 150 = .ok (.dup, 1) := by decide +kernel
theorem dX5_readValue_151 : decode cX5_readValue 151 = .ok (.getfield 48, 3) := by decide +kernel
theorem dX5_readValue_154 : decode cX5_readValue 154 = .ok (.aload_n 0, 1) := by decide +kernel
theorem dX5_readValue_155 : decode cX5_readValue 155 = .ok (.iload_n 1, 1) := by decide +kernel
theorem dX5_readValue_156 : decode cX5_readValue 156 = .ok (.invokevirtual 34, 3) := by decide +kernel
theorem dX5_readValue_159 : decode cX5_readValue 159 = .ok (.bipush 48, 2) := by decide +kernel
theorem dX5_readValue_161 : decode cX5_readValue 161 = .ok (.isub, 1) := by decide +kernel
theorem dX5_readValue_162 : decode cX5_readValue 162 = .ok (.iload_n 3, 1) := by decide +kernel
theorem dX5_readValue_163 : decode cX5_readValue 163 = .ok (.imul, 1) := by decide +kernel
theorem dX5_readValue_164 : decode cX5_readValue 164 = .ok (.iadd, 1) := by decide +kernel
theorem dX5_readValue_165 : decode cX5_readValue 165 = .ok (.putfield 48, 3) := by decide +kernel
theorem dX5_readValue_168 : decode cX5_readValue 168 = .ok (.iload_n 3, 1) := by decide +kernel
theorem dX5_readValue_169 : decode cX5_readValue 169 = .ok (.bipush 10, 2) := by decide +kernel
theorem dX5_readValue_171 : decode cX5_readValue 171 = .ok (.idiv, 1) := by decide +kernel
theorem dX5_readValue_172 : decode cX5_readValue 172 = .ok (.istore_n 3, 1) := by decide +kernel
theorem dX5_readValue_173 : decode cX5_readValue 173 = .ok (.iinc 1 1, 3) := by decide +kernel
theorem dX5_readValue_176 : decode cX5_readValue 176 = .ok (.goto (-43), 3) := by decide +kernel
theorem dX5_readValue_179 : decode cX5_readValue 179 = .ok (.iload_n 1, 1) := by decide +kernel
theorem dX5_readValue_180 : decode cX5_readValue 180 = .ok (.aload_n 0, 1) := by decide +kernel
theorem dX5_readValue_181 : decode cX5_readValue 181 = .ok (.getfield 21, 3) := by decide +kernel
theorem dX5_readValue_184 : decode cX5_readValue 184 = .ok (.isub, 1) := by decide +kernel
theorem dX5_readValue_185 : decode cX5_readValue 185 = .ok (.ireturn, 1) := by decide +kernel

set_option maxRecDepth 100000 in
set_option maxHeartbeats 4000000 in
theorem c_rv1 (S : Hp) (ad : Nat → Nat) (hW : Wd ad S) (B : Nat → Nat) (n : Nat) (hR_500_ad35 : hR S 500 (ad 35) = some (ad 2)) (hI_502_ad35 : hI S 502 (ad 35) = nI n) (hs : STR (aI S (ad 2)) B n) (hn : n ≤ 12000) (p9 : Nat) (v9 : Nat) (hI_501_ad35 : hI S 501 (ad 35) = nI p9) (hp : p9 + 1 < n) (hb0 : B p9 = 48 + v9) (hv : v9 < 10) (hbl : 57 < B (p9 + 1)) : Ct 3 yX5_readValue cX5_readValue 4 (some .int) 0 0 [.ref (ad 35)] S (fun r S' => r = some (.int (nI ((p9 + 1) - p9))) ∧ S' = (sI (sI (sI (sI (sI S 508 (ad 35) 0) 507 (ad 35) 0) 509 (ad 35) 0) 510 (ad 35) 0) 509 (ad 35) (nI v9))) := by
  refine ct_of (by decide) (Nat.le_of_ble_eq_true rfl) fun x hn9 C M hm9 => ?_
  have C : CB x RX5 cX5_readValue := C
  refine J.eq (lv' := [(0, .ref (ad 35))]) rfl rfl rfl ?_
  refine j_aload_n C dX5_readValue_0 rfl 0 rfl ?_
  refine j_geti (f := 501) (v := nI p9) C flX5_21 dX5_readValue_1 (wm_35 (S := S) hW) (wk_35 (S := S) hW) (by decide) (by decide) rfl hI_501_ad35 ?_
  refine j_istore_n (lv' := [(1, .int (nI p9)), (0, .ref (ad 35))]) C dX5_readValue_4 rfl (by rw [hn9]; decide) rfl ?_
  refine j_aload_n C dX5_readValue_5 rfl 1 rfl ?_
  refine j_iload_n C dX5_readValue_6 rfl 0 rfl ?_
  refine j_callV (ci := 5) C [.int (nI p9)] [] mlX5_34 mcX5_byteAt (c_X5_byteAt S ad hW B n hR_500_ad35 hI_502_ad35 hs hn p9 (by omega)) (wm_35 (S := S) hW) (wk_35 (S := S) hW) rfl (M.rm (by decide) (by decide) (Nat.le_of_ble_eq_true rfl) (Nat.le_of_ble_eq_true rfl)) rfl rfl (Nat.le_of_ble_eq_true rfl) dX5_readValue_7 (fun r_1 S_2 hp_3 => ?_)
  obtain ⟨rfl, e_4⟩ := hp_3
  refine J.eq (S' := S) (st' := [.int (nI (B p9))]) (lv' := [(1, .int (nI p9)), (0, .ref (ad 35))]) e_4 rfl rfl ?_
  refine j_istore_n (lv' := [(2, .int (nI (B p9))), (1, .int (nI p9)), (0, .ref (ad 35))]) C dX5_readValue_10 rfl (by rw [hn9]; decide) rfl ?_
  refine j_aload_n C dX5_readValue_11 rfl 2 rfl ?_
  show J _ _ _ _ _ 12 _
  refine j_iload_n C dX5_readValue_12 rfl 0 rfl ?_
  refine j_bipush (v := 45) C dX5_readValue_13 (by decide) ?_
  refine j_ic_ne (tgt := 22) C dX5_readValue_15 (by decide) (fun c_15 => ?_) (fun c_15 => absurd c_15 (fun h9 => absurd ((nI_eq (b := 45) (by omega) (by omega)).mp h9) (by omega)))
  refine j_iconst (v := 0) C dX5_readValue_22 (by decide) ?_
  refine j_putz (f := 508) C flX5_38 (by decide) rfl rfl (by decide) dX5_readValue_23 (wm_35 (S := S) hW) (wk_35 (S := S) hW) rfl ?_
  refine j_aload_n C dX5_readValue_26 rfl 2 rfl ?_
  refine j_aload_n C dX5_readValue_27 rfl 2 rfl ?_
  refine j_geti (f := 508) (v := 0) C flX5_38 dX5_readValue_28 (wm_35 (S := S) hW) (wk_35 (S := S) hW) (by decide) (by decide) rfl (rd_sI (S := S) (g := 508) (a := (ad 35)) (v := 0)) ?_
  show J _ _ _ _ _ 31 _
  refine j_if_ne (tgt := 40) C dX5_readValue_31 (by decide) (fun c9 => absurd c9 (by decide)) (fun c9 => ?_)
  refine j_iload_n C dX5_readValue_34 rfl 0 rfl ?_
  refine j_bipush (v := 43) C dX5_readValue_35 (by decide) ?_
  refine j_ic_ne (tgt := 44) C dX5_readValue_37 (by decide) (fun c_37 => ?_) (fun c_37 => absurd c_37 (fun h9 => absurd ((nI_eq (b := 43) (by omega) (by omega)).mp h9) (by omega)))
  refine j_iconst (v := 0) C dX5_readValue_44 (by decide) ?_
  refine j_putz (f := 507) C flX5_42 (by decide) rfl rfl (by decide) dX5_readValue_45 (wm_35 (S := S) hW) (wk_35 (S := S) hW) rfl ?_
  refine j_aload_n C dX5_readValue_48 rfl 2 rfl ?_
  refine j_geti (f := 507) (v := 0) C flX5_42 dX5_readValue_49 (wm_35 (S := S) hW) (wk_35 (S := S) hW) (by decide) (by decide) rfl (rd_sI (S := (sI S 508 (ad 35) 0)) (g := 507) (a := (ad 35)) (v := 0)) ?_
  show J _ _ _ _ _ 52 _
  refine j_if_eq (tgt := 58) C dX5_readValue_52 (by decide) (fun c9 => ?_) (fun c9 => absurd (by decide) c9)
  refine j_aload_n C dX5_readValue_58 rfl 2 rfl ?_
  refine j_iconst (v := 0) C dX5_readValue_59 (by decide) ?_
  refine j_puti (f := 509) C flX5_45 (by decide) rfl rfl dX5_readValue_60 (wm_35 (S := S) hW) (wk_35 (S := S) hW) rfl ?_
  refine j_aload_n C dX5_readValue_63 rfl 2 rfl ?_
  refine j_iconst (v := 0) C dX5_readValue_64 (by decide) ?_
  refine j_puti (f := 510) C flX5_48 (by decide) rfl rfl dX5_readValue_65 (wm_35 (S := S) hW) (wk_35 (S := S) hW) rfl ?_
  refine j_iload_n C dX5_readValue_68 rfl 1 rfl ?_
  show J _ _ _ _ _ 69 _
  refine j_aload_n C dX5_readValue_69 rfl 2 rfl ?_
  refine j_geti (f := 502) (v := nI n) C flX5_28 dX5_readValue_70 (wm_35 (S := S) hW) (wk_35 (S := S) hW) (by decide) (by decide) rfl (rd_sIf (S := (sI (sI (sI S 508 (ad 35) 0) 507 (ad 35) 0) 509 (ad 35) 0)) (g := 510) (a := (ad 35)) (v := 0) (by decide) (rd_sIf (S := (sI (sI S 508 (ad 35) 0) 507 (ad 35) 0)) (g := 509) (a := (ad 35)) (v := 0) (by decide) (rd_sIf (S := (sI S 508 (ad 35) 0)) (g := 507) (a := (ad 35)) (v := 0) (by decide) (rd_sIf (S := S) (g := 508) (a := (ad 35)) (v := 0) (by decide) hI_502_ad35)))) ?_
  refine j_ic_ge (tgt := 116) C dX5_readValue_73 (by decide) (fun c_73 => absurd c_73 (nI_ge (by omega) (by omega))) (fun c_73 => ?_)
  refine j_aload_n C dX5_readValue_76 rfl 2 rfl ?_
  refine j_iload_n C dX5_readValue_77 rfl 1 rfl ?_
  refine j_callV (ci := 5) C [.int (nI p9)] [] mlX5_51 mcX5_isDigit (c_dig1 (sI (sI (sI (sI S 508 (ad 35) 0) 507 (ad 35) 0) 509 (ad 35) 0) 510 (ad 35) 0) ad hW B n hR_500_ad35 (rd_sIf (S := (sI (sI (sI S 508 (ad 35) 0) 507 (ad 35) 0) 509 (ad 35) 0)) (g := 510) (a := (ad 35)) (v := 0) (by decide) (rd_sIf (S := (sI (sI S 508 (ad 35) 0) 507 (ad 35) 0)) (g := 509) (a := (ad 35)) (v := 0) (by decide) (rd_sIf (S := (sI S 508 (ad 35) 0)) (g := 507) (a := (ad 35)) (v := 0) (by decide) (rd_sIf (S := S) (g := 508) (a := (ad 35)) (v := 0) (by decide) hI_502_ad35)))) (by rw [show aI (sI (sI (sI (sI S 508 (ad 35) 0) 507 (ad 35) 0) 509 (ad 35) 0) 510 (ad 35) 0) (ad 2) = aI S (ad 2) from ((arI_sI (S := (sI (sI (sI S 508 (ad 35) 0) 507 (ad 35) 0) 509 (ad 35) 0))).trans ((arI_sI (S := (sI (sI S 508 (ad 35) 0) 507 (ad 35) 0))).trans ((arI_sI (S := (sI S 508 (ad 35) 0))).trans (arI_sI (S := S)))))]; exact hs) hn p9 (by omega) (by omega) (by omega)) (wm_35 (S := S) hW) (wk_35 (S := S) hW) rfl (M.rm (by decide) (by decide) (Nat.le_of_ble_eq_true rfl) (Nat.le_of_ble_eq_true rfl)) rfl rfl (Nat.le_of_ble_eq_true rfl) dX5_readValue_78 (fun r_5 S_6 hp_7 => ?_)
  obtain ⟨rfl, e_8⟩ := hp_7
  refine J.eq (S' := (sI (sI (sI (sI S 508 (ad 35) 0) 507 (ad 35) 0) 509 (ad 35) 0) 510 (ad 35) 0)) (st' := [.int 1]) (lv' := [(2, .int (nI (B p9))), (1, .int (nI p9)), (0, .ref (ad 35))]) e_8 rfl rfl ?_
  refine j_if_eq (tgt := 116) C dX5_readValue_81 (by decide) (fun c9 => absurd c9 (by decide)) (fun c9 => ?_)
  refine j_aload_n C dX5_readValue_84 rfl 2 rfl ?_
  show J _ _ _ _ _ 85 _
  refine j_bipush (v := 10) C dX5_readValue_85 (by decide) ?_
  refine j_aload_n C dX5_readValue_87 rfl 2 rfl ?_
  refine j_geti (f := 509) (v := 0) C flX5_45 dX5_readValue_88 (wm_35 (S := S) hW) (wk_35 (S := S) hW) (by decide) (by decide) rfl (rd_sIf (S := (sI (sI (sI S 508 (ad 35) 0) 507 (ad 35) 0) 509 (ad 35) 0)) (g := 510) (a := (ad 35)) (v := 0) (by decide) (rd_sI (S := (sI (sI S 508 (ad 35) 0) 507 (ad 35) 0)) (g := 509) (a := (ad 35)) (v := 0))) ?_
  refine j_imul (v := 0) C dX5_readValue_91 (by decide) ?_
  refine j_aload_n C dX5_readValue_92 rfl 2 rfl ?_
  refine j_iload_n C dX5_readValue_93 rfl 1 rfl ?_
  refine j_callV (ci := 5) C [.int (nI p9)] [.int 0, .ref (ad 35)] mlX5_34 mcX5_byteAt (c_X5_byteAt (sI (sI (sI (sI S 508 (ad 35) 0) 507 (ad 35) 0) 509 (ad 35) 0) 510 (ad 35) 0) ad hW B n hR_500_ad35 (rd_sIf (S := (sI (sI (sI S 508 (ad 35) 0) 507 (ad 35) 0) 509 (ad 35) 0)) (g := 510) (a := (ad 35)) (v := 0) (by decide) (rd_sIf (S := (sI (sI S 508 (ad 35) 0) 507 (ad 35) 0)) (g := 509) (a := (ad 35)) (v := 0) (by decide) (rd_sIf (S := (sI S 508 (ad 35) 0)) (g := 507) (a := (ad 35)) (v := 0) (by decide) (rd_sIf (S := S) (g := 508) (a := (ad 35)) (v := 0) (by decide) hI_502_ad35)))) (by rw [show aI (sI (sI (sI (sI S 508 (ad 35) 0) 507 (ad 35) 0) 509 (ad 35) 0) 510 (ad 35) 0) (ad 2) = aI S (ad 2) from ((arI_sI (S := (sI (sI (sI S 508 (ad 35) 0) 507 (ad 35) 0) 509 (ad 35) 0))).trans ((arI_sI (S := (sI (sI S 508 (ad 35) 0) 507 (ad 35) 0))).trans ((arI_sI (S := (sI S 508 (ad 35) 0))).trans (arI_sI (S := S)))))]; exact hs) hn p9 (by omega)) (wm_35 (S := S) hW) (wk_35 (S := S) hW) rfl (M.rm (by decide) (by decide) (Nat.le_of_ble_eq_true rfl) (Nat.le_of_ble_eq_true rfl)) rfl rfl (Nat.le_of_ble_eq_true rfl) dX5_readValue_94 (fun r_9 S_10 hp_11 => ?_)
  obtain ⟨rfl, e_12⟩ := hp_11
  refine J.eq (S' := (sI (sI (sI (sI S 508 (ad 35) 0) 507 (ad 35) 0) 509 (ad 35) 0) 510 (ad 35) 0)) (st' := [.int (nI (B p9)), .int 0, .ref (ad 35)]) (lv' := [(2, .int (nI (B p9))), (1, .int (nI p9)), (0, .ref (ad 35))]) e_12 rfl rfl ?_
  refine j_iadd (v := nI (0 + (B p9))) C dX5_readValue_97 (nI_add 0 (B p9)) ?_
  show J _ _ _ _ _ 98 _
  refine j_bipush (v := 48) C dX5_readValue_98 (by decide) ?_
  refine j_isub (v := nI ((0 + (B p9)) - 48)) C dX5_readValue_100 (pk_sub (a := (0 + (B p9))) (b := 48) (by omega)) ?_
  refine j_sipush (v := 32767) C dX5_readValue_101 (by decide) ?_
  refine j_callS C [.int (nI ((0 + (B p9)) - 48)), .int 32767] [.ref (ad 35)] mlX5_25 mcJ9_min_7cf53 (c_minn_1 (sI (sI (sI (sI S 508 (ad 35) 0) 507 (ad 35) 0) 509 (ad 35) 0) 510 (ad 35) 0) ((0 + (B p9)) - 48) 32767 (by omega) (by omega) (by omega)) (M.rm (by decide) (by decide) (Nat.le_of_ble_eq_true rfl) (Nat.le_of_ble_eq_true rfl)) rfl rfl (Nat.le_of_ble_eq_true rfl) dX5_readValue_104 (fun r_13 S_14 hp_15 => ?_)
  obtain ⟨rfl, e_16⟩ := hp_15
  refine J.eq (S' := (sI (sI (sI (sI S 508 (ad 35) 0) 507 (ad 35) 0) 509 (ad 35) 0) 510 (ad 35) 0)) (st' := [.int (nI ((0 + (B p9)) - 48)), .ref (ad 35)]) (lv' := [(2, .int (nI (B p9))), (1, .int (nI p9)), (0, .ref (ad 35))]) e_16 rfl rfl ?_
  refine J.eq (st' := .int (nI v9) :: [.ref (ad 35)]) rfl rfl (congrArg (fun z9 => Value.int z9 :: [.ref (ad 35)]) (congrArg nI (by omega))) ?_
  refine j_puti (f := 509) C flX5_45 (by decide) rfl rfl dX5_readValue_107 (wm_35 (S := S) hW) (wk_35 (S := S) hW) rfl ?_
  refine j_iinc (q := 1) (v := nI (p9 + 1)) (lv' := [(1, .int (nI (p9 + 1))), (2, .int (nI (B p9))), (0, .ref (ad 35))]) C dX5_readValue_110 rfl (nI_add p9 1) (by rw [hn9]; decide) rfl ?_
  refine j_goto (tgt := 68) C dX5_readValue_113 (by decide) ?_
  refine j_iload_n C dX5_readValue_68 rfl 0 rfl ?_
  show J _ _ _ _ _ 69 _
  refine j_aload_n C dX5_readValue_69 rfl 2 rfl ?_
  refine j_geti (f := 502) (v := nI n) C flX5_28 dX5_readValue_70 (wm_35 (S := S) hW) (wk_35 (S := S) hW) (by decide) (by decide) rfl (rd_sIf (S := (sI (sI (sI (sI S 508 (ad 35) 0) 507 (ad 35) 0) 509 (ad 35) 0) 510 (ad 35) 0)) (g := 509) (a := (ad 35)) (v := nI v9) (by decide) (rd_sIf (S := (sI (sI (sI S 508 (ad 35) 0) 507 (ad 35) 0) 509 (ad 35) 0)) (g := 510) (a := (ad 35)) (v := 0) (by decide) (rd_sIf (S := (sI (sI S 508 (ad 35) 0) 507 (ad 35) 0)) (g := 509) (a := (ad 35)) (v := 0) (by decide) (rd_sIf (S := (sI S 508 (ad 35) 0)) (g := 507) (a := (ad 35)) (v := 0) (by decide) (rd_sIf (S := S) (g := 508) (a := (ad 35)) (v := 0) (by decide) hI_502_ad35))))) ?_
  refine j_ic_ge (tgt := 116) C dX5_readValue_73 (by decide) (fun c_73 => absurd c_73 (nI_ge (by omega) (by omega))) (fun c_73 => ?_)
  refine j_aload_n C dX5_readValue_76 rfl 2 rfl ?_
  refine j_iload_n C dX5_readValue_77 rfl 0 rfl ?_
  obtain ⟨S_17, eS_18⟩ : ∃ S9 : Hp, S9 = (sI (sI (sI (sI (sI S 508 (ad 35) 0) 507 (ad 35) 0) 509 (ad 35) 0) 510 (ad 35) 0) 509 (ad 35) (nI v9)) := ⟨_, rfl⟩
  refine J.eq (S' := S_17) eS_18.symm rfl rfl ?_
  have hv_19 : hI S_17 501 (ad 35) = nI p9 := by rw [eS_18]; exact (rd_sIf (S := (sI (sI (sI (sI S 508 (ad 35) 0) 507 (ad 35) 0) 509 (ad 35) 0) 510 (ad 35) 0)) (g := 509) (a := (ad 35)) (v := nI v9) (by decide) (rd_sIf (S := (sI (sI (sI S 508 (ad 35) 0) 507 (ad 35) 0) 509 (ad 35) 0)) (g := 510) (a := (ad 35)) (v := 0) (by decide) (rd_sIf (S := (sI (sI S 508 (ad 35) 0) 507 (ad 35) 0)) (g := 509) (a := (ad 35)) (v := 0) (by decide) (rd_sIf (S := (sI S 508 (ad 35) 0)) (g := 507) (a := (ad 35)) (v := 0) (by decide) (rd_sIf (S := S) (g := 508) (a := (ad 35)) (v := 0) (by decide) hI_501_ad35)))))
  have hv_20 : hI S_17 502 (ad 35) = nI n := by rw [eS_18]; exact (rd_sIf (S := (sI (sI (sI (sI S 508 (ad 35) 0) 507 (ad 35) 0) 509 (ad 35) 0) 510 (ad 35) 0)) (g := 509) (a := (ad 35)) (v := nI v9) (by decide) (rd_sIf (S := (sI (sI (sI S 508 (ad 35) 0) 507 (ad 35) 0) 509 (ad 35) 0)) (g := 510) (a := (ad 35)) (v := 0) (by decide) (rd_sIf (S := (sI (sI S 508 (ad 35) 0) 507 (ad 35) 0)) (g := 509) (a := (ad 35)) (v := 0) (by decide) (rd_sIf (S := (sI S 508 (ad 35) 0)) (g := 507) (a := (ad 35)) (v := 0) (by decide) (rd_sIf (S := S) (g := 508) (a := (ad 35)) (v := 0) (by decide) hI_502_ad35)))))
  have hv_21 : hI S_17 507 (ad 35) = 0 := by rw [eS_18]; exact (rd_sIf (S := (sI (sI (sI (sI S 508 (ad 35) 0) 507 (ad 35) 0) 509 (ad 35) 0) 510 (ad 35) 0)) (g := 509) (a := (ad 35)) (v := nI v9) (by decide) (rd_sIf (S := (sI (sI (sI S 508 (ad 35) 0) 507 (ad 35) 0) 509 (ad 35) 0)) (g := 510) (a := (ad 35)) (v := 0) (by decide) (rd_sIf (S := (sI (sI S 508 (ad 35) 0) 507 (ad 35) 0)) (g := 509) (a := (ad 35)) (v := 0) (by decide) (rd_sI (S := (sI S 508 (ad 35) 0)) (g := 507) (a := (ad 35)) (v := 0)))))
  have hv_22 : hI S_17 508 (ad 35) = 0 := by rw [eS_18]; exact (rd_sIf (S := (sI (sI (sI (sI S 508 (ad 35) 0) 507 (ad 35) 0) 509 (ad 35) 0) 510 (ad 35) 0)) (g := 509) (a := (ad 35)) (v := nI v9) (by decide) (rd_sIf (S := (sI (sI (sI S 508 (ad 35) 0) 507 (ad 35) 0) 509 (ad 35) 0)) (g := 510) (a := (ad 35)) (v := 0) (by decide) (rd_sIf (S := (sI (sI S 508 (ad 35) 0) 507 (ad 35) 0)) (g := 509) (a := (ad 35)) (v := 0) (by decide) (rd_sIf (S := (sI S 508 (ad 35) 0)) (g := 507) (a := (ad 35)) (v := 0) (by decide) (rd_sI (S := S) (g := 508) (a := (ad 35)) (v := 0))))))
  have hv_23 : hI S_17 509 (ad 35) = nI v9 := by rw [eS_18]; exact (rd_sI (S := (sI (sI (sI (sI S 508 (ad 35) 0) 507 (ad 35) 0) 509 (ad 35) 0) 510 (ad 35) 0)) (g := 509) (a := (ad 35)) (v := nI v9))
  have hv_24 : hI S_17 510 (ad 35) = 0 := by rw [eS_18]; exact (rd_sIf (S := (sI (sI (sI (sI S 508 (ad 35) 0) 507 (ad 35) 0) 509 (ad 35) 0) 510 (ad 35) 0)) (g := 509) (a := (ad 35)) (v := nI v9) (by decide) (rd_sI (S := (sI (sI (sI S 508 (ad 35) 0) 507 (ad 35) 0) 509 (ad 35) 0)) (g := 510) (a := (ad 35)) (v := 0)))
  have hv_25 : hR S_17 500 (ad 35) = (some (ad 2)) := by rw [eS_18]; exact hR_500_ad35
  have hW_26 : Wd ad S_17 := by rw [eS_18]; exact (Wd.sI (Wd.sI (Wd.sI (Wd.sI (Wd.sI hW)))))
  have hx_27 : STR (aI S_17 (ad 2)) B n := by rw [eS_18]; exact (by rw [show aI (sI (sI (sI (sI (sI S 508 (ad 35) 0) 507 (ad 35) 0) 509 (ad 35) 0) 510 (ad 35) 0) 509 (ad 35) (nI v9)) (ad 2) = aI S (ad 2) from ((arI_sI (S := (sI (sI (sI (sI S 508 (ad 35) 0) 507 (ad 35) 0) 509 (ad 35) 0) 510 (ad 35) 0))).trans ((arI_sI (S := (sI (sI (sI S 508 (ad 35) 0) 507 (ad 35) 0) 509 (ad 35) 0))).trans ((arI_sI (S := (sI (sI S 508 (ad 35) 0) 507 (ad 35) 0))).trans ((arI_sI (S := (sI S 508 (ad 35) 0))).trans (arI_sI (S := S))))))]; exact hs)
  refine j_callV (ci := 5) C [.int (nI (p9 + 1))] [] mlX5_51 mcX5_isDigit (c_dig0 S_17 ad hW_26 B n hv_25 hv_20 hx_27 hn (p9 + 1) (by omega) (by omega)) (wm_35 (S := S_17) hW_26) (wk_35 (S := S_17) hW_26) rfl (M.rm (by decide) (by decide) (Nat.le_of_ble_eq_true rfl) (Nat.le_of_ble_eq_true rfl)) rfl rfl (Nat.le_of_ble_eq_true rfl) dX5_readValue_78 (fun r_28 S_29 hp_30 => ?_)
  obtain ⟨rfl, e_31⟩ := hp_30
  refine J.eq (S' := S_17) (st' := [.int 0]) (lv' := [(1, .int (nI (p9 + 1))), (2, .int (nI (B p9))), (0, .ref (ad 35))]) e_31 rfl rfl ?_
  refine j_if_eq (tgt := 116) C dX5_readValue_81 (by decide) (fun c9 => ?_) (fun c9 => absurd (by decide) c9)
  refine j_aload_n C dX5_readValue_116 rfl 2 rfl ?_
  show J _ _ _ _ _ 117 _
  refine j_iload_n C dX5_readValue_117 rfl 0 rfl ?_
  refine j_callV (ci := 5) C [.int (nI (p9 + 1))] [] mlX5_34 mcX5_byteAt (c_X5_byteAt S_17 ad hW_26 B n hv_25 hv_20 hx_27 hn (p9 + 1) (by omega)) (wm_35 (S := S_17) hW_26) (wk_35 (S := S_17) hW_26) rfl (M.rm (by decide) (by decide) (Nat.le_of_ble_eq_true rfl) (Nat.le_of_ble_eq_true rfl)) rfl rfl (Nat.le_of_ble_eq_true rfl) dX5_readValue_118 (fun r_32 S_33 hp_34 => ?_)
  obtain ⟨rfl, e_35⟩ := hp_34
  refine J.eq (S' := S_17) (st' := [.int (nI (B (p9 + 1)))]) (lv' := [(1, .int (nI (p9 + 1))), (2, .int (nI (B p9))), (0, .ref (ad 35))]) e_35 rfl rfl ?_
  refine j_bipush (v := 46) C dX5_readValue_121 (by decide) ?_
  refine j_ic_ne (tgt := 179) C dX5_readValue_123 (by decide) (fun c_123 => ?_) (fun c_123 => absurd c_123 (fun h9 => absurd ((nI_eq (b := 46) (by have h8 := (hs _ (by omega : p9 + 1 < n)).2; omega) (by omega)).mp h9) (by omega)))
  refine j_iload_n C dX5_readValue_179 rfl 0 rfl ?_
  refine j_aload_n C dX5_readValue_180 rfl 2 rfl ?_
  refine j_geti (f := 501) (v := nI p9) C flX5_21 dX5_readValue_181 (wm_35 (S := S_17) hW_26) (wk_35 (S := S_17) hW_26) (by decide) (by decide) rfl hv_19 ?_
  refine j_isub (v := nI ((p9 + 1) - p9)) C dX5_readValue_184 (pk_sub (a := (p9 + 1)) (b := p9) (by omega)) ?_
  show J _ _ _ _ _ 185 _
  exact j_iret C M dX5_readValue_185 (Nat.le_of_ble_eq_true rfl) (Nat.le_of_ble_eq_true rfl) (by subst eS_18; exact ⟨rfl, rfl⟩)

set_option maxRecDepth 100000 in
set_option maxHeartbeats 4000000 in
theorem c_rv2 (S : Hp) (ad : Nat → Nat) (hW : Wd ad S) (B : Nat → Nat) (n : Nat) (hR_500_ad35 : hR S 500 (ad 35) = some (ad 2)) (hI_502_ad35 : hI S 502 (ad 35) = nI n) (hs : STR (aI S (ad 2)) B n) (hn : n ≤ 12000) (p9 : Nat) (v9 : Nat) (hI_501_ad35 : hI S 501 (ad 35) = nI p9) (hp : p9 + 2 < n) (hb0 : B p9 = 48 + v9 / 10) (hb1 : B (p9 + 1) = 48 + v9 % 10) (hv : v9 < 100) (hbl : 57 < B (p9 + 1 + 1)) : Ct 3 yX5_readValue cX5_readValue 4 (some .int) 0 0 [.ref (ad 35)] S (fun r S' => r = some (.int (nI (((p9 + 1) + 1) - p9))) ∧ S' = (sI (sI (sI (sI (sI (sI S 508 (ad 35) 0) 507 (ad 35) 0) 509 (ad 35) 0) 510 (ad 35) 0) 509 (ad 35) (nI (v9 / 10))) 509 (ad 35) (nI v9))) := by
  refine ct_of (by decide) (Nat.le_of_ble_eq_true rfl) fun x hn9 C M hm9 => ?_
  have C : CB x RX5 cX5_readValue := C
  refine J.eq (lv' := [(0, .ref (ad 35))]) rfl rfl rfl ?_
  refine j_aload_n C dX5_readValue_0 rfl 0 rfl ?_
  refine j_geti (f := 501) (v := nI p9) C flX5_21 dX5_readValue_1 (wm_35 (S := S) hW) (wk_35 (S := S) hW) (by decide) (by decide) rfl hI_501_ad35 ?_
  refine j_istore_n (lv' := [(1, .int (nI p9)), (0, .ref (ad 35))]) C dX5_readValue_4 rfl (by rw [hn9]; decide) rfl ?_
  refine j_aload_n C dX5_readValue_5 rfl 1 rfl ?_
  refine j_iload_n C dX5_readValue_6 rfl 0 rfl ?_
  refine j_callV (ci := 5) C [.int (nI p9)] [] mlX5_34 mcX5_byteAt (c_X5_byteAt S ad hW B n hR_500_ad35 hI_502_ad35 hs hn p9 (by omega)) (wm_35 (S := S) hW) (wk_35 (S := S) hW) rfl (M.rm (by decide) (by decide) (Nat.le_of_ble_eq_true rfl) (Nat.le_of_ble_eq_true rfl)) rfl rfl (Nat.le_of_ble_eq_true rfl) dX5_readValue_7 (fun r_1 S_2 hp_3 => ?_)
  obtain ⟨rfl, e_4⟩ := hp_3
  refine J.eq (S' := S) (st' := [.int (nI (B p9))]) (lv' := [(1, .int (nI p9)), (0, .ref (ad 35))]) e_4 rfl rfl ?_
  refine j_istore_n (lv' := [(2, .int (nI (B p9))), (1, .int (nI p9)), (0, .ref (ad 35))]) C dX5_readValue_10 rfl (by rw [hn9]; decide) rfl ?_
  refine j_aload_n C dX5_readValue_11 rfl 2 rfl ?_
  show J _ _ _ _ _ 12 _
  refine j_iload_n C dX5_readValue_12 rfl 0 rfl ?_
  refine j_bipush (v := 45) C dX5_readValue_13 (by decide) ?_
  refine j_ic_ne (tgt := 22) C dX5_readValue_15 (by decide) (fun c_15 => ?_) (fun c_15 => absurd c_15 (fun h9 => absurd ((nI_eq (b := 45) (by omega) (by omega)).mp h9) (by omega)))
  refine j_iconst (v := 0) C dX5_readValue_22 (by decide) ?_
  refine j_putz (f := 508) C flX5_38 (by decide) rfl rfl (by decide) dX5_readValue_23 (wm_35 (S := S) hW) (wk_35 (S := S) hW) rfl ?_
  refine j_aload_n C dX5_readValue_26 rfl 2 rfl ?_
  refine j_aload_n C dX5_readValue_27 rfl 2 rfl ?_
  refine j_geti (f := 508) (v := 0) C flX5_38 dX5_readValue_28 (wm_35 (S := S) hW) (wk_35 (S := S) hW) (by decide) (by decide) rfl (rd_sI (S := S) (g := 508) (a := (ad 35)) (v := 0)) ?_
  show J _ _ _ _ _ 31 _
  refine j_if_ne (tgt := 40) C dX5_readValue_31 (by decide) (fun c9 => absurd c9 (by decide)) (fun c9 => ?_)
  refine j_iload_n C dX5_readValue_34 rfl 0 rfl ?_
  refine j_bipush (v := 43) C dX5_readValue_35 (by decide) ?_
  refine j_ic_ne (tgt := 44) C dX5_readValue_37 (by decide) (fun c_37 => ?_) (fun c_37 => absurd c_37 (fun h9 => absurd ((nI_eq (b := 43) (by omega) (by omega)).mp h9) (by omega)))
  refine j_iconst (v := 0) C dX5_readValue_44 (by decide) ?_
  refine j_putz (f := 507) C flX5_42 (by decide) rfl rfl (by decide) dX5_readValue_45 (wm_35 (S := S) hW) (wk_35 (S := S) hW) rfl ?_
  refine j_aload_n C dX5_readValue_48 rfl 2 rfl ?_
  refine j_geti (f := 507) (v := 0) C flX5_42 dX5_readValue_49 (wm_35 (S := S) hW) (wk_35 (S := S) hW) (by decide) (by decide) rfl (rd_sI (S := (sI S 508 (ad 35) 0)) (g := 507) (a := (ad 35)) (v := 0)) ?_
  show J _ _ _ _ _ 52 _
  refine j_if_eq (tgt := 58) C dX5_readValue_52 (by decide) (fun c9 => ?_) (fun c9 => absurd (by decide) c9)
  refine j_aload_n C dX5_readValue_58 rfl 2 rfl ?_
  refine j_iconst (v := 0) C dX5_readValue_59 (by decide) ?_
  refine j_puti (f := 509) C flX5_45 (by decide) rfl rfl dX5_readValue_60 (wm_35 (S := S) hW) (wk_35 (S := S) hW) rfl ?_
  refine j_aload_n C dX5_readValue_63 rfl 2 rfl ?_
  refine j_iconst (v := 0) C dX5_readValue_64 (by decide) ?_
  refine j_puti (f := 510) C flX5_48 (by decide) rfl rfl dX5_readValue_65 (wm_35 (S := S) hW) (wk_35 (S := S) hW) rfl ?_
  refine j_iload_n C dX5_readValue_68 rfl 1 rfl ?_
  show J _ _ _ _ _ 69 _
  refine j_aload_n C dX5_readValue_69 rfl 2 rfl ?_
  refine j_geti (f := 502) (v := nI n) C flX5_28 dX5_readValue_70 (wm_35 (S := S) hW) (wk_35 (S := S) hW) (by decide) (by decide) rfl (rd_sIf (S := (sI (sI (sI S 508 (ad 35) 0) 507 (ad 35) 0) 509 (ad 35) 0)) (g := 510) (a := (ad 35)) (v := 0) (by decide) (rd_sIf (S := (sI (sI S 508 (ad 35) 0) 507 (ad 35) 0)) (g := 509) (a := (ad 35)) (v := 0) (by decide) (rd_sIf (S := (sI S 508 (ad 35) 0)) (g := 507) (a := (ad 35)) (v := 0) (by decide) (rd_sIf (S := S) (g := 508) (a := (ad 35)) (v := 0) (by decide) hI_502_ad35)))) ?_
  refine j_ic_ge (tgt := 116) C dX5_readValue_73 (by decide) (fun c_73 => absurd c_73 (nI_ge (by omega) (by omega))) (fun c_73 => ?_)
  refine j_aload_n C dX5_readValue_76 rfl 2 rfl ?_
  refine j_iload_n C dX5_readValue_77 rfl 1 rfl ?_
  refine j_callV (ci := 5) C [.int (nI p9)] [] mlX5_51 mcX5_isDigit (c_dig1 (sI (sI (sI (sI S 508 (ad 35) 0) 507 (ad 35) 0) 509 (ad 35) 0) 510 (ad 35) 0) ad hW B n hR_500_ad35 (rd_sIf (S := (sI (sI (sI S 508 (ad 35) 0) 507 (ad 35) 0) 509 (ad 35) 0)) (g := 510) (a := (ad 35)) (v := 0) (by decide) (rd_sIf (S := (sI (sI S 508 (ad 35) 0) 507 (ad 35) 0)) (g := 509) (a := (ad 35)) (v := 0) (by decide) (rd_sIf (S := (sI S 508 (ad 35) 0)) (g := 507) (a := (ad 35)) (v := 0) (by decide) (rd_sIf (S := S) (g := 508) (a := (ad 35)) (v := 0) (by decide) hI_502_ad35)))) (by rw [show aI (sI (sI (sI (sI S 508 (ad 35) 0) 507 (ad 35) 0) 509 (ad 35) 0) 510 (ad 35) 0) (ad 2) = aI S (ad 2) from ((arI_sI (S := (sI (sI (sI S 508 (ad 35) 0) 507 (ad 35) 0) 509 (ad 35) 0))).trans ((arI_sI (S := (sI (sI S 508 (ad 35) 0) 507 (ad 35) 0))).trans ((arI_sI (S := (sI S 508 (ad 35) 0))).trans (arI_sI (S := S)))))]; exact hs) hn p9 (by omega) (by omega) (by omega)) (wm_35 (S := S) hW) (wk_35 (S := S) hW) rfl (M.rm (by decide) (by decide) (Nat.le_of_ble_eq_true rfl) (Nat.le_of_ble_eq_true rfl)) rfl rfl (Nat.le_of_ble_eq_true rfl) dX5_readValue_78 (fun r_5 S_6 hp_7 => ?_)
  obtain ⟨rfl, e_8⟩ := hp_7
  refine J.eq (S' := (sI (sI (sI (sI S 508 (ad 35) 0) 507 (ad 35) 0) 509 (ad 35) 0) 510 (ad 35) 0)) (st' := [.int 1]) (lv' := [(2, .int (nI (B p9))), (1, .int (nI p9)), (0, .ref (ad 35))]) e_8 rfl rfl ?_
  refine j_if_eq (tgt := 116) C dX5_readValue_81 (by decide) (fun c9 => absurd c9 (by decide)) (fun c9 => ?_)
  refine j_aload_n C dX5_readValue_84 rfl 2 rfl ?_
  show J _ _ _ _ _ 85 _
  refine j_bipush (v := 10) C dX5_readValue_85 (by decide) ?_
  refine j_aload_n C dX5_readValue_87 rfl 2 rfl ?_
  refine j_geti (f := 509) (v := 0) C flX5_45 dX5_readValue_88 (wm_35 (S := S) hW) (wk_35 (S := S) hW) (by decide) (by decide) rfl (rd_sIf (S := (sI (sI (sI S 508 (ad 35) 0) 507 (ad 35) 0) 509 (ad 35) 0)) (g := 510) (a := (ad 35)) (v := 0) (by decide) (rd_sI (S := (sI (sI S 508 (ad 35) 0) 507 (ad 35) 0)) (g := 509) (a := (ad 35)) (v := 0))) ?_
  refine j_imul (v := 0) C dX5_readValue_91 (by decide) ?_
  refine j_aload_n C dX5_readValue_92 rfl 2 rfl ?_
  refine j_iload_n C dX5_readValue_93 rfl 1 rfl ?_
  refine j_callV (ci := 5) C [.int (nI p9)] [.int 0, .ref (ad 35)] mlX5_34 mcX5_byteAt (c_X5_byteAt (sI (sI (sI (sI S 508 (ad 35) 0) 507 (ad 35) 0) 509 (ad 35) 0) 510 (ad 35) 0) ad hW B n hR_500_ad35 (rd_sIf (S := (sI (sI (sI S 508 (ad 35) 0) 507 (ad 35) 0) 509 (ad 35) 0)) (g := 510) (a := (ad 35)) (v := 0) (by decide) (rd_sIf (S := (sI (sI S 508 (ad 35) 0) 507 (ad 35) 0)) (g := 509) (a := (ad 35)) (v := 0) (by decide) (rd_sIf (S := (sI S 508 (ad 35) 0)) (g := 507) (a := (ad 35)) (v := 0) (by decide) (rd_sIf (S := S) (g := 508) (a := (ad 35)) (v := 0) (by decide) hI_502_ad35)))) (by rw [show aI (sI (sI (sI (sI S 508 (ad 35) 0) 507 (ad 35) 0) 509 (ad 35) 0) 510 (ad 35) 0) (ad 2) = aI S (ad 2) from ((arI_sI (S := (sI (sI (sI S 508 (ad 35) 0) 507 (ad 35) 0) 509 (ad 35) 0))).trans ((arI_sI (S := (sI (sI S 508 (ad 35) 0) 507 (ad 35) 0))).trans ((arI_sI (S := (sI S 508 (ad 35) 0))).trans (arI_sI (S := S)))))]; exact hs) hn p9 (by omega)) (wm_35 (S := S) hW) (wk_35 (S := S) hW) rfl (M.rm (by decide) (by decide) (Nat.le_of_ble_eq_true rfl) (Nat.le_of_ble_eq_true rfl)) rfl rfl (Nat.le_of_ble_eq_true rfl) dX5_readValue_94 (fun r_9 S_10 hp_11 => ?_)
  obtain ⟨rfl, e_12⟩ := hp_11
  refine J.eq (S' := (sI (sI (sI (sI S 508 (ad 35) 0) 507 (ad 35) 0) 509 (ad 35) 0) 510 (ad 35) 0)) (st' := [.int (nI (B p9)), .int 0, .ref (ad 35)]) (lv' := [(2, .int (nI (B p9))), (1, .int (nI p9)), (0, .ref (ad 35))]) e_12 rfl rfl ?_
  refine j_iadd (v := nI (0 + (B p9))) C dX5_readValue_97 (nI_add 0 (B p9)) ?_
  show J _ _ _ _ _ 98 _
  refine j_bipush (v := 48) C dX5_readValue_98 (by decide) ?_
  refine j_isub (v := nI ((0 + (B p9)) - 48)) C dX5_readValue_100 (pk_sub (a := (0 + (B p9))) (b := 48) (by omega)) ?_
  refine j_sipush (v := 32767) C dX5_readValue_101 (by decide) ?_
  refine j_callS C [.int (nI ((0 + (B p9)) - 48)), .int 32767] [.ref (ad 35)] mlX5_25 mcJ9_min_7cf53 (c_minn_1 (sI (sI (sI (sI S 508 (ad 35) 0) 507 (ad 35) 0) 509 (ad 35) 0) 510 (ad 35) 0) ((0 + (B p9)) - 48) 32767 (by omega) (by omega) (by omega)) (M.rm (by decide) (by decide) (Nat.le_of_ble_eq_true rfl) (Nat.le_of_ble_eq_true rfl)) rfl rfl (Nat.le_of_ble_eq_true rfl) dX5_readValue_104 (fun r_13 S_14 hp_15 => ?_)
  obtain ⟨rfl, e_16⟩ := hp_15
  refine J.eq (S' := (sI (sI (sI (sI S 508 (ad 35) 0) 507 (ad 35) 0) 509 (ad 35) 0) 510 (ad 35) 0)) (st' := [.int (nI ((0 + (B p9)) - 48)), .ref (ad 35)]) (lv' := [(2, .int (nI (B p9))), (1, .int (nI p9)), (0, .ref (ad 35))]) e_16 rfl rfl ?_
  refine J.eq (st' := .int (nI (v9 / 10)) :: [.ref (ad 35)]) rfl rfl (congrArg (fun z9 => Value.int z9 :: [.ref (ad 35)]) (congrArg nI (by omega))) ?_
  refine j_puti (f := 509) C flX5_45 (by decide) rfl rfl dX5_readValue_107 (wm_35 (S := S) hW) (wk_35 (S := S) hW) rfl ?_
  refine j_iinc (q := 1) (v := nI (p9 + 1)) (lv' := [(1, .int (nI (p9 + 1))), (2, .int (nI (B p9))), (0, .ref (ad 35))]) C dX5_readValue_110 rfl (nI_add p9 1) (by rw [hn9]; decide) rfl ?_
  refine j_goto (tgt := 68) C dX5_readValue_113 (by decide) ?_
  refine j_iload_n C dX5_readValue_68 rfl 0 rfl ?_
  show J _ _ _ _ _ 69 _
  refine j_aload_n C dX5_readValue_69 rfl 2 rfl ?_
  refine j_geti (f := 502) (v := nI n) C flX5_28 dX5_readValue_70 (wm_35 (S := S) hW) (wk_35 (S := S) hW) (by decide) (by decide) rfl (rd_sIf (S := (sI (sI (sI (sI S 508 (ad 35) 0) 507 (ad 35) 0) 509 (ad 35) 0) 510 (ad 35) 0)) (g := 509) (a := (ad 35)) (v := nI (v9 / 10)) (by decide) (rd_sIf (S := (sI (sI (sI S 508 (ad 35) 0) 507 (ad 35) 0) 509 (ad 35) 0)) (g := 510) (a := (ad 35)) (v := 0) (by decide) (rd_sIf (S := (sI (sI S 508 (ad 35) 0) 507 (ad 35) 0)) (g := 509) (a := (ad 35)) (v := 0) (by decide) (rd_sIf (S := (sI S 508 (ad 35) 0)) (g := 507) (a := (ad 35)) (v := 0) (by decide) (rd_sIf (S := S) (g := 508) (a := (ad 35)) (v := 0) (by decide) hI_502_ad35))))) ?_
  refine j_ic_ge (tgt := 116) C dX5_readValue_73 (by decide) (fun c_73 => absurd c_73 (nI_ge (by omega) (by omega))) (fun c_73 => ?_)
  refine j_aload_n C dX5_readValue_76 rfl 2 rfl ?_
  refine j_iload_n C dX5_readValue_77 rfl 0 rfl ?_
  obtain ⟨S_17, eS_18⟩ : ∃ S9 : Hp, S9 = (sI (sI (sI (sI (sI S 508 (ad 35) 0) 507 (ad 35) 0) 509 (ad 35) 0) 510 (ad 35) 0) 509 (ad 35) (nI (v9 / 10))) := ⟨_, rfl⟩
  refine J.eq (S' := S_17) eS_18.symm rfl rfl ?_
  have hv_19 : hI S_17 501 (ad 35) = nI p9 := by rw [eS_18]; exact (rd_sIf (S := (sI (sI (sI (sI S 508 (ad 35) 0) 507 (ad 35) 0) 509 (ad 35) 0) 510 (ad 35) 0)) (g := 509) (a := (ad 35)) (v := nI (v9 / 10)) (by decide) (rd_sIf (S := (sI (sI (sI S 508 (ad 35) 0) 507 (ad 35) 0) 509 (ad 35) 0)) (g := 510) (a := (ad 35)) (v := 0) (by decide) (rd_sIf (S := (sI (sI S 508 (ad 35) 0) 507 (ad 35) 0)) (g := 509) (a := (ad 35)) (v := 0) (by decide) (rd_sIf (S := (sI S 508 (ad 35) 0)) (g := 507) (a := (ad 35)) (v := 0) (by decide) (rd_sIf (S := S) (g := 508) (a := (ad 35)) (v := 0) (by decide) hI_501_ad35)))))
  have hv_20 : hI S_17 502 (ad 35) = nI n := by rw [eS_18]; exact (rd_sIf (S := (sI (sI (sI (sI S 508 (ad 35) 0) 507 (ad 35) 0) 509 (ad 35) 0) 510 (ad 35) 0)) (g := 509) (a := (ad 35)) (v := nI (v9 / 10)) (by decide) (rd_sIf (S := (sI (sI (sI S 508 (ad 35) 0) 507 (ad 35) 0) 509 (ad 35) 0)) (g := 510) (a := (ad 35)) (v := 0) (by decide) (rd_sIf (S := (sI (sI S 508 (ad 35) 0) 507 (ad 35) 0)) (g := 509) (a := (ad 35)) (v := 0) (by decide) (rd_sIf (S := (sI S 508 (ad 35) 0)) (g := 507) (a := (ad 35)) (v := 0) (by decide) (rd_sIf (S := S) (g := 508) (a := (ad 35)) (v := 0) (by decide) hI_502_ad35)))))
  have hv_21 : hI S_17 507 (ad 35) = 0 := by rw [eS_18]; exact (rd_sIf (S := (sI (sI (sI (sI S 508 (ad 35) 0) 507 (ad 35) 0) 509 (ad 35) 0) 510 (ad 35) 0)) (g := 509) (a := (ad 35)) (v := nI (v9 / 10)) (by decide) (rd_sIf (S := (sI (sI (sI S 508 (ad 35) 0) 507 (ad 35) 0) 509 (ad 35) 0)) (g := 510) (a := (ad 35)) (v := 0) (by decide) (rd_sIf (S := (sI (sI S 508 (ad 35) 0) 507 (ad 35) 0)) (g := 509) (a := (ad 35)) (v := 0) (by decide) (rd_sI (S := (sI S 508 (ad 35) 0)) (g := 507) (a := (ad 35)) (v := 0)))))
  have hv_22 : hI S_17 508 (ad 35) = 0 := by rw [eS_18]; exact (rd_sIf (S := (sI (sI (sI (sI S 508 (ad 35) 0) 507 (ad 35) 0) 509 (ad 35) 0) 510 (ad 35) 0)) (g := 509) (a := (ad 35)) (v := nI (v9 / 10)) (by decide) (rd_sIf (S := (sI (sI (sI S 508 (ad 35) 0) 507 (ad 35) 0) 509 (ad 35) 0)) (g := 510) (a := (ad 35)) (v := 0) (by decide) (rd_sIf (S := (sI (sI S 508 (ad 35) 0) 507 (ad 35) 0)) (g := 509) (a := (ad 35)) (v := 0) (by decide) (rd_sIf (S := (sI S 508 (ad 35) 0)) (g := 507) (a := (ad 35)) (v := 0) (by decide) (rd_sI (S := S) (g := 508) (a := (ad 35)) (v := 0))))))
  have hv_23 : hI S_17 509 (ad 35) = nI (v9 / 10) := by rw [eS_18]; exact (rd_sI (S := (sI (sI (sI (sI S 508 (ad 35) 0) 507 (ad 35) 0) 509 (ad 35) 0) 510 (ad 35) 0)) (g := 509) (a := (ad 35)) (v := nI (v9 / 10)))
  have hv_24 : hI S_17 510 (ad 35) = 0 := by rw [eS_18]; exact (rd_sIf (S := (sI (sI (sI (sI S 508 (ad 35) 0) 507 (ad 35) 0) 509 (ad 35) 0) 510 (ad 35) 0)) (g := 509) (a := (ad 35)) (v := nI (v9 / 10)) (by decide) (rd_sI (S := (sI (sI (sI S 508 (ad 35) 0) 507 (ad 35) 0) 509 (ad 35) 0)) (g := 510) (a := (ad 35)) (v := 0)))
  have hv_25 : hR S_17 500 (ad 35) = (some (ad 2)) := by rw [eS_18]; exact hR_500_ad35
  have hW_26 : Wd ad S_17 := by rw [eS_18]; exact (Wd.sI (Wd.sI (Wd.sI (Wd.sI (Wd.sI hW)))))
  have hx_27 : STR (aI S_17 (ad 2)) B n := by rw [eS_18]; exact (by rw [show aI (sI (sI (sI (sI (sI S 508 (ad 35) 0) 507 (ad 35) 0) 509 (ad 35) 0) 510 (ad 35) 0) 509 (ad 35) (nI (v9 / 10))) (ad 2) = aI S (ad 2) from ((arI_sI (S := (sI (sI (sI (sI S 508 (ad 35) 0) 507 (ad 35) 0) 509 (ad 35) 0) 510 (ad 35) 0))).trans ((arI_sI (S := (sI (sI (sI S 508 (ad 35) 0) 507 (ad 35) 0) 509 (ad 35) 0))).trans ((arI_sI (S := (sI (sI S 508 (ad 35) 0) 507 (ad 35) 0))).trans ((arI_sI (S := (sI S 508 (ad 35) 0))).trans (arI_sI (S := S))))))]; exact hs)
  refine j_callV (ci := 5) C [.int (nI (p9 + 1))] [] mlX5_51 mcX5_isDigit (c_dig1 S_17 ad hW_26 B n hv_25 hv_20 hx_27 hn (p9 + 1) (by omega) (by omega) (by omega)) (wm_35 (S := S_17) hW_26) (wk_35 (S := S_17) hW_26) rfl (M.rm (by decide) (by decide) (Nat.le_of_ble_eq_true rfl) (Nat.le_of_ble_eq_true rfl)) rfl rfl (Nat.le_of_ble_eq_true rfl) dX5_readValue_78 (fun r_28 S_29 hp_30 => ?_)
  obtain ⟨rfl, e_31⟩ := hp_30
  refine J.eq (S' := S_17) (st' := [.int 1]) (lv' := [(1, .int (nI (p9 + 1))), (2, .int (nI (B p9))), (0, .ref (ad 35))]) e_31 rfl rfl ?_
  refine j_if_eq (tgt := 116) C dX5_readValue_81 (by decide) (fun c9 => absurd c9 (by decide)) (fun c9 => ?_)
  refine j_aload_n C dX5_readValue_84 rfl 2 rfl ?_
  show J _ _ _ _ _ 85 _
  refine j_bipush (v := 10) C dX5_readValue_85 (by decide) ?_
  refine j_aload_n C dX5_readValue_87 rfl 2 rfl ?_
  refine j_geti (f := 509) (v := nI (v9 / 10)) C flX5_45 dX5_readValue_88 (wm_35 (S := S_17) hW_26) (wk_35 (S := S_17) hW_26) (by decide) (by decide) rfl hv_23 ?_
  refine j_imul (v := nI (10 * (v9 / 10))) C dX5_readValue_91 (pk_mul 10 (v9 / 10)) ?_
  refine j_aload_n C dX5_readValue_92 rfl 2 rfl ?_
  refine j_iload_n C dX5_readValue_93 rfl 0 rfl ?_
  refine j_callV (ci := 5) C [.int (nI (p9 + 1))] [.int (nI (10 * (v9 / 10))), .ref (ad 35)] mlX5_34 mcX5_byteAt (c_X5_byteAt S_17 ad hW_26 B n hv_25 hv_20 hx_27 hn (p9 + 1) (by omega)) (wm_35 (S := S_17) hW_26) (wk_35 (S := S_17) hW_26) rfl (M.rm (by decide) (by decide) (Nat.le_of_ble_eq_true rfl) (Nat.le_of_ble_eq_true rfl)) rfl rfl (Nat.le_of_ble_eq_true rfl) dX5_readValue_94 (fun r_32 S_33 hp_34 => ?_)
  obtain ⟨rfl, e_35⟩ := hp_34
  refine J.eq (S' := S_17) (st' := [.int (nI (B (p9 + 1))), .int (nI (10 * (v9 / 10))), .ref (ad 35)]) (lv' := [(1, .int (nI (p9 + 1))), (2, .int (nI (B p9))), (0, .ref (ad 35))]) e_35 rfl rfl ?_
  refine j_iadd (v := nI ((10 * (v9 / 10)) + (B (p9 + 1)))) C dX5_readValue_97 (nI_add (10 * (v9 / 10)) (B (p9 + 1))) ?_
  show J _ _ _ _ _ 98 _
  refine j_bipush (v := 48) C dX5_readValue_98 (by decide) ?_
  refine j_isub (v := nI (((10 * (v9 / 10)) + (B (p9 + 1))) - 48)) C dX5_readValue_100 (pk_sub (a := ((10 * (v9 / 10)) + (B (p9 + 1)))) (b := 48) (by omega)) ?_
  refine j_sipush (v := 32767) C dX5_readValue_101 (by decide) ?_
  refine j_callS C [.int (nI (((10 * (v9 / 10)) + (B (p9 + 1))) - 48)), .int 32767] [.ref (ad 35)] mlX5_25 mcJ9_min_7cf53 (c_minn_1 S_17 (((10 * (v9 / 10)) + (B (p9 + 1))) - 48) 32767 (by omega) (by omega) (by omega)) (M.rm (by decide) (by decide) (Nat.le_of_ble_eq_true rfl) (Nat.le_of_ble_eq_true rfl)) rfl rfl (Nat.le_of_ble_eq_true rfl) dX5_readValue_104 (fun r_36 S_37 hp_38 => ?_)
  obtain ⟨rfl, e_39⟩ := hp_38
  refine J.eq (S' := S_17) (st' := [.int (nI (((10 * (v9 / 10)) + (B (p9 + 1))) - 48)), .ref (ad 35)]) (lv' := [(1, .int (nI (p9 + 1))), (2, .int (nI (B p9))), (0, .ref (ad 35))]) e_39 rfl rfl ?_
  refine J.eq (st' := .int (nI v9) :: [.ref (ad 35)]) rfl rfl (congrArg (fun z9 => Value.int z9 :: [.ref (ad 35)]) (congrArg nI (by omega))) ?_
  refine j_puti (f := 509) C flX5_45 (by decide) rfl rfl dX5_readValue_107 (wm_35 (S := S_17) hW_26) (wk_35 (S := S_17) hW_26) rfl ?_
  refine j_iinc (q := 0) (v := nI ((p9 + 1) + 1)) (lv' := [(1, .int (nI ((p9 + 1) + 1))), (2, .int (nI (B p9))), (0, .ref (ad 35))]) C dX5_readValue_110 rfl (nI_add (p9 + 1) 1) (by rw [hn9]; decide) rfl ?_
  refine j_goto (tgt := 68) C dX5_readValue_113 (by decide) ?_
  refine j_iload_n C dX5_readValue_68 rfl 0 rfl ?_
  show J _ _ _ _ _ 69 _
  refine j_aload_n C dX5_readValue_69 rfl 2 rfl ?_
  refine j_geti (f := 502) (v := nI n) C flX5_28 dX5_readValue_70 (wm_35 (S := S_17) hW_26) (wk_35 (S := S_17) hW_26) (by decide) (by decide) rfl (rd_sIf (S := S_17) (g := 509) (a := (ad 35)) (v := nI v9) (by decide) hv_20) ?_
  refine j_ic_ge (tgt := 116) C dX5_readValue_73 (by decide) (fun c_73 => absurd c_73 (nI_ge (by omega) (by omega))) (fun c_73 => ?_)
  refine j_aload_n C dX5_readValue_76 rfl 2 rfl ?_
  refine j_iload_n C dX5_readValue_77 rfl 0 rfl ?_
  refine j_callV (ci := 5) C [.int (nI ((p9 + 1) + 1))] [] mlX5_51 mcX5_isDigit (c_dig0 (sI S_17 509 (ad 35) (nI v9)) ad hW_26 B n hv_25 (rd_sIf (S := S_17) (g := 509) (a := (ad 35)) (v := nI v9) (by decide) hv_20) (by rw [show aI (sI S_17 509 (ad 35) (nI v9)) (ad 2) = aI S_17 (ad 2) from (arI_sI (S := S_17))]; exact hx_27) hn ((p9 + 1) + 1) (by omega) (by omega)) (wm_35 (S := S_17) hW_26) (wk_35 (S := S_17) hW_26) rfl (M.rm (by decide) (by decide) (Nat.le_of_ble_eq_true rfl) (Nat.le_of_ble_eq_true rfl)) rfl rfl (Nat.le_of_ble_eq_true rfl) dX5_readValue_78 (fun r_40 S_41 hp_42 => ?_)
  obtain ⟨rfl, e_43⟩ := hp_42
  refine J.eq (S' := (sI S_17 509 (ad 35) (nI v9))) (st' := [.int 0]) (lv' := [(1, .int (nI ((p9 + 1) + 1))), (2, .int (nI (B p9))), (0, .ref (ad 35))]) e_43 rfl rfl ?_
  refine j_if_eq (tgt := 116) C dX5_readValue_81 (by decide) (fun c9 => ?_) (fun c9 => absurd (by decide) c9)
  refine j_aload_n C dX5_readValue_116 rfl 2 rfl ?_
  show J _ _ _ _ _ 117 _
  refine j_iload_n C dX5_readValue_117 rfl 0 rfl ?_
  refine j_callV (ci := 5) C [.int (nI ((p9 + 1) + 1))] [] mlX5_34 mcX5_byteAt (c_X5_byteAt (sI S_17 509 (ad 35) (nI v9)) ad hW_26 B n hv_25 (rd_sIf (S := S_17) (g := 509) (a := (ad 35)) (v := nI v9) (by decide) hv_20) (by rw [show aI (sI S_17 509 (ad 35) (nI v9)) (ad 2) = aI S_17 (ad 2) from (arI_sI (S := S_17))]; exact hx_27) hn ((p9 + 1) + 1) (by omega)) (wm_35 (S := S_17) hW_26) (wk_35 (S := S_17) hW_26) rfl (M.rm (by decide) (by decide) (Nat.le_of_ble_eq_true rfl) (Nat.le_of_ble_eq_true rfl)) rfl rfl (Nat.le_of_ble_eq_true rfl) dX5_readValue_118 (fun r_44 S_45 hp_46 => ?_)
  obtain ⟨rfl, e_47⟩ := hp_46
  refine J.eq (S' := (sI S_17 509 (ad 35) (nI v9))) (st' := [.int (nI (B ((p9 + 1) + 1)))]) (lv' := [(1, .int (nI ((p9 + 1) + 1))), (2, .int (nI (B p9))), (0, .ref (ad 35))]) e_47 rfl rfl ?_
  refine j_bipush (v := 46) C dX5_readValue_121 (by decide) ?_
  refine j_ic_ne (tgt := 179) C dX5_readValue_123 (by decide) (fun c_123 => ?_) (fun c_123 => absurd c_123 (fun h9 => absurd ((nI_eq (b := 46) (by have h8 := (hs _ (by omega : p9 + 1 + 1 < n)).2; omega) (by omega)).mp h9) (by omega)))
  refine j_iload_n C dX5_readValue_179 rfl 0 rfl ?_
  refine j_aload_n C dX5_readValue_180 rfl 2 rfl ?_
  refine j_geti (f := 501) (v := nI p9) C flX5_21 dX5_readValue_181 (wm_35 (S := S_17) hW_26) (wk_35 (S := S_17) hW_26) (by decide) (by decide) rfl (rd_sIf (S := S_17) (g := 509) (a := (ad 35)) (v := nI v9) (by decide) hv_19) ?_
  refine j_isub (v := nI (((p9 + 1) + 1) - p9)) C dX5_readValue_184 (pk_sub (a := ((p9 + 1) + 1)) (b := p9) (by omega)) ?_
  show J _ _ _ _ _ 185 _
  exact j_iret C M dX5_readValue_185 (Nat.le_of_ble_eq_true rfl) (Nat.le_of_ble_eq_true rfl) (by subst eS_18; exact ⟨rfl, rfl⟩)

theorem dX5_n_0 : decode cX5_n 0 = .ok (.aload_n 0, 1) := by decide +kernel
theorem dX5_n_1 : decode cX5_n 1 = .ok (.getfield 38, 3) := by decide +kernel
theorem dX5_n_4 : decode cX5_n 4 = .ok (.ifCond .eq 11, 3) := by decide +kernel
theorem dX5_n_7 : decode cX5_n 7 = .ok (.aload_n 0, 1) := by decide +kernel
theorem dX5_n_8 : decode cX5_n 8 = .ok (.getfield 45, 3) := by decide +kernel
theorem dX5_n_11 : decode cX5_n 11 = .ok (.ineg, 1) := by decide +kernel
theorem dX5_n_12 : decode cX5_n 12 = .ok (.goto 7, 3) := by decide +kernel
theorem dX5_n_15 : decode cX5_n 15 = .ok (.aload_n 0, 1) := by decide +kernel
theorem dX5_n_16 : decode cX5_n 16 = .ok (.getfield 45, 3) := by decide +kernel
theorem dX5_n_19 : decode cX5_n 19 = .ok (.ireturn, 1) := by decide +kernel

set_option maxRecDepth 100000 in
set_option maxHeartbeats 4000000 in
theorem c_X5_n (S : Hp) (ad : Nat → Nat) (hW : Wd ad S) (v9 : Int32) (hI_508_ad35 : hI S 508 (ad 35) = 0) (hI_509_ad35 : hI S 509 (ad 35) = v9) : Ct 1 yX5_n cX5_n 1 (some .int) 0 0 [.ref (ad 35)] S (fun r S' => r = some (.int v9) ∧ S' = S) := by
  refine ct_of (by decide) (Nat.le_of_ble_eq_true rfl) fun x hn9 C M hm9 => ?_
  have C : CB x RX5 cX5_n := C
  refine J.eq (lv' := [(0, .ref (ad 35))]) rfl rfl rfl ?_
  refine j_aload_n C dX5_n_0 rfl 0 rfl ?_
  refine j_geti (f := 508) (v := 0) C flX5_38 dX5_n_1 (wm_35 (S := S) hW) (wk_35 (S := S) hW) (by decide) (by decide) rfl hI_508_ad35 ?_
  refine j_if_eq (tgt := 15) C dX5_n_4 (by decide) (fun c9 => ?_) (fun c9 => absurd (by decide) c9)
  refine j_aload_n C dX5_n_15 rfl 0 rfl ?_
  refine j_geti (f := 509) (v := v9) C flX5_45 dX5_n_16 (wm_35 (S := S) hW) (wk_35 (S := S) hW) (by decide) (by decide) rfl hI_509_ad35 ?_
  exact j_iret C M dX5_n_19 (by decide) (by decide) ⟨rfl, rfl⟩

theorem dX5_exact_0 : decode cX5_exact 0 = .ok (.aload_n 0, 1) := by decide +kernel
theorem dX5_exact_1 : decode cX5_exact 1 = .ok (.getfield 45, 3) := by decide +kernel
theorem dX5_exact_4 : decode cX5_exact 4 = .ok (.i2l, 1) := by decide +kernel
theorem dX5_exact_5 : decode cX5_exact 5 = .ok (.ldc2_w 55, 3) := by decide +kernel
theorem dX5_exact_8 : decode cX5_exact 8 = .ok (.lmul, 1) := by decide +kernel
theorem dX5_exact_9 : decode cX5_exact 9 = .ok (.aload_n 0, 1) := by decide +kernel
theorem dX5_exact_10 : decode cX5_exact 10 = .ok (.getfield 48, 3) := by decide +kernel
theorem dX5_exact_13 : decode cX5_exact 13 = .ok (.i2l, 1) := by decide +kernel
theorem dX5_exact_14 : decode cX5_exact 14 = .ok (.ladd, 1) := by decide +kernel
theorem dX5_exact_15 : decode cX5_exact 15 = .ok (.lstore_n 1, 1) := by decide +kernel
theorem dX5_exact_16 : decode cX5_exact 16 = .ok (.aload_n 0, 1) := by decide +kernel
theorem dX5_exact_17 : decode cX5_exact 17 = .ok (.getfield 38, 3) := by decide +kernel
theorem dX5_exact_20 : decode cX5_exact 20 = .ok (.ifCond .eq 8, 3) := by decide +kernel
theorem dX5_exact_23 : decode cX5_exact 23 = .ok (.lload_n 1, 1) := by decide +kernel
theorem dX5_exact_24 : decode cX5_exact 24 = .ok (.lneg, 1) := by decide +kernel
theorem dX5_exact_25 : decode cX5_exact 25 = .ok (.goto 4, 3) := by decide +kernel
theorem dX5_exact_28 : decode cX5_exact 28 = .ok (.lload_n 1, 1) := by decide +kernel
theorem dX5_exact_29 : decode cX5_exact 29 = .ok (.lreturn, 1) := by decide +kernel

set_option maxRecDepth 100000 in
set_option maxHeartbeats 4000000 in
theorem c_X5_exact (S : Hp) (ad : Nat → Nat) (hW : Wd ad S) (v9 : Nat) (hI_508_ad35 : hI S 508 (ad 35) = 0) (hI_509_ad35 : hI S 509 (ad 35) = nI v9) (hI_510_ad35 : hI S 510 (ad 35) = 0) (hv : v9 < 100) : Ct 1 yX5_exact cX5_exact 3 (some .long) 0 0 [.ref (ad 35)] S (fun r S' => r = some (.long (lN (v9 * 10000))) ∧ S' = S) := by
  refine ct_of (by decide) (Nat.le_of_ble_eq_true rfl) fun x hn9 C M hm9 => ?_
  have C : CB x RX5 cX5_exact := C
  refine J.eq (lv' := [(0, .ref (ad 35))]) rfl rfl rfl ?_
  refine j_aload_n C dX5_exact_0 rfl 0 rfl ?_
  refine j_geti (f := 509) (v := nI v9) C flX5_45 dX5_exact_1 (wm_35 (S := S) hW) (wk_35 (S := S) hW) (by decide) (by decide) rfl hI_509_ad35 ?_
  refine j_i2l (v := lN v9) C dX5_exact_4 (nI_l (by omega)) ?_
  refine j_ldc2 (v := 10000) C dX5_exact_5 kcX5_55 ?_
  refine j_lmul (v := lN (v9 * 10000)) C dX5_exact_8 (lN_mul v9 10000) ?_
  refine j_aload_n C dX5_exact_9 rfl 0 rfl ?_
  refine j_geti (f := 510) (v := 0) C flX5_48 dX5_exact_10 (wm_35 (S := S) hW) (wk_35 (S := S) hW) (by decide) (by decide) rfl hI_510_ad35 ?_
  refine j_i2l (v := 0) C dX5_exact_13 (by decide) ?_
  show J _ _ _ _ _ 14 _
  refine j_ladd (v := lN (v9 * 10000)) C dX5_exact_14 (lN_add (v9 * 10000) 0) ?_
  refine j_lstore_n (lv' := [(1, .long (lN (v9 * 10000))), (0, .ref (ad 35))]) C dX5_exact_15 rfl (by rw [hn9]; decide) rfl ?_
  refine j_aload_n C dX5_exact_16 rfl 1 rfl ?_
  refine j_geti (f := 508) (v := 0) C flX5_38 dX5_exact_17 (wm_35 (S := S) hW) (wk_35 (S := S) hW) (by decide) (by decide) rfl hI_508_ad35 ?_
  refine j_if_eq (tgt := 28) C dX5_exact_20 (by decide) (fun c9 => ?_) (fun c9 => absurd (by decide) c9)
  refine j_lload_n C dX5_exact_28 rfl 0 rfl ?_
  exact j_lret C M dX5_exact_29 (by decide) (by decide) ⟨rfl, rfl⟩

theorem dX5_units_0 : decode cX5_units 0 = .ok (.aload_n 0, 1) := by decide +kernel
theorem dX5_units_1 : decode cX5_units 1 = .ok (.invokevirtual 57, 3) := by decide +kernel
theorem dX5_units_4 : decode cX5_units 4 = .ok (.iload_n 1, 1) := by decide +kernel
theorem dX5_units_5 : decode cX5_units 5 = .ok (.i2l, 1) := by decide +kernel
theorem dX5_units_6 : decode cX5_units 6 = .ok (.lmul, 1) := by decide +kernel
theorem dX5_units_7 : decode cX5_units 7 = .ok (.ldc2_w 55, 3) := by decide +kernel
theorem dX5_units_10 : decode cX5_units 10 = .ok (.ldiv, 1) := by decide +kernel
theorem dX5_units_11 : decode cX5_units 11 = .ok (.lreturn, 1) := by decide +kernel

set_option maxRecDepth 100000 in
set_option maxHeartbeats 4000000 in
theorem c_X5_units (S : Hp) (ad : Nat → Nat) (hW : Wd ad S) (v9 : Nat) (hI_508_ad35 : hI S 508 (ad 35) = 0) (hI_509_ad35 : hI S 509 (ad 35) = nI v9) (hI_510_ad35 : hI S 510 (ad 35) = 0) (hv : v9 < 100) : Ct 2 yX5_units cX5_units 2 (some .long) 0 0 [.ref (ad 35), .int 96] S (fun r S' => r = some (.long (lN (v9 * 96))) ∧ S' = S) := by
  refine ct_of (by decide) (Nat.le_of_ble_eq_true rfl) fun x hn9 C M hm9 => ?_
  have C : CB x RX5 cX5_units := C
  refine J.eq (lv' := [(0, .ref (ad 35)), (1, .int 96)]) rfl rfl rfl ?_
  refine j_aload_n C dX5_units_0 rfl 0 rfl ?_
  refine j_callV (ci := 5) C [] [] mlX5_57 mcX5_exact (c_X5_exact S ad hW v9 hI_508_ad35 hI_509_ad35 hI_510_ad35 (by omega)) (wm_35 (S := S) hW) (wk_35 (S := S) hW) rfl (M.rm (by decide) (by decide) (Nat.le_of_ble_eq_true rfl) (Nat.le_of_ble_eq_true rfl)) rfl rfl (Nat.le_of_ble_eq_true rfl) dX5_units_1 (fun r_1 S_2 hp_3 => ?_)
  obtain ⟨rfl, e_4⟩ := hp_3
  refine J.eq (S' := S) (st' := [.long (lN (v9 * 10000))]) (lv' := [(0, .ref (ad 35)), (1, .int 96)]) e_4 rfl rfl ?_
  refine j_iload_n C dX5_units_4 rfl 1 rfl ?_
  refine j_i2l (v := 96) C dX5_units_5 (by decide) ?_
  refine j_lmul (v := lN ((v9 * 10000) * 96)) C dX5_units_6 (lN_mul (v9 * 10000) 96) ?_
  refine j_ldc2 (v := 10000) C dX5_units_7 kcX5_55 ?_
  refine j_ldiv (v := lN (v9 * 96)) C dX5_units_10 (by decide) ((pk_lDiv (a := v9 * 10000 * 96) (b := 10000) (by omega) (by decide) (by decide)).trans (congrArg lN (by omega))) ?_
  exact j_lret C M dX5_units_11 (Nat.le_of_ble_eq_true rfl) (Nat.le_of_ble_eq_true rfl) ⟨rfl, rfl⟩

theorem dX5_hasMore_0 : decode cX5_hasMore 0 = .ok (.aload_n 0, 1) := by decide +kernel
theorem dX5_hasMore_1 : decode cX5_hasMore 1 = .ok (.getfield 21, 3) := by decide +kernel
theorem dX5_hasMore_4 : decode cX5_hasMore 4 = .ok (.aload_n 0, 1) := by decide +kernel
theorem dX5_hasMore_5 : decode cX5_hasMore 5 = .ok (.getfield 28, 3) := by decide +kernel
theorem dX5_hasMore_8 : decode cX5_hasMore 8 = .ok (.if_icmp .ge 7, 3) := by decide +kernel
theorem dX5_hasMore_11 : decode cX5_hasMore 11 = .ok (.iconst 1, 1) := by decide +kernel
theorem dX5_hasMore_12 : decode cX5_hasMore 12 = .ok (.goto 4, 3) := by decide +kernel
theorem dX5_hasMore_15 : decode cX5_hasMore 15 = .ok (.iconst 0, 1) := by decide +kernel
theorem dX5_hasMore_16 : decode cX5_hasMore 16 = .ok (.ireturn, 1) := by decide +kernel

set_option maxRecDepth 100000 in
set_option maxHeartbeats 4000000 in
theorem c_more1 (S : Hp) (ad : Nat → Nat) (hW : Wd ad S) (n : Nat) (p9 : Nat) (hI_501_ad35 : hI S 501 (ad 35) = nI p9) (hI_502_ad35 : hI S 502 (ad 35) = nI n) (hp : p9 < n) (hn : n ≤ 12000) : Ct 1 yX5_hasMore cX5_hasMore 1 (some .boolean) 0 0 [.ref (ad 35)] S (fun r S' => r = some (.int 1) ∧ S' = S) := by
  refine ct_of (by decide) (Nat.le_of_ble_eq_true rfl) fun x hn9 C M hm9 => ?_
  have C : CB x RX5 cX5_hasMore := C
  refine J.eq (lv' := [(0, .ref (ad 35))]) rfl rfl rfl ?_
  refine j_aload_n C dX5_hasMore_0 rfl 0 rfl ?_
  refine j_geti (f := 501) (v := nI p9) C flX5_21 dX5_hasMore_1 (wm_35 (S := S) hW) (wk_35 (S := S) hW) (by decide) (by decide) rfl hI_501_ad35 ?_
  refine j_aload_n C dX5_hasMore_4 rfl 0 rfl ?_
  refine j_geti (f := 502) (v := nI n) C flX5_28 dX5_hasMore_5 (wm_35 (S := S) hW) (wk_35 (S := S) hW) (by decide) (by decide) rfl hI_502_ad35 ?_
  refine j_ic_ge (tgt := 15) C dX5_hasMore_8 (by decide) (fun c_8 => absurd c_8 (nI_ge (by omega) (by omega))) (fun c_8 => ?_)
  refine j_iconst (v := 1) C dX5_hasMore_11 (by decide) ?_
  refine j_goto (tgt := 16) C dX5_hasMore_12 (by decide) ?_
  exact j_zret C M rfl dX5_hasMore_16 (by decide) (by decide) ⟨rfl, rfl⟩

set_option maxRecDepth 100000 in
set_option maxHeartbeats 4000000 in
theorem c_more0 (S : Hp) (ad : Nat → Nat) (hW : Wd ad S) (n : Nat) (hI_501_ad35 : hI S 501 (ad 35) = nI n) (hI_502_ad35 : hI S 502 (ad 35) = nI n) : Ct 1 yX5_hasMore cX5_hasMore 1 (some .boolean) 0 0 [.ref (ad 35)] S (fun r S' => r = some (.int 0) ∧ S' = S) := by
  refine ct_of (by decide) (Nat.le_of_ble_eq_true rfl) fun x hn9 C M hm9 => ?_
  have C : CB x RX5 cX5_hasMore := C
  refine J.eq (lv' := [(0, .ref (ad 35))]) rfl rfl rfl ?_
  refine j_aload_n C dX5_hasMore_0 rfl 0 rfl ?_
  refine j_geti (f := 501) (v := nI n) C flX5_21 dX5_hasMore_1 (wm_35 (S := S) hW) (wk_35 (S := S) hW) (by decide) (by decide) rfl hI_501_ad35 ?_
  refine j_aload_n C dX5_hasMore_4 rfl 0 rfl ?_
  refine j_geti (f := 502) (v := nI n) C flX5_28 dX5_hasMore_5 (wm_35 (S := S) hW) (wk_35 (S := S) hW) (by decide) (by decide) rfl hI_502_ad35 ?_
  refine j_ic_ge (tgt := 15) C dX5_hasMore_8 (by decide) (fun c_8 => ?_) (fun c_8 => absurd (Int32.le_refl _) c_8)
  refine j_iconst (v := 0) C dX5_hasMore_15 (by decide) ?_
  exact j_zret C M rfl dX5_hasMore_16 (by decide) (by decide) ⟨rfl, rfl⟩

theorem dX5_open_0 : decode cX5_open 0 = .ok (.aload_n 0, 1) := by decide +kernel
theorem dX5_open_1 : decode cX5_open 1 = .ok (.aload_n 1, 1) := by decide +kernel
theorem dX5_open_2 : decode cX5_open 2 = .ok (.putfield 9, 3) := by decide +kernel
theorem dX5_open_5 : decode cX5_open 5 = .ok (.aload_n 0, 1) := by decide +kernel
theorem dX5_open_6 : decode cX5_open 6 = .ok (.iload_n 2, 1) := by decide +kernel
theorem dX5_open_7 : decode cX5_open 7 = .ok (.iconst 0, 1) := by decide +kernel
theorem dX5_open_8 : decode cX5_open 8 = .ok (.invokestatic 15, 3) := by decide +kernel
theorem dX5_open_11 : decode cX5_open 11 = .ok (.putfield 21, 3) := by decide +kernel
theorem dX5_open_14 : decode cX5_open 14 = .ok (.aload_n 0, 1) := by decide +kernel
theorem dX5_open_15 : decode cX5_open 15 = .ok (.iload_n 3, 1) := by decide +kernel
theorem dX5_open_16 : decode cX5_open 16 = .ok (.aload_n 1, 1) := by decide +kernel
theorem dX5_open_17 : decode cX5_open 17 = .ok (.arraylength, 1) := by decide +kernel
theorem dX5_open_18 : decode cX5_open 18 = .ok (.invokestatic 25, 3) := by decide +kernel
theorem dX5_open_21 : decode cX5_open 21 = .ok (.putfield 28, 3) := by decide +kernel
theorem dX5_open_24 : decode cX5_open 24 = .ok (.aload_n 0, 1) := by decide +kernel
theorem dX5_open_25 : decode cX5_open 25 = .ok (.iconst 0, 1) := by decide +kernel
theorem dX5_open_26 : decode cX5_open 26 = .ok (.putfield 31, 3) := by decide +kernel
theorem dX5_open_29 : decode cX5_open 29 = .ok (.return_, 1) := by decide +kernel

set_option maxRecDepth 100000 in
set_option maxHeartbeats 4000000 in
theorem c_X5_open (S : Hp) (ad : Nat → Nat) (hW : Wd ad S) (n : Nat) (hn : n ≤ 12000) : Ct 2 yX5_open cX5_open 4 none 0 0 [.ref (ad 35), .ref (ad 2), .int 0, .int (nI n)] S (fun r S' => r = none ∧ S' = (sI (sI (sI (sR S 500 (ad 35) (some (ad 2))) 501 (ad 35) 0) 502 (ad 35) (nI n)) 503 (ad 35) 0)) := by
  refine ct_of (by decide) (Nat.le_of_ble_eq_true rfl) fun x hn9 C M hm9 => ?_
  have C : CB x RX5 cX5_open := C
  refine J.eq (lv' := [(0, .ref (ad 35)), (1, .ref (ad 2)), (2, .int 0), (3, .int (nI n))]) rfl rfl rfl ?_
  refine j_aload_n C dX5_open_0 rfl 0 rfl ?_
  refine j_aload_n C dX5_open_1 rfl 1 rfl ?_
  refine j_putr (f := 500) C flX5_9 (by decide) rfl rfl dX5_open_2 (wm_35 (S := S) hW) (wk_35 (S := S) hW) rfl ?_
  refine j_aload_n C dX5_open_5 rfl 0 rfl ?_
  refine j_iload_n C dX5_open_6 rfl 2 rfl ?_
  refine j_iconst (v := 0) C dX5_open_7 (by decide) ?_
  refine j_callS C [.int 0, .int 0] [.ref (ad 35)] mlX5_15 mcJ9_max_7cf53 (c_J9_max_7cf53 (sR S 500 (ad 35) (some (ad 2))) 0 0) (M.rm (by decide) (by decide) (Nat.le_of_ble_eq_true rfl) (Nat.le_of_ble_eq_true rfl)) rfl rfl (Nat.le_of_ble_eq_true rfl) dX5_open_8 (fun r_1 S_2 hp_3 => ?_)
  obtain ⟨rfl, e_4⟩ := hp_3
  refine J.eq (S' := (sR S 500 (ad 35) (some (ad 2)))) (st' := .int 0 :: [.ref (ad 35)]) (lv' := [(0, .ref (ad 35)), (1, .ref (ad 2)), (2, .int 0), (3, .int (nI n))]) e_4 rfl (congrArg (fun z9 => Value.int z9 :: [.ref (ad 35)]) (by decide)) ?_
  refine J.eq (S' := (sR S 500 (ad 35) (some (ad 2)))) (st' := [.int 0, .ref (ad 35)]) (lv' := [(0, .ref (ad 35)), (1, .ref (ad 2)), (2, .int 0), (3, .int (nI n))]) rfl rfl rfl ?_
  refine j_puti (f := 501) C flX5_21 (by decide) rfl rfl dX5_open_11 (wm_35 (S := S) hW) (wk_35 (S := S) hW) rfl ?_
  show J _ _ _ _ _ 14 _
  refine j_aload_n C dX5_open_14 rfl 0 rfl ?_
  refine j_iload_n C dX5_open_15 rfl 3 rfl ?_
  refine j_aload_n C dX5_open_16 rfl 1 rfl ?_
  refine j_alen (v := 12000) C dX5_open_17 (wm_2 (S := S) hW) (wk_2 (S := S) hW) (by decide) (by decide) (len_of (n := 12000) (wl_2 (S := S) hW) (by decide)) ?_
  refine j_callS C [.int (nI n), .int 12000] [.ref (ad 35)] mlX5_25 mcJ9_min_7cf53 (c_minn_1 (sI (sR S 500 (ad 35) (some (ad 2))) 501 (ad 35) 0) n 12000 (by omega) (by omega) (by omega)) (M.rm (by decide) (by decide) (Nat.le_of_ble_eq_true rfl) (Nat.le_of_ble_eq_true rfl)) rfl rfl (Nat.le_of_ble_eq_true rfl) dX5_open_18 (fun r_5 S_6 hp_7 => ?_)
  obtain ⟨rfl, e_8⟩ := hp_7
  refine J.eq (S' := (sI (sR S 500 (ad 35) (some (ad 2))) 501 (ad 35) 0)) (st' := [.int (nI n), .ref (ad 35)]) (lv' := [(0, .ref (ad 35)), (1, .ref (ad 2)), (2, .int 0), (3, .int (nI n))]) e_8 rfl rfl ?_
  refine j_puti (f := 502) C flX5_28 (by decide) rfl rfl dX5_open_21 (wm_35 (S := S) hW) (wk_35 (S := S) hW) rfl ?_
  refine j_aload_n C dX5_open_24 rfl 0 rfl ?_
  refine j_iconst (v := 0) C dX5_open_25 (by decide) ?_
  show J _ _ _ _ _ 26 _
  refine j_puti (f := 503) C flX5_31 (by decide) rfl rfl dX5_open_26 (wm_35 (S := S) hW) (wk_35 (S := S) hW) rfl ?_
  exact j_vret C M dX5_open_29 (Nat.le_of_ble_eq_true rfl) (Nat.le_of_ble_eq_true rfl) ⟨rfl, rfl⟩
