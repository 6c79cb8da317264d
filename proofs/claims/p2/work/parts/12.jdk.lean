theorem dJ9_max_7cf53_0 : decode cJ9_max_7cf53 0 = .ok (.iload_n 0, 1) := by decide +kernel
theorem dJ9_max_7cf53_1 : decode cJ9_max_7cf53 1 = .ok (.iload_n 1, 1) := by decide +kernel
theorem dJ9_max_7cf53_2 : decode cJ9_max_7cf53 2 = .ok (.if_icmp .lt 7, 3) := by decide +kernel
theorem dJ9_max_7cf53_5 : decode cJ9_max_7cf53 5 = .ok (.iload_n 0, 1) := by decide +kernel
theorem dJ9_max_7cf53_6 : decode cJ9_max_7cf53 6 = .ok (.goto 4, 3) := by decide +kernel
theorem dJ9_max_7cf53_9 : decode cJ9_max_7cf53 9 = .ok (.iload_n 1, 1) := by decide +kernel
theorem dJ9_max_7cf53_10 : decode cJ9_max_7cf53 10 = .ok (.ireturn, 1) := by decide +kernel

set_option maxRecDepth 100000 in
set_option maxHeartbeats 4000000 in
theorem c_J9_max_7cf53 (S : Hp) (x0 : Int32) (y0 : Int32) : Ct 1 yJ9_max_7cf53 cJ9_max_7cf53 2 (some .int) 0 0 [.int x0, .int y0] S (fun r S' => r = some (.int (if x0 < y0 then y0 else x0)) ∧ S' = S) := by
  refine ct_ofF (by decide +kernel) (Nat.le_of_ble_eq_true rfl) fun x hn9 C M hm9 => ?_
  have C : CB x RJ9 cJ9_max_7cf53 := C
  refine J.eq (lv' := [(0, .int x0), (1, .int y0)]) rfl rfl rfl ?_
  refine j_iload_n C dJ9_max_7cf53_0 rfl 0 rfl ?_
  refine j_iload_n C dJ9_max_7cf53_1 rfl 1 rfl ?_
  refine j_ic_lt (tgt := 9) C dJ9_max_7cf53_2 (by decide) (fun c_2 => ?_) (fun c_2 => ?_)
  · skip
    refine j_iload_n C dJ9_max_7cf53_9 rfl 1 rfl ?_
    exact j_iret C M dJ9_max_7cf53_10 (by decide) (by decide) ⟨congrArg (fun z9 => some (Value.int z9)) (by first | exact (if_pos c_2).symm | exact (if_neg c_2).symm), rfl⟩
  · skip
    refine j_iload_n C dJ9_max_7cf53_5 rfl 0 rfl ?_
    refine j_goto (tgt := 10) C dJ9_max_7cf53_6 (by decide) ?_
    exact j_iret C M dJ9_max_7cf53_10 (by decide) (by decide) ⟨congrArg (fun z9 => some (Value.int z9)) (by first | exact (if_pos c_2).symm | exact (if_neg c_2).symm), rfl⟩

theorem dJ9_min_7cf53_0 : decode cJ9_min_7cf53 0 = .ok (.iload_n 0, 1) := by decide +kernel
theorem dJ9_min_7cf53_1 : decode cJ9_min_7cf53 1 = .ok (.iload_n 1, 1) := by decide +kernel
theorem dJ9_min_7cf53_2 : decode cJ9_min_7cf53 2 = .ok (.if_icmp .gt 7, 3) := by decide +kernel
theorem dJ9_min_7cf53_5 : decode cJ9_min_7cf53 5 = .ok (.iload_n 0, 1) := by decide +kernel
theorem dJ9_min_7cf53_6 : decode cJ9_min_7cf53 6 = .ok (.goto 4, 3) := by decide +kernel
theorem dJ9_min_7cf53_9 : decode cJ9_min_7cf53 9 = .ok (.iload_n 1, 1) := by decide +kernel
theorem dJ9_min_7cf53_10 : decode cJ9_min_7cf53 10 = .ok (.ireturn, 1) := by decide +kernel

set_option maxRecDepth 100000 in
set_option maxHeartbeats 4000000 in
theorem c_J9_min_7cf53 (S : Hp) (x0 : Int32) (y0 : Int32) : Ct 1 yJ9_min_7cf53 cJ9_min_7cf53 2 (some .int) 0 0 [.int x0, .int y0] S (fun r S' => r = some (.int (if y0 < x0 then y0 else x0)) ∧ S' = S) := by
  refine ct_ofF (by decide +kernel) (Nat.le_of_ble_eq_true rfl) fun x hn9 C M hm9 => ?_
  have C : CB x RJ9 cJ9_min_7cf53 := C
  refine J.eq (lv' := [(0, .int x0), (1, .int y0)]) rfl rfl rfl ?_
  refine j_iload_n C dJ9_min_7cf53_0 rfl 0 rfl ?_
  refine j_iload_n C dJ9_min_7cf53_1 rfl 1 rfl ?_
  refine j_ic_gt (tgt := 9) C dJ9_min_7cf53_2 (by decide) (fun c_2 => ?_) (fun c_2 => ?_)
  · skip
    refine j_iload_n C dJ9_min_7cf53_9 rfl 1 rfl ?_
    exact j_iret C M dJ9_min_7cf53_10 (by decide) (by decide) ⟨congrArg (fun z9 => some (Value.int z9)) (by first | exact (if_pos c_2).symm | exact (if_neg c_2).symm), rfl⟩
  · skip
    refine j_iload_n C dJ9_min_7cf53_5 rfl 0 rfl ?_
    refine j_goto (tgt := 10) C dJ9_min_7cf53_6 (by decide) ?_
    exact j_iret C M dJ9_min_7cf53_10 (by decide) (by decide) ⟨congrArg (fun z9 => some (Value.int z9)) (by first | exact (if_pos c_2).symm | exact (if_neg c_2).symm), rfl⟩

set_option maxRecDepth 100000 in
set_option maxHeartbeats 4000000 in
theorem c_maxn_1 (S : Hp) (a9 : Nat) (b9 : Nat) (ho : b9 ≤ a9) (ha : a9 < 2 ^ 31) (hb : b9 < 2 ^ 31) : Ct 1 yJ9_max_7cf53 cJ9_max_7cf53 2 (some .int) 0 0 [.int (nI a9), .int (nI b9)] S (fun r S' => r = some (.int (nI a9)) ∧ S' = S) := by
  refine ct_ofF (by decide +kernel) (Nat.le_of_ble_eq_true rfl) fun x hn9 C M hm9 => ?_
  have C : CB x RJ9 cJ9_max_7cf53 := C
  refine J.eq (lv' := [(0, .int (nI a9)), (1, .int (nI b9))]) rfl rfl rfl ?_
  refine j_iload_n C dJ9_max_7cf53_0 rfl 0 rfl ?_
  refine j_iload_n C dJ9_max_7cf53_1 rfl 1 rfl ?_
  refine j_ic_lt (tgt := 9) C dJ9_max_7cf53_2 (by decide) (fun c_2 => absurd c_2 (nI_nlt (by omega) (by omega))) (fun c_2 => ?_)
  refine j_iload_n C dJ9_max_7cf53_5 rfl 0 rfl ?_
  refine j_goto (tgt := 10) C dJ9_max_7cf53_6 (by decide) ?_
  exact j_iret C M dJ9_max_7cf53_10 (by decide) (by decide) ⟨rfl, rfl⟩

set_option maxRecDepth 100000 in
set_option maxHeartbeats 4000000 in
theorem c_maxn_2 (S : Hp) (a9 : Nat) (b9 : Nat) (ho : a9 < b9) (ha : a9 < 2 ^ 31) (hb : b9 < 2 ^ 31) : Ct 1 yJ9_max_7cf53 cJ9_max_7cf53 2 (some .int) 0 0 [.int (nI a9), .int (nI b9)] S (fun r S' => r = some (.int (nI b9)) ∧ S' = S) := by
  refine ct_ofF (by decide +kernel) (Nat.le_of_ble_eq_true rfl) fun x hn9 C M hm9 => ?_
  have C : CB x RJ9 cJ9_max_7cf53 := C
  refine J.eq (lv' := [(0, .int (nI a9)), (1, .int (nI b9))]) rfl rfl rfl ?_
  refine j_iload_n C dJ9_max_7cf53_0 rfl 0 rfl ?_
  refine j_iload_n C dJ9_max_7cf53_1 rfl 1 rfl ?_
  refine j_ic_lt (tgt := 9) C dJ9_max_7cf53_2 (by decide) (fun c_2 => ?_) (fun c_2 => absurd (nI_lt (by omega) (by omega)) c_2)
  refine j_iload_n C dJ9_max_7cf53_9 rfl 1 rfl ?_
  exact j_iret C M dJ9_max_7cf53_10 (by decide) (by decide) ⟨rfl, rfl⟩

set_option maxRecDepth 100000 in
set_option maxHeartbeats 4000000 in
theorem c_minn_1 (S : Hp) (a9 : Nat) (b9 : Nat) (ho : a9 ≤ b9) (ha : a9 < 2 ^ 31) (hb : b9 < 2 ^ 31) : Ct 1 yJ9_min_7cf53 cJ9_min_7cf53 2 (some .int) 0 0 [.int (nI a9), .int (nI b9)] S (fun r S' => r = some (.int (nI a9)) ∧ S' = S) := by
  refine ct_ofF (by decide +kernel) (Nat.le_of_ble_eq_true rfl) fun x hn9 C M hm9 => ?_
  have C : CB x RJ9 cJ9_min_7cf53 := C
  refine J.eq (lv' := [(0, .int (nI a9)), (1, .int (nI b9))]) rfl rfl rfl ?_
  refine j_iload_n C dJ9_min_7cf53_0 rfl 0 rfl ?_
  refine j_iload_n C dJ9_min_7cf53_1 rfl 1 rfl ?_
  refine j_ic_gt (tgt := 9) C dJ9_min_7cf53_2 (by decide) (fun c_2 => absurd c_2 (nI_nlt (by omega) (by omega))) (fun c_2 => ?_)
  refine j_iload_n C dJ9_min_7cf53_5 rfl 0 rfl ?_
  refine j_goto (tgt := 10) C dJ9_min_7cf53_6 (by decide) ?_
  exact j_iret C M dJ9_min_7cf53_10 (by decide) (by decide) ⟨rfl, rfl⟩

set_option maxRecDepth 100000 in
set_option maxHeartbeats 4000000 in
theorem c_minn_2 (S : Hp) (a9 : Nat) (b9 : Nat) (ho : b9 < a9) (ha : a9 < 2 ^ 31) (hb : b9 < 2 ^ 31) : Ct 1 yJ9_min_7cf53 cJ9_min_7cf53 2 (some .int) 0 0 [.int (nI a9), .int (nI b9)] S (fun r S' => r = some (.int (nI b9)) ∧ S' = S) := by
  refine ct_ofF (by decide +kernel) (Nat.le_of_ble_eq_true rfl) fun x hn9 C M hm9 => ?_
  have C : CB x RJ9 cJ9_min_7cf53 := C
  refine J.eq (lv' := [(0, .int (nI a9)), (1, .int (nI b9))]) rfl rfl rfl ?_
  refine j_iload_n C dJ9_min_7cf53_0 rfl 0 rfl ?_
  refine j_iload_n C dJ9_min_7cf53_1 rfl 1 rfl ?_
  refine j_ic_gt (tgt := 9) C dJ9_min_7cf53_2 (by decide) (fun c_2 => ?_) (fun c_2 => absurd (nI_lt (by omega) (by omega)) c_2)
  refine j_iload_n C dJ9_min_7cf53_9 rfl 1 rfl ?_
  exact j_iret C M dJ9_min_7cf53_10 (by decide) (by decide) ⟨rfl, rfl⟩

theorem dJ9_max_f86c9_0 : decode cJ9_max_f86c9 0 = .ok (.lload_n 0, 1) := by decide +kernel
theorem dJ9_max_f86c9_1 : decode cJ9_max_f86c9 1 = .ok (.lload_n 2, 1) := by decide +kernel
theorem dJ9_max_f86c9_2 : decode cJ9_max_f86c9 2 = .ok (.lcmp, 1) := by decide +kernel
theorem dJ9_max_f86c9_3 : decode cJ9_max_f86c9 3 = .ok (.ifCond .lt 7, 3) := by decide +kernel
theorem dJ9_max_f86c9_6 : decode cJ9_max_f86c9 6 = .ok (.lload_n 0, 1) := by decide +kernel
theorem dJ9_max_f86c9_7 : decode cJ9_max_f86c9 7 = .ok (.goto 4, 3) := by decide +kernel
theorem dJ9_max_f86c9_10 : decode cJ9_max_f86c9 10 = .ok (.lload_n 2, 1) := by decide +kernel
theorem dJ9_max_f86c9_11 : decode cJ9_max_f86c9 11 = .ok (.lreturn, 1) := by decide +kernel

set_option maxRecDepth 100000 in
set_option maxHeartbeats 4000000 in
theorem c_maxl_1 (S : Hp) (a9 : Nat) (b9 : Nat) (ho : b9 ≤ a9) (ha : a9 < 2 ^ 31) (hb : b9 < 2 ^ 31) : Ct 1 yJ9_max_f86c9 cJ9_max_f86c9 4 (some .long) 0 0 [.long (lN a9), .long (lN b9)] S (fun r S' => r = some (.long (lN a9)) ∧ S' = S) := by
  refine ct_ofF (by decide +kernel) (Nat.le_of_ble_eq_true rfl) fun x hn9 C M hm9 => ?_
  have C : CB x RJ9 cJ9_max_f86c9 := C
  refine J.eq (lv' := [(0, .long (lN a9)), (2, .long (lN b9))]) rfl rfl rfl ?_
  refine j_lload_n C dJ9_max_f86c9_0 rfl 0 rfl ?_
  refine j_lload_n C dJ9_max_f86c9_1 rfl 1 rfl ?_
  refine j_lcmp C dJ9_max_f86c9_2 ?_
  refine j_if_lt (tgt := 10) C dJ9_max_f86c9_3 (by decide) (fun c_3 => absurd c_3 (fun h9 => absurd ((lN_lt (by omega) (by omega)).mp ((lg_cmp_lt _ _).mp h9)) (by omega))) (fun c_3 => ?_)
  refine j_lload_n C dJ9_max_f86c9_6 rfl 0 rfl ?_
  refine j_goto (tgt := 11) C dJ9_max_f86c9_7 (by decide) ?_
  exact j_lret C M dJ9_max_f86c9_11 (by decide) (by decide) ⟨rfl, rfl⟩

theorem dJ9_min_f86c9_0 : decode cJ9_min_f86c9 0 = .ok (.lload_n 0, 1) := by decide +kernel
theorem dJ9_min_f86c9_1 : decode cJ9_min_f86c9 1 = .ok (.lload_n 2, 1) := by decide +kernel
theorem dJ9_min_f86c9_2 : decode cJ9_min_f86c9 2 = .ok (.lcmp, 1) := by decide +kernel
theorem dJ9_min_f86c9_3 : decode cJ9_min_f86c9 3 = .ok (.ifCond .gt 7, 3) := by decide +kernel
theorem dJ9_min_f86c9_6 : decode cJ9_min_f86c9 6 = .ok (.lload_n 0, 1) := by decide +kernel
theorem dJ9_min_f86c9_7 : decode cJ9_min_f86c9 7 = .ok (.goto 4, 3) := by decide +kernel
theorem dJ9_min_f86c9_10 : decode cJ9_min_f86c9 10 = .ok (.lload_n 2, 1) := by decide +kernel
theorem dJ9_min_f86c9_11 : decode cJ9_min_f86c9 11 = .ok (.lreturn, 1) := by decide +kernel

set_option maxRecDepth 100000 in
set_option maxHeartbeats 4000000 in
theorem c_minl_1 (S : Hp) (a9 : Nat) (b9 : Nat) (ho : a9 ≤ b9) (ha : a9 < 2 ^ 31) (hb : b9 < 2 ^ 31) : Ct 1 yJ9_min_f86c9 cJ9_min_f86c9 4 (some .long) 0 0 [.long (lN a9), .long (lN b9)] S (fun r S' => r = some (.long (lN a9)) ∧ S' = S) := by
  refine ct_ofF (by decide +kernel) (Nat.le_of_ble_eq_true rfl) fun x hn9 C M hm9 => ?_
  have C : CB x RJ9 cJ9_min_f86c9 := C
  refine J.eq (lv' := [(0, .long (lN a9)), (2, .long (lN b9))]) rfl rfl rfl ?_
  refine j_lload_n C dJ9_min_f86c9_0 rfl 0 rfl ?_
  refine j_lload_n C dJ9_min_f86c9_1 rfl 1 rfl ?_
  refine j_lcmp C dJ9_min_f86c9_2 ?_
  refine j_if_gt (tgt := 10) C dJ9_min_f86c9_3 (by decide) (fun c_3 => absurd c_3 (fun h9 => absurd ((lN_lt (by omega) (by omega)).mp ((lg_cmp_gt _ _).mp h9)) (by omega))) (fun c_3 => ?_)
  refine j_lload_n C dJ9_min_f86c9_6 rfl 0 rfl ?_
  refine j_goto (tgt := 11) C dJ9_min_f86c9_7 (by decide) ?_
  exact j_lret C M dJ9_min_f86c9_11 (by decide) (by decide) ⟨rfl, rfl⟩

theorem dJ6_bitCount_0f7a4_0 : decode cJ6_bitCount_0f7a4 0 = .ok (.iload_n 0, 1) := by decide +kernel
theorem dJ6_bitCount_0f7a4_1 : decode cJ6_bitCount_0f7a4 1 = .ok (.iload_n 0, 1) := by decide +kernel
theorem dJ6_bitCount_0f7a4_2 : decode cJ6_bitCount_0f7a4 2 = .ok (.iconst 1, 1) := by decide +kernel
theorem dJ6_bitCount_0f7a4_3 : decode cJ6_bitCount_0f7a4 3 = .ok (.iushr, 1) := by decide +kernel
theorem dJ6_bitCount_0f7a4_4 : decode cJ6_bitCount_0f7a4 4 = .ok (.ldc_w 265, 3) := by decide +kernel
theorem dJ6_bitCount_0f7a4_7 : decode cJ6_bitCount_0f7a4 7 = .ok (.iand, 1) := by decide +kernel
theorem dJ6_bitCount_0f7a4_8 : decode cJ6_bitCount_0f7a4 8 = .ok (.isub, 1) := by decide +kernel
theorem dJ6_bitCount_0f7a4_9 : decode cJ6_bitCount_0f7a4 9 = .ok (.istore_n 0, 1) := by decide +kernel
theorem dJ6_bitCount_0f7a4_10 : decode cJ6_bitCount_0f7a4 10 = .ok (.iload_n 0, 1) := by decide +kernel
theorem dJ6_bitCount_0f7a4_11 : decode cJ6_bitCount_0f7a4 11 = .ok (.ldc_w 266, 3) := by decide +kernel
theorem dJ6_bitCount_0f7a4_14 : decode cJ6_bitCount_0f7a4 14 = .ok (.iand, 1) := by decide +kernel
theorem dJ6_bitCount_0f7a4_15 : decode cJ6_bitCount_0f7a4 15 = .ok (.iload_n 0, 1) := by decide +kernel
theorem dJ6_bitCount_0f7a4_16 : decode cJ6_bitCount_0f7a4 16 = .ok (.iconst 2, 1) := by decide +kernel
theorem dJ6_bitCount_0f7a4_17 : decode cJ6_bitCount_0f7a4 17 = .ok (.iushr, 1) := by decide +kernel
theorem dJ6_bitCount_0f7a4_18 : decode cJ6_bitCount_0f7a4 18 = .ok (.ldc_w 266, 3) := by decide +kernel
theorem dJ6_bitCount_0f7a4_21 : decode cJ6_bitCount_0f7a4 21 = .ok (.iand, 1) := by decide +kernel
theorem dJ6_bitCount_0f7a4_22 : decode cJ6_bitCount_0f7a4 22 = .ok (.iadd, 1) := by decide +kernel
theorem dJ6_bitCount_0f7a4_23 : decode cJ6_bitCount_0f7a4 23 = .ok (.istore_n 0, 1) := by decide +kernel
theorem dJ6_bitCount_0f7a4_24 : decode cJ6_bitCount_0f7a4 24 = .ok (.iload_n 0, 1) := by decide +kernel
theorem dJ6_bitCount_0f7a4_25 : decode cJ6_bitCount_0f7a4 25 = .ok (.iload_n 0, 1) := by decide +kernel
theorem dJ6_bitCount_0f7a4_26 : decode cJ6_bitCount_0f7a4 26 = .ok (.iconst 4, 1) := by decide +kernel
theorem dJ6_bitCount_0f7a4_27 : decode cJ6_bitCount_0f7a4 27 = .ok (.iushr, 1) := by decide +kernel
theorem dJ6_bitCount_0f7a4_28 : decode cJ6_bitCount_0f7a4 28 = .ok (.iadd, 1) := by decide +kernel
theorem dJ6_bitCount_0f7a4_29 : decode cJ6_bitCount_0f7a4 29 = .ok (.ldc_w 267, 3) := by decide +kernel
theorem dJ6_bitCount_0f7a4_32 : decode cJ6_bitCount_0f7a4 32 = .ok (.iand, 1) := by decide +kernel
theorem dJ6_bitCount_0f7a4_33 : decode cJ6_bitCount_0f7a4 33 = .ok (.istore_n 0, 1) := by decide +kernel
theorem dJ6_bitCount_0f7a4_34 : decode cJ6_bitCount_0f7a4 34 = .ok (.iload_n 0, 1) := by decide +kernel
theorem dJ6_bitCount_0f7a4_35 : decode cJ6_bitCount_0f7a4 35 = .ok (.iload_n 0, 1) := by decide +kernel
theorem dJ6_bitCount_0f7a4_36 : decode cJ6_bitCount_0f7a4 36 = .ok (.bipush 8, 2) := by decide +kernel
theorem dJ6_bitCount_0f7a4_38 : decode cJ6_bitCount_0f7a4 38 = .ok (.iushr, 1) := by decide +kernel
theorem dJ6_bitCount_0f7a4_39 : decode cJ6_bitCount_0f7a4 39 = .ok (.iadd, 1) := by decide +kernel
theorem dJ6_bitCount_0f7a4_40 : decode cJ6_bitCount_0f7a4 40 = .ok (.istore_n 0, 1) := by decide +kernel
theorem dJ6_bitCount_0f7a4_41 : decode cJ6_bitCount_0f7a4 41 = .ok (.iload_n 0, 1) := by decide +kernel
theorem dJ6_bitCount_0f7a4_42 : decode cJ6_bitCount_0f7a4 42 = .ok (.iload_n 0, 1) := by decide +kernel
theorem dJ6_bitCount_0f7a4_43 : decode cJ6_bitCount_0f7a4 43 = .ok (.bipush 16, 2) := by decide +kernel
theorem dJ6_bitCount_0f7a4_45 : decode cJ6_bitCount_0f7a4 45 = .ok (.iushr, 1) := by decide +kernel
theorem dJ6_bitCount_0f7a4_46 : decode cJ6_bitCount_0f7a4 46 = .ok (.iadd, 1) := by decide +kernel
theorem dJ6_bitCount_0f7a4_47 : decode cJ6_bitCount_0f7a4 47 = .ok (.istore_n 0, 1) := by decide +kernel
theorem dJ6_bitCount_0f7a4_48 : decode cJ6_bitCount_0f7a4 48 = .ok (.iload_n 0, 1) := by decide +kernel
theorem dJ6_bitCount_0f7a4_49 : decode cJ6_bitCount_0f7a4 49 = .ok (.bipush 63, 2) := by decide +kernel
theorem dJ6_bitCount_0f7a4_51 : decode cJ6_bitCount_0f7a4 51 = .ok (.iand, 1) := by decide +kernel
theorem dJ6_bitCount_0f7a4_52 : decode cJ6_bitCount_0f7a4 52 = .ok (.ireturn, 1) := by decide +kernel

set_option maxRecDepth 100000 in
set_option maxHeartbeats 4000000 in
theorem c_J6_bitCount_0f7a4 (S : Hp) (x0 : Int32) : Ct 1 yJ6_bitCount_0f7a4 cJ6_bitCount_0f7a4 1 (some .int) 0 0 [.int x0] S (fun r S' => r = some (.int (bcE x0)) ∧ S' = S) := by
  refine ct_of (by decide) (Nat.le_of_ble_eq_true rfl) fun x hn9 C M hm9 => ?_
  have C : CB x RJ6 cJ6_bitCount_0f7a4 := C
  refine J.eq (lv' := [(0, .int x0)]) rfl rfl rfl ?_
  refine j_iload_n C dJ6_bitCount_0f7a4_0 rfl 0 rfl ?_
  refine j_iload_n C dJ6_bitCount_0f7a4_1 rfl 0 rfl ?_
  refine j_iconst (v := 1) C dJ6_bitCount_0f7a4_2 (by decide) ?_
  refine j_iushr C dJ6_bitCount_0f7a4_3 rfl ?_
  refine j_ldcw (v := 1431655765) C dJ6_bitCount_0f7a4_4 kcJ6_265 ?_
  refine j_iand C dJ6_bitCount_0f7a4_7 rfl ?_
  refine j_isub (v := bc1 x0) C dJ6_bitCount_0f7a4_8 rfl ?_
  refine j_istore_n (lv' := [(0, .int (bc1 x0))]) C dJ6_bitCount_0f7a4_9 rfl (by rw [hn9]; decide) rfl ?_
  show J _ _ _ _ _ 10 _
  refine j_iload_n C dJ6_bitCount_0f7a4_10 rfl 0 rfl ?_
  refine j_ldcw (v := 858993459) C dJ6_bitCount_0f7a4_11 kcJ6_266 ?_
  refine j_iand C dJ6_bitCount_0f7a4_14 rfl ?_
  refine j_iload_n C dJ6_bitCount_0f7a4_15 rfl 0 rfl ?_
  refine j_iconst (v := 2) C dJ6_bitCount_0f7a4_16 (by decide) ?_
  refine j_iushr C dJ6_bitCount_0f7a4_17 rfl ?_
  refine j_ldcw (v := 858993459) C dJ6_bitCount_0f7a4_18 kcJ6_266 ?_
  refine j_iand C dJ6_bitCount_0f7a4_21 rfl ?_
  show J _ _ _ _ _ 22 _
  refine j_iadd (v := bc2 (bc1 x0)) C dJ6_bitCount_0f7a4_22 rfl ?_
  refine j_istore_n (lv' := [(0, .int (bc2 (bc1 x0)))]) C dJ6_bitCount_0f7a4_23 rfl (by rw [hn9]; decide) rfl ?_
  refine j_iload_n C dJ6_bitCount_0f7a4_24 rfl 0 rfl ?_
  refine j_iload_n C dJ6_bitCount_0f7a4_25 rfl 0 rfl ?_
  refine j_iconst (v := 4) C dJ6_bitCount_0f7a4_26 (by decide) ?_
  refine j_iushr C dJ6_bitCount_0f7a4_27 rfl ?_
  refine j_iadd C dJ6_bitCount_0f7a4_28 rfl ?_
  refine j_ldcw (v := 252645135) C dJ6_bitCount_0f7a4_29 kcJ6_267 ?_
  show J _ _ _ _ _ 32 _
  refine j_iand (v := bc3 (bc2 (bc1 x0))) C dJ6_bitCount_0f7a4_32 rfl ?_
  refine j_istore_n (lv' := [(0, .int (bc3 (bc2 (bc1 x0))))]) C dJ6_bitCount_0f7a4_33 rfl (by rw [hn9]; decide) rfl ?_
  refine j_iload_n C dJ6_bitCount_0f7a4_34 rfl 0 rfl ?_
  refine j_iload_n C dJ6_bitCount_0f7a4_35 rfl 0 rfl ?_
  refine j_bipush (v := 8) C dJ6_bitCount_0f7a4_36 (by decide) ?_
  refine j_iushr C dJ6_bitCount_0f7a4_38 rfl ?_
  refine j_iadd (v := bc4 (bc3 (bc2 (bc1 x0)))) C dJ6_bitCount_0f7a4_39 rfl ?_
  refine j_istore_n (lv' := [(0, .int (bc4 (bc3 (bc2 (bc1 x0)))))]) C dJ6_bitCount_0f7a4_40 rfl (by rw [hn9]; decide) rfl ?_
  show J _ _ _ _ _ 41 _
  refine j_iload_n C dJ6_bitCount_0f7a4_41 rfl 0 rfl ?_
  refine j_iload_n C dJ6_bitCount_0f7a4_42 rfl 0 rfl ?_
  refine j_bipush (v := 16) C dJ6_bitCount_0f7a4_43 (by decide) ?_
  refine j_iushr C dJ6_bitCount_0f7a4_45 rfl ?_
  refine j_iadd (v := bc5 (bc4 (bc3 (bc2 (bc1 x0))))) C dJ6_bitCount_0f7a4_46 rfl ?_
  refine j_istore_n (lv' := [(0, .int (bc5 (bc4 (bc3 (bc2 (bc1 x0))))))]) C dJ6_bitCount_0f7a4_47 rfl (by rw [hn9]; decide) rfl ?_
  refine j_iload_n C dJ6_bitCount_0f7a4_48 rfl 0 rfl ?_
  refine j_bipush (v := 63) C dJ6_bitCount_0f7a4_49 (by decide) ?_
  show J _ _ _ _ _ 51 _
  refine j_iand (v := bcE x0) C dJ6_bitCount_0f7a4_51 rfl ?_
  exact j_iret C M dJ6_bitCount_0f7a4_52 (by decide) (by decide) ⟨rfl, rfl⟩
