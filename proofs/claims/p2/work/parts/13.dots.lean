theorem dX11_zerosAhead_0 : decode cX11_zerosAhead 0 = .ok (.iload_n 0, 1) := by decide +kernel
theorem dX11_zerosAhead_1 : decode cX11_zerosAhead 1 = .ok (.iload_n 0, 1) := by decide +kernel
theorem dX11_zerosAhead_2 : decode cX11_zerosAhead 2 = .ok (.iconst 1, 1) := by decide +kernel
theorem dX11_zerosAhead_3 : decode cX11_zerosAhead 3 = .ok (.iushr, 1) := by decide +kernel
theorem dX11_zerosAhead_4 : decode cX11_zerosAhead 4 = .ok (.ior, 1) := by decide +kernel
theorem dX11_zerosAhead_5 : decode cX11_zerosAhead 5 = .ok (.istore_n 1, 1) := by decide +kernel
theorem dX11_zerosAhead_6 : decode cX11_zerosAhead 6 = .ok (.iload_n 1, 1) := by decide +kernel
theorem dX11_zerosAhead_7 : decode cX11_zerosAhead 7 = .ok (.iload_n 1, 1) := by decide +kernel
theorem dX11_zerosAhead_8 : decode cX11_zerosAhead 8 = .ok (.iconst 2, 1) := by decide +kernel
theorem dX11_zerosAhead_9 : decode cX11_zerosAhead 9 = .ok (.iushr, 1) := by decide +kernel
theorem dX11_zerosAhead_10 : decode cX11_zerosAhead 10 = .ok (.ior, 1) := by decide +kernel
theorem dX11_zerosAhead_11 : decode cX11_zerosAhead 11 = .ok (.istore_n 1, 1) := by decide +kernel
theorem dX11_zerosAhead_12 : decode cX11_zerosAhead 12 = .ok (.iload_n 1, 1) := by decide +kernel
theorem dX11_zerosAhead_13 : decode cX11_zerosAhead 13 = .ok (.iload_n 1, 1) := by decide +kernel
theorem dX11_zerosAhead_14 : decode cX11_zerosAhead 14 = .ok (.iconst 4, 1) := by decide +kernel
theorem dX11_zerosAhead_15 : decode cX11_zerosAhead 15 = .ok (.iushr, 1) := by decide +kernel
theorem dX11_zerosAhead_16 : decode cX11_zerosAhead 16 = .ok (.ior, 1) := by decide +kernel
theorem dX11_zerosAhead_17 : decode cX11_zerosAhead 17 = .ok (.istore_n 1, 1) := by decide +kernel
theorem dX11_zerosAhead_18 : decode cX11_zerosAhead 18 = .ok (.iload_n 1, 1) := by decide +kernel
theorem dX11_zerosAhead_19 : decode cX11_zerosAhead 19 = .ok (.iload_n 1, 1) := by decide +kernel
theorem dX11_zerosAhead_20 : decode cX11_zerosAhead 20 = .ok (.bipush 8, 2) := by decide +kernel
theorem dX11_zerosAhead_22 : decode cX11_zerosAhead 22 = .ok (.iushr, 1) := by decide +kernel
theorem dX11_zerosAhead_23 : decode cX11_zerosAhead 23 = .ok (.ior, 1) := by decide +kernel
theorem dX11_zerosAhead_24 : decode cX11_zerosAhead 24 = .ok (.istore_n 1, 1) := by decide +kernel
theorem dX11_zerosAhead_25 : decode cX11_zerosAhead 25 = .ok (.iload_n 1, 1) := by decide +kernel
theorem dX11_zerosAhead_26 : decode cX11_zerosAhead 26 = .ok (.iload_n 1, 1) := by decide +kernel
theorem dX11_zerosAhead_27 : decode cX11_zerosAhead 27 = .ok (.bipush 16, 2) := by decide +kernel
theorem dX11_zerosAhead_29 : decode cX11_zerosAhead 29 = .ok (.iushr, 1) := by decide +kernel
theorem dX11_zerosAhead_30 : decode cX11_zerosAhead 30 = .ok (.ior, 1) := by decide +kernel
theorem dX11_zerosAhead_31 : decode cX11_zerosAhead 31 = .ok (.istore_n 1, 1) := by decide +kernel
theorem dX11_zerosAhead_32 : decode cX11_zerosAhead 32 = .ok (.bipush 32, 2) := by decide +kernel
theorem dX11_zerosAhead_34 : decode cX11_zerosAhead 34 = .ok (.iload_n 1, 1) := by decide +kernel
theorem dX11_zerosAhead_35 : decode cX11_zerosAhead 35 = .ok (.invokestatic 148, 3) := by decide +kernel
theorem dX11_zerosAhead_38 : decode cX11_zerosAhead 38 = .ok (.isub, 1) := by decide +kernel
theorem dX11_zerosAhead_39 : decode cX11_zerosAhead 39 = .ok (.ireturn, 1) := by decide +kernel

set_option maxRecDepth 100000 in
set_option maxHeartbeats 4000000 in
theorem c_X11_zerosAhead (S : Hp) (w0 : Int32) : Ct 2 yX11_zerosAhead cX11_zerosAhead 2 (some .int) 0 0 [.int w0] S (fun r S' => r = some (.int (nI (lz w0))) ∧ S' = S) := by
  refine ct_of (by decide) (Nat.le_of_ble_eq_true rfl) fun x hn9 C M hm9 => ?_
  have C : CB x RX11 cX11_zerosAhead := C
  refine J.eq (lv' := [(0, .int w0)]) rfl rfl rfl ?_
  refine j_iload_n C dX11_zerosAhead_0 rfl 0 rfl ?_
  refine j_iload_n C dX11_zerosAhead_1 rfl 0 rfl ?_
  refine j_iconst (v := 1) C dX11_zerosAhead_2 (by decide) ?_
  refine j_iushr C dX11_zerosAhead_3 rfl ?_
  refine j_ior (v := sm 1 w0) C dX11_zerosAhead_4 rfl ?_
  refine j_istore_n (lv' := [(1, .int (sm 1 w0)), (0, .int w0)]) C dX11_zerosAhead_5 rfl (by rw [hn9]; decide) rfl ?_
  refine j_iload_n C dX11_zerosAhead_6 rfl 0 rfl ?_
  refine j_iload_n C dX11_zerosAhead_7 rfl 0 rfl ?_
  show J _ _ _ _ _ 8 _
  refine j_iconst (v := 2) C dX11_zerosAhead_8 (by decide) ?_
  refine j_iushr C dX11_zerosAhead_9 rfl ?_
  refine j_ior (v := sm 2 (sm 1 w0)) C dX11_zerosAhead_10 rfl ?_
  refine j_istore_n (lv' := [(1, .int (sm 2 (sm 1 w0))), (0, .int w0)]) C dX11_zerosAhead_11 rfl (by rw [hn9]; decide) rfl ?_
  refine j_iload_n C dX11_zerosAhead_12 rfl 0 rfl ?_
  refine j_iload_n C dX11_zerosAhead_13 rfl 0 rfl ?_
  refine j_iconst (v := 4) C dX11_zerosAhead_14 (by decide) ?_
  refine j_iushr C dX11_zerosAhead_15 rfl ?_
  show J _ _ _ _ _ 16 _
  refine j_ior (v := sm 4 (sm 2 (sm 1 w0))) C dX11_zerosAhead_16 rfl ?_
  refine j_istore_n (lv' := [(1, .int (sm 4 (sm 2 (sm 1 w0)))), (0, .int w0)]) C dX11_zerosAhead_17 rfl (by rw [hn9]; decide) rfl ?_
  refine j_iload_n C dX11_zerosAhead_18 rfl 0 rfl ?_
  refine j_iload_n C dX11_zerosAhead_19 rfl 0 rfl ?_
  refine j_bipush (v := 8) C dX11_zerosAhead_20 (by decide) ?_
  refine j_iushr C dX11_zerosAhead_22 rfl ?_
  refine j_ior (v := sm 8 (sm 4 (sm 2 (sm 1 w0)))) C dX11_zerosAhead_23 rfl ?_
  refine j_istore_n (lv' := [(1, .int (sm 8 (sm 4 (sm 2 (sm 1 w0))))), (0, .int w0)]) C dX11_zerosAhead_24 rfl (by rw [hn9]; decide) rfl ?_
  show J _ _ _ _ _ 25 _
  refine j_iload_n C dX11_zerosAhead_25 rfl 0 rfl ?_
  refine j_iload_n C dX11_zerosAhead_26 rfl 0 rfl ?_
  refine j_bipush (v := 16) C dX11_zerosAhead_27 (by decide) ?_
  refine j_iushr C dX11_zerosAhead_29 rfl ?_
  refine j_ior (v := sm 16 (sm 8 (sm 4 (sm 2 (sm 1 w0))))) C dX11_zerosAhead_30 rfl ?_
  refine j_istore_n (lv' := [(1, .int (sm 16 (sm 8 (sm 4 (sm 2 (sm 1 w0)))))), (0, .int w0)]) C dX11_zerosAhead_31 rfl (by rw [hn9]; decide) rfl ?_
  refine j_bipush (v := 32) C dX11_zerosAhead_32 (by decide) ?_
  refine j_iload_n C dX11_zerosAhead_34 rfl 0 rfl ?_
  show J _ _ _ _ _ 35 _
  refine j_callS C [.int (sm 16 (sm 8 (sm 4 (sm 2 (sm 1 w0)))))] [.int 32] mlX11_148 mcJ6_bitCount_0f7a4 (c_J6_bitCount_0f7a4 S (sm 16 (sm 8 (sm 4 (sm 2 (sm 1 w0)))))) (M.rm (by decide) (by decide) (Nat.le_of_ble_eq_true rfl) (Nat.le_of_ble_eq_true rfl)) rfl rfl (Nat.le_of_ble_eq_true rfl) dX11_zerosAhead_35 (fun r_1 S_2 hp_3 => ?_)
  obtain ⟨rfl, e_4⟩ := hp_3
  refine J.eq (S' := S) (st' := [.int (bcE (sm 16 (sm 8 (sm 4 (sm 2 (sm 1 w0)))))), .int 32]) (lv' := [(1, .int (sm 16 (sm 8 (sm 4 (sm 2 (sm 1 w0)))))), (0, .int w0)]) e_4 rfl rfl ?_
  refine j_isub (v := nI (lz w0)) C dX11_zerosAhead_38 (za_ok w0) ?_
  exact j_iret C M dX11_zerosAhead_39 (Nat.le_of_ble_eq_true rfl) (Nat.le_of_ble_eq_true rfl) ⟨rfl, rfl⟩

theorem and1_bt (x : Int32) : x &&& 1 = cI (bt x 0) := b_ext fun i hi => by
  rw [b_and, show bt 1 i = decide (i = 0) from (by decide +kernel : ∀ i, i < 32 → bt 1 i = decide (i = 0)) i hi]
  rcases Nat.eq_zero_or_pos i with rfl | h
  · cases h : bt x 0 <;> simp [cI] <;> decide
  · rw [decide_eq_false (by omega), Bool.and_false]
    cases bt x 0
    · exact (b_0 i).symm
    · exact ((by decide +kernel : ∀ i, i < 32 → 0 < i → bt (cI true) i = false) i hi h).symm
theorem dot_bt (x : Int32) {n : Nat} (hn : n < 32) : (x.toUInt32 >>> ((nI n).toUInt32 &&& Int32.toUInt32 31)).toInt32 &&& 1 = cI (bt x n) := by
  rw [and1_bt, b_ushr n hn, Nat.add_zero]
theorem cI_z (c : Bool) : narrow .boolean (.int (cI c)) = .int (cI c) := by cases c <;> rfl

theorem dX11_dotAt_0 : decode cX11_dotAt 0 = .ok (.iload_n 1, 1) := by decide +kernel
theorem dX11_dotAt_1 : decode cX11_dotAt 1 = .ok (.iload_n 2, 1) := by decide +kernel
theorem dX11_dotAt_2 : decode cX11_dotAt 2 = .ok (.iconst 5, 1) := by decide +kernel
theorem dX11_dotAt_3 : decode cX11_dotAt 3 = .ok (.ishr, 1) := by decide +kernel
theorem dX11_dotAt_4 : decode cX11_dotAt 4 = .ok (.iadd, 1) := by decide +kernel
theorem dX11_dotAt_5 : decode cX11_dotAt 5 = .ok (.istore_n 3, 1) := by decide +kernel
theorem dX11_dotAt_6 : decode cX11_dotAt 6 = .ok (.iload_n 1, 1) := by decide +kernel
theorem dX11_dotAt_7 : decode cX11_dotAt 7 = .ok (.ifCond .lt 17, 3) := by decide +kernel
theorem dX11_dotAt_10 : decode cX11_dotAt 10 = .ok (.iload_n 2, 1) := by decide +kernel
theorem dX11_dotAt_11 : decode cX11_dotAt 11 = .ok (.ifCond .lt 13, 3) := by decide +kernel
theorem dX11_dotAt_14 : decode cX11_dotAt 14 = .ok (.iload_n 3, 1) := by decide +kernel
theorem dX11_dotAt_15 : decode cX11_dotAt 15 = .ok (.ifCond .lt 9, 3) := by decide +kernel
theorem dX11_dotAt_18 : decode cX11_dotAt 18 = .ok (.iload_n 3, 1) := by decide +kernel
theorem dX11_dotAt_19 : decode cX11_dotAt 19 = .ok (.aload_n 0, 1) := by decide +kernel
theorem dX11_dotAt_20 : decode cX11_dotAt 20 = .ok (.arraylength, 1) := by decide +kernel
theorem dX11_dotAt_21 : decode cX11_dotAt 21 = .ok (.if_icmp .lt 5, 3) := by decide +kernel
theorem dX11_dotAt_24 : decode cX11_dotAt 24 = .ok (.iconst 0, 1) := by decide +kernel
theorem dX11_dotAt_25 : decode cX11_dotAt 25 = .ok (.ireturn, 1) := by decide +kernel
theorem dX11_dotAt_26 : decode cX11_dotAt 26 = .ok (.aload_n 0, 1) := by decide +kernel
theorem dX11_dotAt_27 : decode cX11_dotAt 27 = .ok (.iload_n 3, 1) := by decide +kernel
theorem dX11_dotAt_28 : decode cX11_dotAt 28 = .ok (.iaload, 1) := by decide +kernel
theorem dX11_dotAt_29 : decode cX11_dotAt 29 = .ok (.bipush 31, 2) := by decide +kernel
theorem dX11_dotAt_31 : decode cX11_dotAt 31 = .ok (.iload_n 2, 1) := by decide +kernel
theorem dX11_dotAt_32 : decode cX11_dotAt 32 = .ok (.bipush 31, 2) := by decide +kernel
theorem dX11_dotAt_34 : decode cX11_dotAt 34 = .ok (.iand, 1) := by decide +kernel
theorem dX11_dotAt_35 : decode cX11_dotAt 35 = .ok (.isub, 1) := by decide +kernel
theorem dX11_dotAt_36 : decode cX11_dotAt 36 = .ok (.iushr, 1) := by decide +kernel
theorem dX11_dotAt_37 : decode cX11_dotAt 37 = .ok (.iconst 1, 1) := by decide +kernel
theorem dX11_dotAt_38 : decode cX11_dotAt 38 = .ok (.iand, 1) := by decide +kernel
theorem dX11_dotAt_39 : decode cX11_dotAt 39 = .ok (.ireturn, 1) := by decide +kernel

set_option maxRecDepth 100000 in
set_option maxHeartbeats 4000000 in
theorem c_X11_dotAt (S : Hp) (a : Nat) (rw : Nat) (N : Nat) (m_a : a ∈ hL S) (k_a : Kd S a 14) (l_a : Ln S a N) (px : Nat) (hin : rw + px / 32 < N) (hN : N < 2 ^ 31) (hx : px < 2 ^ 31) : Ct 2 yX11_dotAt cX11_dotAt 4 (some .int) 0 0 [.ref a, .int (nI rw), .int (nI px)] S (fun r S' => r = some (.int (cI (dotW (aI S a) rw px))) ∧ S' = S) := by
  refine ct_of (by decide) (Nat.le_of_ble_eq_true rfl) fun x hn9 C M hm9 => ?_
  have C : CB x RX11 cX11_dotAt := C
  refine J.eq (lv' := [(0, .ref a), (1, .int (nI rw)), (2, .int (nI px))]) rfl rfl rfl ?_
  refine j_iload_n C dX11_dotAt_0 rfl 1 rfl ?_
  refine j_iload_n C dX11_dotAt_1 rfl 2 rfl ?_
  refine j_iconst (v := 5) C dX11_dotAt_2 (by decide) ?_
  refine j_ishr (v := nI (px / 32)) C dX11_dotAt_3 (pk_shrN (by omega) _ 5 (by decide)) ?_
  refine j_iadd (v := nI (rw + (px / 32))) C dX11_dotAt_4 (nI_add rw (px / 32)) ?_
  refine j_istore_n (lv' := [(3, .int (nI (rw + (px / 32)))), (0, .ref a), (1, .int (nI rw)), (2, .int (nI px))]) C dX11_dotAt_5 rfl (by rw [hn9]; decide) rfl ?_
  refine j_iload_n C dX11_dotAt_6 rfl 2 rfl ?_
  refine j_if_lt (tgt := 24) C dX11_dotAt_7 (by decide) (fun c_7 => absurd c_7 (nI_pos (by omega))) (fun c_7 => ?_)
  show J _ _ _ _ _ 10 _
  refine j_iload_n C dX11_dotAt_10 rfl 3 rfl ?_
  refine j_if_lt (tgt := 24) C dX11_dotAt_11 (by decide) (fun c_11 => absurd c_11 (nI_pos (by omega))) (fun c_11 => ?_)
  refine j_iload_n C dX11_dotAt_14 rfl 0 rfl ?_
  refine j_if_lt (tgt := 24) C dX11_dotAt_15 (by decide) (fun c_15 => absurd c_15 (nI_pos (by omega))) (fun c_15 => ?_)
  refine j_iload_n C dX11_dotAt_18 rfl 0 rfl ?_
  refine j_aload_n C dX11_dotAt_19 rfl 1 rfl ?_
  refine j_alen (v := nI N) C dX11_dotAt_20 m_a k_a (by decide) (by decide) (len_of (n := N) l_a rfl) ?_
  refine j_ic_lt (tgt := 26) C dX11_dotAt_21 (by decide) (fun c_21 => ?_) (fun c_21 => absurd (nI_lt (by omega) (by omega)) c_21)
  show J _ _ _ _ _ 26 _
  refine j_aload_n C dX11_dotAt_26 rfl 1 rfl ?_
  refine j_iload_n C dX11_dotAt_27 rfl 0 rfl ?_
  refine j_iald (j := (rw + (px / 32))) (v := aI S a (rw + (px / 32))) C dX11_dotAt_28 m_a k_a (inr_of (n := N) l_a (vp_in_nI (by omega) (by omega))) (nI_clamp (by omega)) rfl ?_
  refine j_bipush (v := 31) C dX11_dotAt_29 (by decide) ?_
  refine j_iload_n C dX11_dotAt_31 rfl 3 rfl ?_
  refine j_bipush (v := 31) C dX11_dotAt_32 (by decide) ?_
  refine j_iand (v := nI (px % 32)) C dX11_dotAt_34 (pk_andN (by omega) 5 (by decide)) ?_
  refine j_isub (v := nI (31 - (px % 32))) C dX11_dotAt_35 (pk_sub (a := 31) (b := (px % 32)) (by omega)) ?_
  show J _ _ _ _ _ 36 _
  refine j_iushr (v := ((aI S a (rw + px / 32)).toUInt32 >>> ((nI (31 - px % 32)).toUInt32 &&& Int32.toUInt32 31)).toInt32) C dX11_dotAt_36 rfl ?_
  refine j_iconst (v := 1) C dX11_dotAt_37 (by decide) ?_
  refine j_iand (v := cI (dotW (aI S a) rw px)) C dX11_dotAt_38 (dot_bt _ (by omega)) ?_
  exact j_iret C M dX11_dotAt_39 (by decide) (by decide) ⟨rfl, rfl⟩

theorem fo_min {wd q l : Nat} (h : q * 32 + l < 2 ^ 31) (hw : wd < 2 ^ 31) : (if nI (q * 32 + l) < nI wd then nI (q * 32 + l) else nI wd) = nI (if wd ≤ 32 * q + l then wd else 32 * q + l) := by
  rw [show 32 * q + l = q * 32 + l by omega]
  by_cases hc : wd ≤ q * 32 + l
  · rw [if_pos hc, if_neg (nI_nlt hc (by omega))]
  · rw [if_neg hc, if_pos (nI_lt (by omega) (by omega))]

theorem dX11_firstOther_0 : decode cX11_firstOther 0 = .ok (.iload_n 2, 1) := by decide +kernel
theorem dX11_firstOther_1 : decode cX11_firstOther 1 = .ok (.ifCond .lt 8, 3) := by decide +kernel
theorem dX11_firstOther_4 : decode cX11_firstOther 4 = .ok (.iload_n 2, 1) := by decide +kernel
theorem dX11_firstOther_5 : decode cX11_firstOther 5 = .ok (.iload_n 3, 1) := by decide +kernel
theorem dX11_firstOther_6 : decode cX11_firstOther 6 = .ok (.if_icmp .lt 5, 3) := by decide +kernel
theorem dX11_firstOther_9 : decode cX11_firstOther 9 = .ok (.iload_n 3, 1) := by decide +kernel
theorem dX11_firstOther_10 : decode cX11_firstOther 10 = .ok (.ireturn, 1) := by decide +kernel
theorem dX11_firstOther_11 : decode cX11_firstOther 11 = .ok (.iload_n 1, 1) := by decide +kernel
theorem dX11_firstOther_12 : decode cX11_firstOther 12 = .ok (.ifCond .ge 14, 3) := by decide +kernel
theorem dX11_firstOther_15 : decode cX11_firstOther 15 = .ok (.iload 4, 2) := by decide +kernel
theorem dX11_firstOther_17 : decode cX11_firstOther 17 = .ok (.ifCond .ne 7, 3) := by decide +kernel
theorem dX11_firstOther_20 : decode cX11_firstOther 20 = .ok (.iload_n 3, 1) := by decide +kernel
theorem dX11_firstOther_21 : decode cX11_firstOther 21 = .ok (.goto 4, 3) := by decide +kernel
theorem dX11_firstOther_24 : decode cX11_firstOther 24 = .ok (.iload_n 2, 1) := by decide +kernel
theorem dX11_firstOther_25 : decode cX11_firstOther 25 = .ok (.ireturn, 1) := by decide +kernel
theorem dX11_firstOther_26 : decode cX11_firstOther 26 = .ok (.iload_n 1, 1) := by decide +kernel
theorem dX11_firstOther_27 : decode cX11_firstOther 27 = .ok (.iload_n 3, 1) := by decide +kernel
theorem dX11_firstOther_28 : decode cX11_firstOther 28 = .ok (.iconst 1, 1) := by decide +kernel
theorem dX11_firstOther_29 : decode cX11_firstOther 29 = .ok (.isub, 1) := by decide +kernel
theorem dX11_firstOther_30 : decode cX11_firstOther 30 = .ok (.iconst 5, 1) := by decide +kernel
theorem dX11_firstOther_31 : decode cX11_firstOther 31 = .ok (.ishr, 1) := by decide +kernel
theorem dX11_firstOther_32 : decode cX11_firstOther 32 = .ok (.iadd, 1) := by decide +kernel
theorem dX11_firstOther_33 : decode cX11_firstOther 33 = .ok (.istore 5, 2) := by decide +kernel
theorem dX11_firstOther_35 : decode cX11_firstOther 35 = .ok (.iload 5, 2) := by decide +kernel
theorem dX11_firstOther_37 : decode cX11_firstOther 37 = .ok (.ifCond .lt 10, 3) := by decide +kernel
theorem dX11_firstOther_40 : decode cX11_firstOther 40 = .ok (.iload 5, 2) := by decide +kernel
theorem dX11_firstOther_42 : decode cX11_firstOther 42 = .ok (.aload_n 0, 1) := by decide +kernel
theorem dX11_firstOther_43 : decode cX11_firstOther 43 = .ok (.arraylength, 1) := by decide +kernel
theorem dX11_firstOther_44 : decode cX11_firstOther 44 = .ok (.if_icmp .lt 5, 3) := by decide +kernel
theorem dX11_firstOther_47 : decode cX11_firstOther 47 = .ok (.iload_n 3, 1) := by decide +kernel
theorem dX11_firstOther_48 : decode cX11_firstOther 48 = .ok (.ireturn, 1) := by decide +kernel
theorem dX11_firstOther_49 : decode cX11_firstOther 49 = .ok (.iload 4, 2) := by decide +kernel
theorem dX11_firstOther_51 : decode cX11_firstOther 51 = .ok (.ineg, 1) := by decide +kernel
theorem dX11_firstOther_52 : decode cX11_firstOther 52 = .ok (.istore 6, 2) := by decide +kernel
theorem dX11_firstOther_54 : decode cX11_firstOther 54 = .ok (.iload_n 1, 1) := by decide +kernel
theorem dX11_firstOther_55 : decode cX11_firstOther 55 = .ok (.iload_n 2, 1) := by decide +kernel
theorem dX11_firstOther_56 : decode cX11_firstOther 56 = .ok (.iconst 5, 1) := by decide +kernel
theorem dX11_firstOther_57 : decode cX11_firstOther 57 = .ok (.ishr, 1) := by decide +kernel
theorem dX11_firstOther_58 : decode cX11_firstOther 58 = .ok (.iadd, 1) := by decide +kernel
theorem dX11_firstOther_59 : decode cX11_firstOther 59 = .ok (.istore 7, 2) := by decide +kernel
theorem dX11_firstOther_61 : decode cX11_firstOther 61 = .ok (.aload_n 0, 1) := by decide +kernel
theorem dX11_firstOther_62 : decode cX11_firstOther 62 = .ok (.iload 7, 2) := by decide +kernel
theorem dX11_firstOther_64 : decode cX11_firstOther 64 = .ok (.iaload, 1) := by decide +kernel
theorem dX11_firstOther_65 : decode cX11_firstOther 65 = .ok (.iload 6, 2) := by decide +kernel
theorem dX11_firstOther_67 : decode cX11_firstOther 67 = .ok (.ixor, 1) := by decide +kernel
theorem dX11_firstOther_68 : decode cX11_firstOther 68 = .ok (.iconst (-1), 1) := by decide +kernel
theorem dX11_firstOther_69 : decode cX11_firstOther 69 = .ok (.iload_n 2, 1) := by decide +kernel
theorem dX11_firstOther_70 : decode cX11_firstOther 70 = .ok (.bipush 31, 2) := by decide +kernel
theorem dX11_firstOther_72 : decode cX11_firstOther 72 = .ok (.iand, 1) := by decide +kernel
theorem dX11_firstOther_73 : decode cX11_firstOther 73 = .ok (.iushr, 1) := by decide +kernel
theorem dX11_firstOther_74 : decode cX11_firstOther 74 = .ok (.iand, 1) := by decide +kernel
theorem dX11_firstOther_75 : decode cX11_firstOther 75 = .ok (.istore 8, 2) := by decide +kernel
theorem dX11_firstOther_77 : decode cX11_firstOther 77 = .ok (.iload 8, 2) := by decide +kernel
theorem dX11_firstOther_79 : decode cX11_firstOther 79 = .ok (.ifCond .ne 25, 3) := by decide +kernel
theorem dX11_firstOther_82 : decode cX11_firstOther 82 = .ok (.iload 7, 2) := by decide +kernel
theorem dX11_firstOther_84 : decode cX11_firstOther 84 = .ok (.iload 5, 2) := by decide +kernel
theorem dX11_firstOther_86 : decode cX11_firstOther 86 = .ok (.if_icmp .ge 18, 3) := by decide +kernel
theorem dX11_firstOther_89 : decode cX11_firstOther 89 = .ok (.iinc 7 1, 3) := by decide +kernel
theorem dX11_firstOther_92 : decode cX11_firstOther 92 = .ok (.aload_n 0, 1) := by decide +kernel
theorem dX11_firstOther_93 : decode cX11_firstOther 93 = .ok (.iload 7, 2) := by decide +kernel
theorem dX11_firstOther_95 : decode cX11_firstOther 95 = .ok (.iaload, 1) := by decide +kernel
theorem dX11_firstOther_96 : decode cX11_firstOther 96 = .ok (.iload 6, 2) := by decide +kernel
theorem dX11_firstOther_98 : decode cX11_firstOther 98 = .ok (.ixor, 1) := by decide +kernel
theorem dX11_firstOther_99 : decode cX11_firstOther 99 = .ok (.istore 8, 2) := by decide +kernel
theorem dX11_firstOther_101 : decode cX11_firstOther 101 = .ok (.goto (-24), 3) := by decide +kernel
theorem dX11_firstOther_104 : decode cX11_firstOther 104 = .ok (.iload 8, 2) := by decide +kernel
theorem dX11_firstOther_106 : decode cX11_firstOther 106 = .ok (.ifCond .ne 7, 3) := by decide +kernel
theorem dX11_firstOther_109 : decode cX11_firstOther 109 = .ok (.iload_n 3, 1) := by decide +kernel
theorem dX11_firstOther_110 : decode cX11_firstOther 110 = .ok (.goto 19, 3) := by decide +kernel
theorem dX11_firstOther_113 : decode cX11_firstOther 113 = .ok (.iload_n 3, 1) := by decide +kernel
theorem dX11_firstOther_114 : decode cX11_firstOther 114 = .ok (.iload 7, 2) := by decide +kernel
theorem dX11_firstOther_116 : decode cX11_firstOther 116 = .ok (.iload_n 1, 1) := by decide +kernel
theorem dX11_firstOther_117 : decode cX11_firstOther 117 = .ok (.isub, 1) := by decide +kernel
theorem dX11_firstOther_118 : decode cX11_firstOther 118 = .ok (.iconst 5, 1) := by decide +kernel
theorem dX11_firstOther_119 : decode cX11_firstOther 119 = .ok (.ishl, 1) := by decide +kernel
theorem dX11_firstOther_120 : decode cX11_firstOther 120 = .ok (.iload 8, 2) := by decide +kernel
theorem dX11_firstOther_122 : decode cX11_firstOther 122 = .ok (.invokestatic 153, 3) := by decide +kernel
theorem dX11_firstOther_125 : decode cX11_firstOther 125 = .ok (.iadd, 1) := by decide +kernel
theorem dX11_firstOther_126 : decode cX11_firstOther 126 = .ok (.invokestatic 156, 3) := by decide +kernel
theorem dX11_firstOther_129 : decode cX11_firstOther 129 = .ok (.ireturn, 1) := by decide +kernel

set_option maxRecDepth 100000 in
set_option maxHeartbeats 4000000 in
theorem c_X11_firstOther (S : Hp) (a : Nat) (rw : Nat) (N : Nat) (m_a : a ∈ hL S) (k_a : Kd S a 14) (l_a : Ln S a N) (fr : Nat) (wd : Nat) (c : Bool) (hfw : fr < wd) (hin : rw + (wd - 1) / 32 < N) (hN : N < 2 ^ 26) (hwd : wd < 2 ^ 26) : Ct 3 yX11_firstOther cX11_firstOther 9 (some .int) 0 0 [.ref a, .int (nI rw), .int (nI fr), .int (nI wd), .int (cI c)] S (fun r S' => r = some (.int (nI (fo (dotW (aI S a) rw) fr wd c))) ∧ S' = S) := by
  refine ct_of (by decide) (Nat.le_of_ble_eq_true rfl) fun x hn9 C M hm9 => ?_
  have C : CB x RX11 cX11_firstOther := C
  refine J.eq (lv' := [(0, .ref a), (1, .int (nI rw)), (2, .int (nI fr)), (3, .int (nI wd)), (4, .int (cI c))]) rfl rfl rfl ?_
  refine j_iload_n C dX11_firstOther_0 rfl 2 rfl ?_
  refine j_if_lt (tgt := 9) C dX11_firstOther_1 (by decide) (fun c_1 => absurd c_1 (nI_pos (by omega))) (fun c_1 => ?_)
  refine j_iload_n C dX11_firstOther_4 rfl 2 rfl ?_
  refine j_iload_n C dX11_firstOther_5 rfl 3 rfl ?_
  refine j_ic_lt (tgt := 11) C dX11_firstOther_6 (by decide) (fun c_6 => ?_) (fun c_6 => absurd (nI_lt (by omega) (by omega)) c_6)
  refine j_iload_n C dX11_firstOther_11 rfl 1 rfl ?_
  refine j_if_ge (tgt := 26) C dX11_firstOther_12 (by decide) (fun c_12 => ?_) (fun c_12 => absurd (nI_pos' (by omega)) c_12)
  refine j_iload_n C dX11_firstOther_26 rfl 1 rfl ?_
  show J _ _ _ _ _ 27 _
  refine j_iload_n C dX11_firstOther_27 rfl 3 rfl ?_
  refine j_iconst (v := 1) C dX11_firstOther_28 (by decide) ?_
  refine j_isub (v := nI (wd - 1)) C dX11_firstOther_29 (pk_sub (a := wd) (b := 1) (by omega)) ?_
  refine j_iconst (v := 5) C dX11_firstOther_30 (by decide) ?_
  refine j_ishr (v := nI ((wd - 1) / 32)) C dX11_firstOther_31 (pk_shrN (by omega) _ 5 (by decide)) ?_
  refine j_iadd (v := nI (rw + ((wd - 1) / 32))) C dX11_firstOther_32 (nI_add rw ((wd - 1) / 32)) ?_
  refine j_istore (lv' := [(5, .int (nI (rw + ((wd - 1) / 32)))), (0, .ref a), (1, .int (nI rw)), (2, .int (nI fr)), (3, .int (nI wd)), (4, .int (cI c))]) C dX11_firstOther_33 (by rw [hn9]; decide) rfl ?_
  refine j_iload C dX11_firstOther_35 0 rfl ?_
  show J _ _ _ _ _ 37 _
  refine j_if_lt (tgt := 47) C dX11_firstOther_37 (by decide) (fun c_37 => absurd c_37 (nI_pos (by omega))) (fun c_37 => ?_)
  refine j_iload C dX11_firstOther_40 0 rfl ?_
  refine j_aload_n C dX11_firstOther_42 rfl 1 rfl ?_
  refine j_alen (v := nI N) C dX11_firstOther_43 m_a k_a (by decide) (by decide) (len_of (n := N) l_a rfl) ?_
  refine j_ic_lt (tgt := 49) C dX11_firstOther_44 (by decide) (fun c_44 => ?_) (fun c_44 => absurd (nI_lt (by omega) (by omega)) c_44)
  refine j_iload C dX11_firstOther_49 5 rfl ?_
  refine j_ineg (v := fI c) C dX11_firstOther_51 (fI_eq c) ?_
  refine j_istore (lv' := [(6, .int (fI c)), (5, .int (nI (rw + ((wd - 1) / 32)))), (0, .ref a), (1, .int (nI rw)), (2, .int (nI fr)), (3, .int (nI wd)), (4, .int (cI c))]) C dX11_firstOther_52 (by rw [hn9]; decide) rfl ?_
  show J _ _ _ _ _ 54 _
  refine j_iload_n C dX11_firstOther_54 rfl 3 rfl ?_
  refine j_iload_n C dX11_firstOther_55 rfl 4 rfl ?_
  refine j_iconst (v := 5) C dX11_firstOther_56 (by decide) ?_
  refine j_ishr (v := nI (fr / 32)) C dX11_firstOther_57 (pk_shrN (by omega) _ 5 (by decide)) ?_
  refine j_iadd (v := nI (rw + (fr / 32))) C dX11_firstOther_58 (nI_add rw (fr / 32)) ?_
  refine j_istore (lv' := [(7, .int (nI (rw + (fr / 32)))), (6, .int (fI c)), (5, .int (nI (rw + ((wd - 1) / 32)))), (0, .ref a), (1, .int (nI rw)), (2, .int (nI fr)), (3, .int (nI wd)), (4, .int (cI c))]) C dX11_firstOther_59 (by rw [hn9]; decide) rfl ?_
  refine j_aload_n C dX11_firstOther_61 rfl 3 rfl ?_
  refine j_iload C dX11_firstOther_62 0 rfl ?_
  show J _ _ _ _ _ 64 _
  refine j_iald (j := (rw + (fr / 32))) (v := aI S a (rw + (fr / 32))) C dX11_firstOther_64 m_a k_a (inr_of (n := N) l_a (vp_in_nI (by omega) (by omega))) (nI_clamp (by omega)) rfl ?_
  refine j_iload C dX11_firstOther_65 1 rfl ?_
  refine j_ixor C dX11_firstOther_67 rfl ?_
  refine j_iconst (v := (-1)) C dX11_firstOther_68 (by decide) ?_
  refine j_iload_n C dX11_firstOther_69 rfl 5 rfl ?_
  refine j_bipush (v := 31) C dX11_firstOther_70 (by decide) ?_
  refine j_iand (v := nI (fr % 32)) C dX11_firstOther_72 (pk_andN (by omega) 5 (by decide)) ?_
  refine j_iushr (v := msk0 (fr % 32)) C dX11_firstOther_73 rfl ?_
  show J _ _ _ _ _ 74 _
  refine j_iand C dX11_firstOther_74 rfl ?_
  refine j_istore (lv' := [(8, .int (((aI S a (rw + (fr / 32))) ^^^ (fI c)) &&& (msk0 (fr % 32)))), (7, .int (nI (rw + (fr / 32)))), (6, .int (fI c)), (5, .int (nI (rw + ((wd - 1) / 32)))), (0, .ref a), (1, .int (nI rw)), (2, .int (nI fr)), (3, .int (nI wd)), (4, .int (cI c))]) C dX11_firstOther_75 (by rw [hn9]; decide) rfl ?_
  have loop_2 : ∀ (m9 q : Nat) (b8 : Int32), q + m9 = ((wd - 1) / 32) → (fr / 32 ≤ q) → (FOI (aI S a) rw fr c q b8) → J x (0) (0) S [(8, .int b8), (7, .int (nI (rw + q))), (6, .int (fI c)), (5, .int (nI (rw + ((wd - 1) / 32)))), (0, .ref a), (1, .int (nI rw)), (2, .int (nI fr)), (3, .int (nI wd)), (4, .int (cI c))] 77 [] := by
    intro m9
    induction m9 with
    | zero =>
      intro q b8 hi_3 hq hb
      refine j_iload C dX11_firstOther_77 0 rfl ?_
      refine j_if_ne (tgt := 104) C dX11_firstOther_79 (by decide) (fun c_79 => ?_) (fun c_79 => ?_)
      · skip
        refine j_iload C dX11_firstOther_104 0 rfl ?_
        refine j_if_ne (tgt := 113) C dX11_firstOther_106 (by decide) (fun c_106 => ?_) (fun c_106 => absurd c_106 c_79)
        refine j_iload_n C dX11_firstOther_113 rfl 7 rfl ?_
        refine j_iload C dX11_firstOther_114 1 rfl ?_
        refine j_iload_n C dX11_firstOther_116 rfl 5 rfl ?_
        refine j_isub (v := nI ((rw + q) - rw)) C dX11_firstOther_117 (pk_sub (a := (rw + q)) (b := rw) (by omega)) ?_
        show J _ _ _ _ _ 118 _
        refine j_iconst (v := 5) C dX11_firstOther_118 (by decide) ?_
        refine j_ishl (v := nI (((rw + q) - rw) * 32)) C dX11_firstOther_119 (pk_shlN _ 5 (by decide) (by omega)) ?_
        refine j_iload C dX11_firstOther_120 0 rfl ?_
        refine j_callS C [.int b8] [.int (nI (((rw + q) - rw) * 32)), .int (nI wd)] mlX11_153 mcX11_zerosAhead (c_X11_zerosAhead S b8) (M.rm (by decide) (by decide) (Nat.le_of_ble_eq_true rfl) (Nat.le_of_ble_eq_true rfl)) rfl rfl (Nat.le_of_ble_eq_true rfl) dX11_firstOther_122 (fun r_4 S_5 hp_6 => ?_)
        obtain ⟨rfl, e_7⟩ := hp_6
        refine J.eq (S' := S) (st' := [.int (nI (lz b8)), .int (nI (((rw + q) - rw) * 32)), .int (nI wd)]) (lv' := [(8, .int b8), (7, .int (nI (rw + q))), (6, .int (fI c)), (5, .int (nI (rw + ((wd - 1) / 32)))), (0, .ref a), (1, .int (nI rw)), (2, .int (nI fr)), (3, .int (nI wd)), (4, .int (cI c))]) e_7 rfl rfl ?_
        refine j_iadd (v := nI ((((rw + q) - rw) * 32) + (lz b8))) C dX11_firstOther_125 (nI_add (((rw + q) - rw) * 32) (lz b8)) ?_
        refine j_callS C [.int (nI wd), .int (nI ((((rw + q) - rw) * 32) + (lz b8)))] [] mlX11_156 mcJ9_min_7cf53 (c_J9_min_7cf53 S (nI wd) (nI ((((rw + q) - rw) * 32) + (lz b8)))) (M.rm (by decide) (by decide) (Nat.le_of_ble_eq_true rfl) (Nat.le_of_ble_eq_true rfl)) rfl rfl (Nat.le_of_ble_eq_true rfl) dX11_firstOther_126 (fun r_8 S_9 hp_10 => ?_)
        obtain ⟨rfl, e_11⟩ := hp_10
        refine J.eq (S' := S) (st' := [.int (if (nI ((((rw + q) - rw) * 32) + (lz b8))) < (nI wd) then (nI ((((rw + q) - rw) * 32) + (lz b8))) else (nI wd))]) (lv' := [(8, .int b8), (7, .int (nI (rw + q))), (6, .int (fI c)), (5, .int (nI (rw + ((wd - 1) / 32)))), (0, .ref a), (1, .int (nI rw)), (2, .int (nI fr)), (3, .int (nI wd)), (4, .int (cI c))]) e_11 rfl rfl ?_
        exact j_iret C M dX11_firstOther_129 (Nat.le_of_ble_eq_true rfl) (Nat.le_of_ble_eq_true rfl) ⟨congrArg (fun z9 => some (Value.int z9)) (by rw [foi_yes hfw hq hb c_79, show rw + q - rw = q by omega]; exact fo_min (by have := lz_lt c_79; omega) (by omega)), rfl⟩
      · skip
        refine j_iload C dX11_firstOther_82 1 rfl ?_
        refine j_iload C dX11_firstOther_84 3 rfl ?_
        show J _ _ _ _ _ 86 _
        refine j_ic_ge (tgt := 104) C dX11_firstOther_86 (by decide) (fun c_86 => ?_) (fun c_86 => absurd (nI_le (by omega) (by omega)) c_86)
        refine j_iload C dX11_firstOther_104 0 rfl ?_
        refine j_if_ne (tgt := 113) C dX11_firstOther_106 (by decide) (fun c_106 => absurd c_106 (fun h9 => h9 c_79)) (fun c_106 => ?_)
        refine j_iload_n C dX11_firstOther_109 rfl 7 rfl ?_
        refine j_goto (tgt := 129) C dX11_firstOther_110 (by decide) ?_
        exact j_iret C M dX11_firstOther_129 (by decide) (by decide) ⟨congrArg (fun z9 => some (Value.int z9)) (by rw [foi_none hfw (by omega) (c_79 ▸ hb)]), rfl⟩
    | succ m9 ih_1 =>
      intro q b8 hi_3 hq hb
      refine j_iload C dX11_firstOther_77 0 rfl ?_
      refine j_if_ne (tgt := 104) C dX11_firstOther_79 (by decide) (fun c_79 => ?_) (fun c_79 => ?_)
      · skip
        refine j_iload C dX11_firstOther_104 0 rfl ?_
        refine j_if_ne (tgt := 113) C dX11_firstOther_106 (by decide) (fun c_106 => ?_) (fun c_106 => absurd c_106 c_79)
        refine j_iload_n C dX11_firstOther_113 rfl 7 rfl ?_
        show J _ _ _ _ _ 114 _
        refine j_iload C dX11_firstOther_114 1 rfl ?_
        refine j_iload_n C dX11_firstOther_116 rfl 5 rfl ?_
        refine j_isub (v := nI ((rw + q) - rw)) C dX11_firstOther_117 (pk_sub (a := (rw + q)) (b := rw) (by omega)) ?_
        refine j_iconst (v := 5) C dX11_firstOther_118 (by decide) ?_
        refine j_ishl (v := nI (((rw + q) - rw) * 32)) C dX11_firstOther_119 (pk_shlN _ 5 (by decide) (by omega)) ?_
        refine j_iload C dX11_firstOther_120 0 rfl ?_
        refine j_callS C [.int b8] [.int (nI (((rw + q) - rw) * 32)), .int (nI wd)] mlX11_153 mcX11_zerosAhead (c_X11_zerosAhead S b8) (M.rm (by decide) (by decide) (Nat.le_of_ble_eq_true rfl) (Nat.le_of_ble_eq_true rfl)) rfl rfl (Nat.le_of_ble_eq_true rfl) dX11_firstOther_122 (fun r_12 S_13 hp_14 => ?_)
        obtain ⟨rfl, e_15⟩ := hp_14
        refine J.eq (S' := S) (st' := [.int (nI (lz b8)), .int (nI (((rw + q) - rw) * 32)), .int (nI wd)]) (lv' := [(8, .int b8), (7, .int (nI (rw + q))), (6, .int (fI c)), (5, .int (nI (rw + ((wd - 1) / 32)))), (0, .ref a), (1, .int (nI rw)), (2, .int (nI fr)), (3, .int (nI wd)), (4, .int (cI c))]) e_15 rfl rfl ?_
        refine j_iadd (v := nI ((((rw + q) - rw) * 32) + (lz b8))) C dX11_firstOther_125 (nI_add (((rw + q) - rw) * 32) (lz b8)) ?_
        show J _ _ _ _ _ 126 _
        refine j_callS C [.int (nI wd), .int (nI ((((rw + q) - rw) * 32) + (lz b8)))] [] mlX11_156 mcJ9_min_7cf53 (c_J9_min_7cf53 S (nI wd) (nI ((((rw + q) - rw) * 32) + (lz b8)))) (M.rm (by decide) (by decide) (Nat.le_of_ble_eq_true rfl) (Nat.le_of_ble_eq_true rfl)) rfl rfl (Nat.le_of_ble_eq_true rfl) dX11_firstOther_126 (fun r_16 S_17 hp_18 => ?_)
        obtain ⟨rfl, e_19⟩ := hp_18
        refine J.eq (S' := S) (st' := [.int (if (nI ((((rw + q) - rw) * 32) + (lz b8))) < (nI wd) then (nI ((((rw + q) - rw) * 32) + (lz b8))) else (nI wd))]) (lv' := [(8, .int b8), (7, .int (nI (rw + q))), (6, .int (fI c)), (5, .int (nI (rw + ((wd - 1) / 32)))), (0, .ref a), (1, .int (nI rw)), (2, .int (nI fr)), (3, .int (nI wd)), (4, .int (cI c))]) e_19 rfl rfl ?_
        exact j_iret C M dX11_firstOther_129 (Nat.le_of_ble_eq_true rfl) (Nat.le_of_ble_eq_true rfl) ⟨congrArg (fun z9 => some (Value.int z9)) (by rw [foi_yes hfw hq hb c_79, show rw + q - rw = q by omega]; exact fo_min (by have := lz_lt c_79; omega) (by omega)), rfl⟩
      · skip
        refine j_iload C dX11_firstOther_82 1 rfl ?_
        refine j_iload C dX11_firstOther_84 3 rfl ?_
        refine j_ic_ge (tgt := 104) C dX11_firstOther_86 (by decide) (fun c_86 => absurd c_86 (nI_ge (by omega) (by omega))) (fun c_86 => ?_)
        refine j_iinc (q := 1) (v := nI ((rw + q) + 1)) (lv' := [(7, .int (nI ((rw + q) + 1))), (8, .int b8), (6, .int (fI c)), (5, .int (nI (rw + ((wd - 1) / 32)))), (0, .ref a), (1, .int (nI rw)), (2, .int (nI fr)), (3, .int (nI wd)), (4, .int (cI c))]) C dX11_firstOther_89 rfl (nI_add (rw + q) 1) (by rw [hn9]; decide) rfl ?_
        refine j_aload_n C dX11_firstOther_92 rfl 4 rfl ?_
        refine j_iload C dX11_firstOther_93 0 rfl ?_
        refine j_iald (j := ((rw + q) + 1)) (v := aI S a ((rw + q) + 1)) C dX11_firstOther_95 m_a k_a (inr_of (n := N) l_a (vp_in_nI (by omega) (by omega))) (nI_clamp (by omega)) rfl ?_
        show J _ _ _ _ _ 96 _
        refine j_iload C dX11_firstOther_96 2 rfl ?_
        refine j_ixor C dX11_firstOther_98 rfl ?_
        refine j_istore (lv' := [(8, .int ((aI S a ((rw + q) + 1)) ^^^ (fI c))), (7, .int (nI ((rw + q) + 1))), (6, .int (fI c)), (5, .int (nI (rw + ((wd - 1) / 32)))), (0, .ref a), (1, .int (nI rw)), (2, .int (nI fr)), (3, .int (nI wd)), (4, .int (cI c))]) C dX11_firstOther_99 (by rw [hn9]; decide) rfl ?_
        refine j_goto (tgt := 77) C dX11_firstOther_101 (by decide) ?_
        refine J.sub [0, 1, 2, 3, 4, 5, 6, 7, 8] (lv' := [(8, .int ((aI S a ((rw + q) + 1)) ^^^ (fI c))), (7, .int (nI (rw + (q + 1)))), (6, .int (fI c)), (5, .int (nI (rw + ((wd - 1) / 32)))), (0, .ref a), (1, .int (nI rw)), (2, .int (nI fr)), (3, .int (nI wd)), (4, .int (cI c))]) (by rfl) ?_
        exact J.eq rfl rfl rfl (ih_1 (q + 1) ((aI S a ((rw + q) + 1)) ^^^ (fI c)) (by omega) (by omega) (foi_next hq (c_79 ▸ hb)))
  refine J.sub [0, 1, 2, 3, 4, 5, 6, 7, 8] (lv' := [(8, .int (((aI S a (rw + (fr / 32))) ^^^ (fI c)) &&& (msk0 (fr % 32)))), (7, .int (nI (rw + (fr / 32)))), (6, .int (fI c)), (5, .int (nI (rw + ((wd - 1) / 32)))), (0, .ref a), (1, .int (nI rw)), (2, .int (nI fr)), (3, .int (nI wd)), (4, .int (cI c))]) (by rfl) ?_
  exact J.eq rfl rfl rfl (loop_2 (((wd - 1) / 32) - (fr / 32)) (fr / 32) (((aI S a (rw + (fr / 32))) ^^^ (fI c)) &&& (msk0 (fr % 32))) (by omega) (Nat.le_refl _) foi_0)

/-- a row's dots by its first word, or NONE: a white one -/
def RP (D : Nat → Int32) (ra : Int32) (P : Nat → Bool) (wd N : Nat) : Prop := (ra = -1 ∧ P = fun _ => false) ∨ ∃ rw : Nat, ra = nI rw ∧ P = dotW D rw ∧ rw + (wd - 1) / 32 < N
theorem fo_w0 {fr wd : Nat} (h : fr < wd) : fo (fun _ => false) fr wd false = wd := fo_all (Nat.le_of_lt h) (fun _ _ _ => rfl)
theorem fo_w1 {fr wd : Nat} (h : fr < wd) : fo (fun _ => false) fr wd true = fr := fo_here h (by decide)

set_option maxRecDepth 100000 in
set_option maxHeartbeats 4000000 in
theorem c_fow (S : Hp) (a : Nat) (fr : Nat) (wd : Nat) (c : Bool) (hfw : fr < wd) (hwd : wd < 2 ^ 26) : Ct 3 yX11_firstOther cX11_firstOther 9 (some .int) 0 0 [.ref a, .int (-1), .int (nI fr), .int (nI wd), .int (cI c)] S (fun r S' => r = some (.int (nI (fo (fun _ => false) fr wd c))) ∧ S' = S) := by
  refine ct_of (by decide) (Nat.le_of_ble_eq_true rfl) fun x hn9 C M hm9 => ?_
  have C : CB x RX11 cX11_firstOther := C
  refine J.eq (lv' := [(0, .ref a), (1, .int (-1)), (2, .int (nI fr)), (3, .int (nI wd)), (4, .int (cI c))]) rfl rfl rfl ?_
  refine j_iload_n C dX11_firstOther_0 rfl 2 rfl ?_
  refine j_if_lt (tgt := 9) C dX11_firstOther_1 (by decide) (fun c_1 => absurd c_1 (nI_pos (by omega))) (fun c_1 => ?_)
  refine j_iload_n C dX11_firstOther_4 rfl 2 rfl ?_
  refine j_iload_n C dX11_firstOther_5 rfl 3 rfl ?_
  refine j_ic_lt (tgt := 11) C dX11_firstOther_6 (by decide) (fun c_6 => ?_) (fun c_6 => absurd (nI_lt (by omega) (by omega)) c_6)
  refine j_iload_n C dX11_firstOther_11 rfl 1 rfl ?_
  refine j_if_ge (tgt := 26) C dX11_firstOther_12 (by decide) (fun c9 => absurd c9 (by decide)) (fun c9 => ?_)
  refine j_iload C dX11_firstOther_15 4 rfl ?_
  show J _ _ _ _ _ 17 _
  refine j_if_ne (tgt := 24) C dX11_firstOther_17 (by decide) (fun c_17 => ?_) (fun c_17 => ?_)
  · skip
    refine j_iload_n C dX11_firstOther_24 rfl 2 rfl ?_
    exact j_iret C M dX11_firstOther_25 (by decide) (by decide) ⟨congrArg (fun z9 => some (Value.int z9)) (by first | (rw [cI_ne0 c_17, fo_w1 hfw]) | (rw [cI_eq0 c_17, fo_w0 hfw])), rfl⟩
  · skip
    refine j_iload_n C dX11_firstOther_20 rfl 3 rfl ?_
    refine j_goto (tgt := 25) C dX11_firstOther_21 (by decide) ?_
    exact j_iret C M dX11_firstOther_25 (by decide) (by decide) ⟨congrArg (fun z9 => some (Value.int z9)) (by first | (rw [cI_ne0 c_17, fo_w1 hfw]) | (rw [cI_eq0 c_17, fo_w0 hfw])), rfl⟩

set_option maxRecDepth 100000 in
set_option maxHeartbeats 4000000 in
theorem c_foo (S : Hp) (a : Nat) (ra : Int32) (fr : Nat) (wd : Nat) (c : Bool) (P : Nat → Bool) (hfw : wd ≤ fr) (hwd : fr < 2 ^ 26) : Ct 3 yX11_firstOther cX11_firstOther 9 (some .int) 0 0 [.ref a, .int ra, .int (nI fr), .int (nI wd), .int (cI c)] S (fun r S' => r = some (.int (nI (fo P fr wd c))) ∧ S' = S) := by
  refine ct_of (by decide) (Nat.le_of_ble_eq_true rfl) fun x hn9 C M hm9 => ?_
  have C : CB x RX11 cX11_firstOther := C
  refine J.eq (lv' := [(0, .ref a), (1, .int ra), (2, .int (nI fr)), (3, .int (nI wd)), (4, .int (cI c))]) rfl rfl rfl ?_
  refine j_iload_n C dX11_firstOther_0 rfl 2 rfl ?_
  refine j_if_lt (tgt := 9) C dX11_firstOther_1 (by decide) (fun c_1 => absurd c_1 (nI_pos (by omega))) (fun c_1 => ?_)
  refine j_iload_n C dX11_firstOther_4 rfl 2 rfl ?_
  refine j_iload_n C dX11_firstOther_5 rfl 3 rfl ?_
  refine j_ic_lt (tgt := 11) C dX11_firstOther_6 (by decide) (fun c_6 => absurd c_6 (nI_nlt (by omega) (by omega))) (fun c_6 => ?_)
  refine j_iload_n C dX11_firstOther_9 rfl 3 rfl ?_
  exact j_iret C M dX11_firstOther_10 (by decide) (by decide) ⟨congrArg (fun z9 => some (Value.int z9)) (by rw [fo_out hfw]), rfl⟩

theorem c_fo (S : Hp) (a : Nat) (ra : Int32) (N : Nat) (m_a : a ∈ hL S) (k_a : Kd S a 14) (l_a : Ln S a N) (fr wd : Nat) (c : Bool) (P : Nat → Bool) (hR : RP (aI S a) ra P wd N) (hN : N < 2 ^ 26) (hwd : wd < 2 ^ 26) (hfr : fr < 2 ^ 26) :
    Ct 3 yX11_firstOther cX11_firstOther 9 (some .int) 0 0 [.ref a, .int ra, .int (nI fr), .int (nI wd), .int (cI c)] S (fun r S' => r = some (.int (nI (fo P fr wd c))) ∧ S' = S) := by
  rcases Nat.lt_or_ge fr wd with h | h
  · rcases hR with ⟨rfl, rfl⟩ | ⟨rw, rfl, rfl, hin⟩
    · exact c_fow S a fr wd c h hwd
    · exact c_X11_firstOther S a rw N m_a k_a l_a fr wd c h hin hN hwd
  · exact c_foo S a ra fr wd c P h hfr

set_option maxRecDepth 100000 in
set_option maxHeartbeats 4000000 in
theorem c_daw (S : Hp) (a : Nat) (px : Nat) (hx : px < 2 ^ 26) : Ct 2 yX11_dotAt cX11_dotAt 4 (some .int) 0 0 [.ref a, .int (-1), .int (nI px)] S (fun r S' => r = some (.int 0) ∧ S' = S) := by
  refine ct_of (by decide) (Nat.le_of_ble_eq_true rfl) fun x hn9 C M hm9 => ?_
  have C : CB x RX11 cX11_dotAt := C
  refine J.eq (lv' := [(0, .ref a), (1, .int (-1)), (2, .int (nI px))]) rfl rfl rfl ?_
  refine j_iload_n C dX11_dotAt_0 rfl 1 rfl ?_
  refine j_iload_n C dX11_dotAt_1 rfl 2 rfl ?_
  refine j_iconst (v := 5) C dX11_dotAt_2 (by decide) ?_
  refine j_ishr (v := nI (px / 32)) C dX11_dotAt_3 (pk_shrN (by omega) _ 5 (by decide)) ?_
  refine j_iadd (v := (-1 + nI (px / 32))) C dX11_dotAt_4 rfl ?_
  refine j_istore_n (lv' := [(3, .int (-1 + nI (px / 32))), (0, .ref a), (1, .int (-1)), (2, .int (nI px))]) C dX11_dotAt_5 rfl (by rw [hn9]; decide) rfl ?_
  refine j_iload_n C dX11_dotAt_6 rfl 2 rfl ?_
  refine j_if_lt (tgt := 24) C dX11_dotAt_7 (by decide) (fun c9 => ?_) (fun c9 => absurd (by decide) c9)
  show J _ _ _ _ _ 24 _
  refine j_iconst (v := 0) C dX11_dotAt_24 (by decide) ?_
  exact j_iret C M dX11_dotAt_25 (by decide) (by decide) ⟨rfl, rfl⟩

theorem c_da (S : Hp) (a : Nat) (ra : Int32) (N : Nat) (m_a : a ∈ hL S) (k_a : Kd S a 14) (l_a : Ln S a N) (px wd : Nat) (P : Nat → Bool) (hR : RP (aI S a) ra P wd N) (hN : N < 2 ^ 26) (hwd : wd < 2 ^ 26) (hpx : px < wd) :
    Ct 2 yX11_dotAt cX11_dotAt 4 (some .int) 0 0 [.ref a, .int ra, .int (nI px)] S (fun r S' => r = some (.int (cI (P px))) ∧ S' = S) := by
  rcases hR with ⟨rfl, rfl⟩ | ⟨rw, rfl, rfl, hin⟩
  · exact c_daw S a px (by omega)
  · exact c_X11_dotAt S a rw N m_a k_a l_a px (by omega) (by omega) (by omega)
/-- the code's b1: where, right of a0, c begins to be left: fr is a0 + 1 -/
def fch (P : Nat → Bool) (c : Bool) (fr wd : Nat) : Nat := fo P (if (if fr = 0 then false else P (fr - 1)) = c then fr else fo P fr wd (!c)) wd c
theorem fc_0s {P : Nat → Bool} {c : Bool} {wd : Nat} (h : 0 = cI c) : fch P c 0 wd = fo P 0 wd c := by
  have : c = false := by cases c <;> simp_all [cI]
  subst this
  simp [fch]
theorem fc_0n {P : Nat → Bool} {c : Bool} {wd : Nat} (h : ¬ 0 = cI c) : fch P c 0 wd = fo P (fo P 0 wd (!c)) wd c := by
  have : c = true := by cases c <;> simp_all [cI]
  subst this
  simp [fch]
theorem fc_1s {P : Nat → Bool} {c : Bool} {p wd : Nat} (h : cI (P p) = cI c) : fch P c (p + 1) wd = fo P (p + 1) wd c := by
  simp [fch, cI_inj.mp h]
theorem fc_1n {P : Nat → Bool} {c : Bool} {p wd : Nat} (h : ¬ cI (P p) = cI c) : fch P c (p + 1) wd = fo P (fo P (p + 1) wd (!c)) wd c := by
  have : ¬ P p = c := fun e => h (by rw [e])
  simp [fch, this]

theorem fo_lt26 {P : Nat → Bool} {fr wd : Nat} {c : Bool} (h : wd < 2 ^ 26) : fo P fr wd c < 2 ^ 26 := Nat.lt_of_le_of_lt fo_le h

theorem dX11_firstChange_0 : decode cX11_firstChange 0 = .ok (.iload_n 2, 1) := by decide +kernel
theorem dX11_firstChange_1 : decode cX11_firstChange 1 = .ok (.iconst 1, 1) := by decide +kernel
theorem dX11_firstChange_2 : decode cX11_firstChange 2 = .ok (.iadd, 1) := by decide +kernel
theorem dX11_firstChange_3 : decode cX11_firstChange 3 = .ok (.istore 5, 2) := by decide +kernel
theorem dX11_firstChange_5 : decode cX11_firstChange 5 = .ok (.iload 5, 2) := by decide +kernel
theorem dX11_firstChange_7 : decode cX11_firstChange 7 = .ok (.ifCond .ne 7, 3) := by decide +kernel
theorem dX11_firstChange_10 : decode cX11_firstChange 10 = .ok (.iconst 0, 1) := by decide +kernel
theorem dX11_firstChange_11 : decode cX11_firstChange 11 = .ok (.goto 12, 3) := by decide +kernel
theorem dX11_firstChange_14 : decode cX11_firstChange 14 = .ok (.aload_n 0, 1) := by decide +kernel
theorem dX11_firstChange_15 : decode cX11_firstChange 15 = .ok (.iload_n 1, 1) := by decide +kernel
theorem dX11_firstChange_16 : decode cX11_firstChange 16 = .ok (.iload 5, 2) := by decide +kernel
theorem dX11_firstChange_18 : decode cX11_firstChange 18 = .ok (.iconst 1, 1) := by decide +kernel
theorem dX11_firstChange_19 : decode cX11_firstChange 19 = .ok (.isub, 1) := by decide +kernel
theorem dX11_firstChange_20 : decode cX11_firstChange 20 = .ok (.invokestatic 131, 3) := by decide +kernel
theorem dX11_firstChange_23 : decode cX11_firstChange 23 = .ok (.istore 6, 2) := by decide +kernel
theorem dX11_firstChange_25 : decode cX11_firstChange 25 = .ok (.iload 6, 2) := by decide +kernel
theorem dX11_firstChange_27 : decode cX11_firstChange 27 = .ok (.iload 4, 2) := by decide +kernel
theorem dX11_firstChange_29 : decode cX11_firstChange 29 = .ok (.if_icmp .ne 8, 3) := by decide +kernel
theorem dX11_firstChange_32 : decode cX11_firstChange 32 = .ok (.iload 5, 2) := by decide +kernel
theorem dX11_firstChange_34 : decode cX11_firstChange 34 = .ok (.goto 15, 3) := by decide +kernel
theorem dX11_firstChange_37 : decode cX11_firstChange 37 = .ok (.aload_n 0, 1) := by decide +kernel
theorem dX11_firstChange_38 : decode cX11_firstChange 38 = .ok (.iload_n 1, 1) := by decide +kernel
theorem dX11_firstChange_39 : decode cX11_firstChange 39 = .ok (.iload 5, 2) := by decide +kernel
theorem dX11_firstChange_41 : decode cX11_firstChange 41 = .ok (.iload_n 3, 1) := by decide +kernel
theorem dX11_firstChange_42 : decode cX11_firstChange 42 = .ok (.iconst 1, 1) := by decide +kernel
theorem dX11_firstChange_43 : decode cX11_firstChange 43 = .ok (.iload 4, 2) := by decide +kernel
theorem dX11_firstChange_45 : decode cX11_firstChange 45 = .ok (.isub, 1) := by decide +kernel
theorem dX11_firstChange_46 : decode cX11_firstChange 46 = .ok (.invokestatic 161, 3) := by decide +kernel
theorem dX11_firstChange_49 : decode cX11_firstChange 49 = .ok (.istore 7, 2) := by decide +kernel
theorem dX11_firstChange_51 : decode cX11_firstChange 51 = .ok (.aload_n 0, 1) := by decide +kernel
theorem dX11_firstChange_52 : decode cX11_firstChange 52 = .ok (.iload_n 1, 1) := by decide +kernel
theorem dX11_firstChange_53 : decode cX11_firstChange 53 = .ok (.iload 7, 2) := by decide +kernel
theorem dX11_firstChange_55 : decode cX11_firstChange 55 = .ok (.iload_n 3, 1) := by decide +kernel
theorem dX11_firstChange_56 : decode cX11_firstChange 56 = .ok (.iload 4, 2) := by decide +kernel
theorem dX11_firstChange_58 : decode cX11_firstChange 58 = .ok (.invokestatic 161, 3) := by decide +kernel
theorem dX11_firstChange_61 : decode cX11_firstChange 61 = .ok (.ireturn, 1) := by decide +kernel

set_option maxRecDepth 100000 in
set_option maxHeartbeats 4000000 in
theorem c_fc0 (S : Hp) (a : Nat) (ra : Int32) (N : Nat) (m_a : a ∈ hL S) (k_a : Kd S a 14) (l_a : Ln S a N) (wd : Nat) (c : Bool) (P : Nat → Bool) (hR : RP (aI S a) ra P wd N) (hN : N < 2 ^ 26) (hwd : wd < 2 ^ 26) : Ct 4 yX11_firstChange cX11_firstChange 8 (some .int) 0 0 [.ref a, .int ra, .int (-1), .int (nI wd), .int (cI c)] S (fun r S' => r = some (.int (nI (fch P c 0 wd))) ∧ S' = S) := by
  refine ct_of (by decide) (Nat.le_of_ble_eq_true rfl) fun x hn9 C M hm9 => ?_
  have C : CB x RX11 cX11_firstChange := C
  refine J.eq (lv' := [(0, .ref a), (1, .int ra), (2, .int (-1)), (3, .int (nI wd)), (4, .int (cI c))]) rfl rfl rfl ?_
  refine j_iload_n C dX11_firstChange_0 rfl 2 rfl ?_
  refine j_iconst (v := 1) C dX11_firstChange_1 (by decide) ?_
  refine j_iadd (v := 0) C dX11_firstChange_2 (by decide) ?_
  refine j_istore (lv' := [(5, .int 0), (0, .ref a), (1, .int ra), (2, .int (-1)), (3, .int (nI wd)), (4, .int (cI c))]) C dX11_firstChange_3 (by rw [hn9]; decide) rfl ?_
  refine j_iload C dX11_firstChange_5 0 rfl ?_
  refine j_if_ne (tgt := 14) C dX11_firstChange_7 (by decide) (fun c9 => absurd c9 (by decide)) (fun c9 => ?_)
  refine j_iconst (v := 0) C dX11_firstChange_10 (by decide) ?_
  refine j_goto (tgt := 23) C dX11_firstChange_11 (by decide) ?_
  show J _ _ _ _ _ 23 _
  refine j_istore (lv' := [(6, .int 0), (5, .int 0), (0, .ref a), (1, .int ra), (2, .int (-1)), (3, .int (nI wd)), (4, .int (cI c))]) C dX11_firstChange_23 (by rw [hn9]; decide) rfl ?_
  refine j_iload C dX11_firstChange_25 0 rfl ?_
  refine j_iload C dX11_firstChange_27 6 rfl ?_
  refine j_ic_ne (tgt := 37) C dX11_firstChange_29 (by decide) (fun c_29 => ?_) (fun c_29 => ?_)
  · skip
    refine j_aload_n C dX11_firstChange_37 rfl 2 rfl ?_
    refine j_iload_n C dX11_firstChange_38 rfl 3 rfl ?_
    refine j_iload C dX11_firstChange_39 1 rfl ?_
    refine j_iload_n C dX11_firstChange_41 rfl 5 rfl ?_
    refine j_iconst (v := 1) C dX11_firstChange_42 (by decide) ?_
    show J _ _ _ _ _ 43 _
    refine j_iload C dX11_firstChange_43 6 rfl ?_
    refine j_isub (v := cI (!c)) C dX11_firstChange_45 (cI_not c) ?_
    refine j_callS C [.ref a, .int ra, .int 0, .int (nI wd), .int (cI (!c))] [] mlX11_161 mcX11_firstOther (c_fo S a ra N m_a k_a l_a 0 wd (!c) P hR (by omega) (by omega) (by omega)) (M.rm (by decide) (by decide) (Nat.le_of_ble_eq_true rfl) (Nat.le_of_ble_eq_true rfl)) rfl rfl (Nat.le_of_ble_eq_true rfl) dX11_firstChange_46 (fun r_1 S_2 hp_3 => ?_)
    obtain ⟨rfl, e_4⟩ := hp_3
    refine J.eq (S' := S) (st' := [.int (nI (fo P 0 wd (!c)))]) (lv' := [(6, .int 0), (5, .int 0), (0, .ref a), (1, .int ra), (2, .int (-1)), (3, .int (nI wd)), (4, .int (cI c))]) e_4 rfl rfl ?_
    refine j_istore (lv' := [(7, .int (nI (fo P 0 wd (!c)))), (6, .int 0), (5, .int 0), (0, .ref a), (1, .int ra), (2, .int (-1)), (3, .int (nI wd)), (4, .int (cI c))]) C dX11_firstChange_49 (by rw [hn9]; decide) rfl ?_
    refine j_aload_n C dX11_firstChange_51 rfl 3 rfl ?_
    refine j_iload_n C dX11_firstChange_52 rfl 4 rfl ?_
    refine j_iload C dX11_firstChange_53 0 rfl ?_
    refine j_iload_n C dX11_firstChange_55 rfl 6 rfl ?_
    show J _ _ _ _ _ 56 _
    refine j_iload C dX11_firstChange_56 7 rfl ?_
    refine j_callS C [.ref a, .int ra, .int (nI (fo P 0 wd (!c))), .int (nI wd), .int (cI c)] [] mlX11_161 mcX11_firstOther (c_fo S a ra N m_a k_a l_a (fo P 0 wd (!c)) wd c P hR (by omega) (by omega) (fo_lt26 hwd)) (M.rm (by decide) (by decide) (Nat.le_of_ble_eq_true rfl) (Nat.le_of_ble_eq_true rfl)) rfl rfl (Nat.le_of_ble_eq_true rfl) dX11_firstChange_58 (fun r_5 S_6 hp_7 => ?_)
    obtain ⟨rfl, e_8⟩ := hp_7
    refine J.eq (S' := S) (st' := [.int (nI (fo P (fo P 0 wd (!c)) wd c))]) (lv' := [(7, .int (nI (fo P 0 wd (!c)))), (6, .int 0), (5, .int 0), (0, .ref a), (1, .int ra), (2, .int (-1)), (3, .int (nI wd)), (4, .int (cI c))]) e_8 rfl rfl ?_
    exact j_iret C M dX11_firstChange_61 (Nat.le_of_ble_eq_true rfl) (Nat.le_of_ble_eq_true rfl) ⟨congrArg (fun z9 => some (Value.int z9)) (by first | rw [fc_0n c_29] | rw [fc_0s c_29]), rfl⟩
  · skip
    refine j_iload C dX11_firstChange_32 1 rfl ?_
    refine j_goto (tgt := 49) C dX11_firstChange_34 (by decide) ?_
    refine j_istore (lv' := [(7, .int 0), (6, .int 0), (5, .int 0), (0, .ref a), (1, .int ra), (2, .int (-1)), (3, .int (nI wd)), (4, .int (cI c))]) C dX11_firstChange_49 (by rw [hn9]; decide) rfl ?_
    refine j_aload_n C dX11_firstChange_51 rfl 3 rfl ?_
    refine j_iload_n C dX11_firstChange_52 rfl 4 rfl ?_
    refine j_iload C dX11_firstChange_53 0 rfl ?_
    show J _ _ _ _ _ 55 _
    refine j_iload_n C dX11_firstChange_55 rfl 6 rfl ?_
    refine j_iload C dX11_firstChange_56 7 rfl ?_
    refine j_callS C [.ref a, .int ra, .int 0, .int (nI wd), .int (cI c)] [] mlX11_161 mcX11_firstOther (c_fo S a ra N m_a k_a l_a 0 wd c P hR (by omega) (by omega) (by omega)) (M.rm (by decide) (by decide) (Nat.le_of_ble_eq_true rfl) (Nat.le_of_ble_eq_true rfl)) rfl rfl (Nat.le_of_ble_eq_true rfl) dX11_firstChange_58 (fun r_9 S_10 hp_11 => ?_)
    obtain ⟨rfl, e_12⟩ := hp_11
    refine J.eq (S' := S) (st' := [.int (nI (fo P 0 wd c))]) (lv' := [(7, .int 0), (6, .int 0), (5, .int 0), (0, .ref a), (1, .int ra), (2, .int (-1)), (3, .int (nI wd)), (4, .int (cI c))]) e_12 rfl rfl ?_
    exact j_iret C M dX11_firstChange_61 (Nat.le_of_ble_eq_true rfl) (Nat.le_of_ble_eq_true rfl) ⟨congrArg (fun z9 => some (Value.int z9)) (by first | rw [fc_0n c_29] | rw [fc_0s c_29]), rfl⟩

set_option maxRecDepth 100000 in
set_option maxHeartbeats 4000000 in
theorem c_fc1 (S : Hp) (a : Nat) (ra : Int32) (N : Nat) (m_a : a ∈ hL S) (k_a : Kd S a 14) (l_a : Ln S a N) (wd : Nat) (c : Bool) (P : Nat → Bool) (hR : RP (aI S a) ra P wd N) (hN : N < 2 ^ 26) (hwd : wd < 2 ^ 26) (p : Nat) (hp : p < wd) : Ct 4 yX11_firstChange cX11_firstChange 8 (some .int) 0 0 [.ref a, .int ra, .int (nI p), .int (nI wd), .int (cI c)] S (fun r S' => r = some (.int (nI (fch P c (p + 1) wd))) ∧ S' = S) := by
  refine ct_of (by decide) (Nat.le_of_ble_eq_true rfl) fun x hn9 C M hm9 => ?_
  have C : CB x RX11 cX11_firstChange := C
  refine J.eq (lv' := [(0, .ref a), (1, .int ra), (2, .int (nI p)), (3, .int (nI wd)), (4, .int (cI c))]) rfl rfl rfl ?_
  refine j_iload_n C dX11_firstChange_0 rfl 2 rfl ?_
  refine j_iconst (v := 1) C dX11_firstChange_1 (by decide) ?_
  refine j_iadd (v := nI (p + 1)) C dX11_firstChange_2 (nI_add p 1) ?_
  refine j_istore (lv' := [(5, .int (nI (p + 1))), (0, .ref a), (1, .int ra), (2, .int (nI p)), (3, .int (nI wd)), (4, .int (cI c))]) C dX11_firstChange_3 (by rw [hn9]; decide) rfl ?_
  refine j_iload C dX11_firstChange_5 0 rfl ?_
  refine j_if_ne (tgt := 14) C dX11_firstChange_7 (by decide) (fun c_7 => ?_) (fun c_7 => absurd c_7 (nI_ne0 (by omega) (by omega)))
  refine j_aload_n C dX11_firstChange_14 rfl 1 rfl ?_
  refine j_iload_n C dX11_firstChange_15 rfl 2 rfl ?_
  show J _ _ _ _ _ 16 _
  refine j_iload C dX11_firstChange_16 0 rfl ?_
  refine j_iconst (v := 1) C dX11_firstChange_18 (by decide) ?_
  refine j_isub (v := nI p) C dX11_firstChange_19 (nI_pred p) ?_
  refine j_callS C [.ref a, .int ra, .int (nI p)] [] mlX11_131 mcX11_dotAt (c_da S a ra N m_a k_a l_a p wd P hR (by omega) (by omega) (by omega)) (M.rm (by decide) (by decide) (Nat.le_of_ble_eq_true rfl) (Nat.le_of_ble_eq_true rfl)) rfl rfl (Nat.le_of_ble_eq_true rfl) dX11_firstChange_20 (fun r_1 S_2 hp_3 => ?_)
  obtain ⟨rfl, e_4⟩ := hp_3
  refine J.eq (S' := S) (st' := [.int (cI (P p))]) (lv' := [(5, .int (nI (p + 1))), (0, .ref a), (1, .int ra), (2, .int (nI p)), (3, .int (nI wd)), (4, .int (cI c))]) e_4 rfl rfl ?_
  refine j_istore (lv' := [(6, .int (cI (P p))), (5, .int (nI (p + 1))), (0, .ref a), (1, .int ra), (2, .int (nI p)), (3, .int (nI wd)), (4, .int (cI c))]) C dX11_firstChange_23 (by rw [hn9]; decide) rfl ?_
  refine j_iload C dX11_firstChange_25 0 rfl ?_
  refine j_iload C dX11_firstChange_27 6 rfl ?_
  refine j_ic_ne (tgt := 37) C dX11_firstChange_29 (by decide) (fun c_29 => ?_) (fun c_29 => ?_)
  · skip
    refine j_aload_n C dX11_firstChange_37 rfl 2 rfl ?_
    show J _ _ _ _ _ 38 _
    refine j_iload_n C dX11_firstChange_38 rfl 3 rfl ?_
    refine j_iload C dX11_firstChange_39 1 rfl ?_
    refine j_iload_n C dX11_firstChange_41 rfl 5 rfl ?_
    refine j_iconst (v := 1) C dX11_firstChange_42 (by decide) ?_
    refine j_iload C dX11_firstChange_43 6 rfl ?_
    refine j_isub (v := cI (!c)) C dX11_firstChange_45 (cI_not c) ?_
    refine j_callS C [.ref a, .int ra, .int (nI (p + 1)), .int (nI wd), .int (cI (!c))] [] mlX11_161 mcX11_firstOther (c_fo S a ra N m_a k_a l_a (p + 1) wd (!c) P hR (by omega) (by omega) (by omega)) (M.rm (by decide) (by decide) (Nat.le_of_ble_eq_true rfl) (Nat.le_of_ble_eq_true rfl)) rfl rfl (Nat.le_of_ble_eq_true rfl) dX11_firstChange_46 (fun r_5 S_6 hp_7 => ?_)
    obtain ⟨rfl, e_8⟩ := hp_7
    refine J.eq (S' := S) (st' := [.int (nI (fo P (p + 1) wd (!c)))]) (lv' := [(6, .int (cI (P p))), (5, .int (nI (p + 1))), (0, .ref a), (1, .int ra), (2, .int (nI p)), (3, .int (nI wd)), (4, .int (cI c))]) e_8 rfl rfl ?_
    refine j_istore (lv' := [(7, .int (nI (fo P (p + 1) wd (!c)))), (6, .int (cI (P p))), (5, .int (nI (p + 1))), (0, .ref a), (1, .int ra), (2, .int (nI p)), (3, .int (nI wd)), (4, .int (cI c))]) C dX11_firstChange_49 (by rw [hn9]; decide) rfl ?_
    show J _ _ _ _ _ 51 _
    refine j_aload_n C dX11_firstChange_51 rfl 3 rfl ?_
    refine j_iload_n C dX11_firstChange_52 rfl 4 rfl ?_
    refine j_iload C dX11_firstChange_53 0 rfl ?_
    refine j_iload_n C dX11_firstChange_55 rfl 6 rfl ?_
    refine j_iload C dX11_firstChange_56 7 rfl ?_
    refine j_callS C [.ref a, .int ra, .int (nI (fo P (p + 1) wd (!c))), .int (nI wd), .int (cI c)] [] mlX11_161 mcX11_firstOther (c_fo S a ra N m_a k_a l_a (fo P (p + 1) wd (!c)) wd c P hR (by omega) (by omega) (fo_lt26 hwd)) (M.rm (by decide) (by decide) (Nat.le_of_ble_eq_true rfl) (Nat.le_of_ble_eq_true rfl)) rfl rfl (Nat.le_of_ble_eq_true rfl) dX11_firstChange_58 (fun r_9 S_10 hp_11 => ?_)
    obtain ⟨rfl, e_12⟩ := hp_11
    refine J.eq (S' := S) (st' := [.int (nI (fo P (fo P (p + 1) wd (!c)) wd c))]) (lv' := [(7, .int (nI (fo P (p + 1) wd (!c)))), (6, .int (cI (P p))), (5, .int (nI (p + 1))), (0, .ref a), (1, .int ra), (2, .int (nI p)), (3, .int (nI wd)), (4, .int (cI c))]) e_12 rfl rfl ?_
    exact j_iret C M dX11_firstChange_61 (Nat.le_of_ble_eq_true rfl) (Nat.le_of_ble_eq_true rfl) ⟨congrArg (fun z9 => some (Value.int z9)) (by first | rw [fc_1n c_29] | rw [fc_1s c_29]), rfl⟩
  · skip
    refine j_iload C dX11_firstChange_32 1 rfl ?_
    refine j_goto (tgt := 49) C dX11_firstChange_34 (by decide) ?_
    show J _ _ _ _ _ 49 _
    refine j_istore (lv' := [(7, .int (nI (p + 1))), (6, .int (cI (P p))), (5, .int (nI (p + 1))), (0, .ref a), (1, .int ra), (2, .int (nI p)), (3, .int (nI wd)), (4, .int (cI c))]) C dX11_firstChange_49 (by rw [hn9]; decide) rfl ?_
    refine j_aload_n C dX11_firstChange_51 rfl 3 rfl ?_
    refine j_iload_n C dX11_firstChange_52 rfl 4 rfl ?_
    refine j_iload C dX11_firstChange_53 0 rfl ?_
    refine j_iload_n C dX11_firstChange_55 rfl 6 rfl ?_
    refine j_iload C dX11_firstChange_56 7 rfl ?_
    refine j_callS C [.ref a, .int ra, .int (nI (p + 1)), .int (nI wd), .int (cI c)] [] mlX11_161 mcX11_firstOther (c_fo S a ra N m_a k_a l_a (p + 1) wd c P hR (by omega) (by omega) (by omega)) (M.rm (by decide) (by decide) (Nat.le_of_ble_eq_true rfl) (Nat.le_of_ble_eq_true rfl)) rfl rfl (Nat.le_of_ble_eq_true rfl) dX11_firstChange_58 (fun r_13 S_14 hp_15 => ?_)
    obtain ⟨rfl, e_16⟩ := hp_15
    refine J.eq (S' := S) (st' := [.int (nI (fo P (p + 1) wd c))]) (lv' := [(7, .int (nI (p + 1))), (6, .int (cI (P p))), (5, .int (nI (p + 1))), (0, .ref a), (1, .int ra), (2, .int (nI p)), (3, .int (nI wd)), (4, .int (cI c))]) e_16 rfl rfl ?_
    exact j_iret C M dX11_firstChange_61 (Nat.le_of_ble_eq_true rfl) (Nat.le_of_ble_eq_true rfl) ⟨congrArg (fun z9 => some (Value.int z9)) (by first | rw [fc_1n c_29] | rw [fc_1s c_29]), rfl⟩

theorem max_sub {a b : Nat} (ha : a < 2 ^ 30) (hb : b < 2 ^ 30) : (if nI a - nI b < 0 then 0 else nI a - nI b) = nI (a - b) := by
  rcases Nat.lt_or_ge a b with h | h
  · rw [if_pos (pk_sneg hb h), show a - b = 0 by omega]; rfl
  · rw [pk_sub h, if_neg (nI_pos (by omega))]
theorem min_32 {a : Nat} (ha : a < 2 ^ 30) : (if (32 : Int32) < nI a then 32 else nI a) = nI (if 32 < a then 32 else a) := by
  rcases Nat.lt_or_ge 32 a with h | h
  · rw [if_pos (show (32 : Int32) < nI a from nI_lt (a := 32) h (by omega)), if_pos h]; rfl
  · rw [if_neg (show ¬ (32 : Int32) < nI a from nI_nlt (a := 32) (b := a) h (by omega)), if_neg (by omega)]
/-- the bits of word w that lie from fr on and ahead of t -/
def mskW (w fr t : Nat) : Int32 := msk0 (fr - w * 32) &&& ((-1 : Int32) <<< (nI (32 - (if 32 < t - w * 32 then 32 else t - w * 32)) &&& 31))
theorem mskW_bt {w fr t i : Nat} (h1 : fr < w * 32 + 32) (h2 : w * 32 < t) (hi : i < 32) : bt (mskW w fr t) (31 - i) = (decide (fr ≤ w * 32 + i) && decide (w * 32 + i < t)) := by
  unfold mskW
  have hs : 32 - (if 32 < t - w * 32 then 32 else t - w * 32) < 32 := by split <;> omega
  rw [b_and, msk0_bt (by omega), b_shl _ hs _ (by omega), b_m1 _ (by omega), Bool.and_true]
  congr 1
  · exact decide_eq_decide.mpr (by omega)
  · refine decide_eq_decide.mpr ?_
    split <;> omega

theorem dX11_maskOf_0 : decode cX11_maskOf 0 = .ok (.iload_n 1, 1) := by decide +kernel
theorem dX11_maskOf_1 : decode cX11_maskOf 1 = .ok (.iload_n 0, 1) := by decide +kernel
theorem dX11_maskOf_2 : decode cX11_maskOf 2 = .ok (.iconst 5, 1) := by decide +kernel
theorem dX11_maskOf_3 : decode cX11_maskOf 3 = .ok (.ishl, 1) := by decide +kernel
theorem dX11_maskOf_4 : decode cX11_maskOf 4 = .ok (.isub, 1) := by decide +kernel
theorem dX11_maskOf_5 : decode cX11_maskOf 5 = .ok (.iconst 0, 1) := by decide +kernel
theorem dX11_maskOf_6 : decode cX11_maskOf 6 = .ok (.invokestatic 165, 3) := by decide +kernel
theorem dX11_maskOf_9 : decode cX11_maskOf 9 = .ok (.istore_n 3, 1) := by decide +kernel
theorem dX11_maskOf_10 : decode cX11_maskOf 10 = .ok (.iload_n 2, 1) := by decide +kernel
theorem dX11_maskOf_11 : decode cX11_maskOf 11 = .ok (.iload_n 0, 1) := by decide +kernel
theorem dX11_maskOf_12 : decode cX11_maskOf 12 = .ok (.iconst 5, 1) := by decide +kernel
theorem dX11_maskOf_13 : decode cX11_maskOf 13 = .ok (.ishl, 1) := by decide +kernel
theorem dX11_maskOf_14 : decode cX11_maskOf 14 = .ok (.isub, 1) := by decide +kernel
theorem dX11_maskOf_15 : decode cX11_maskOf 15 = .ok (.bipush 32, 2) := by decide +kernel
theorem dX11_maskOf_17 : decode cX11_maskOf 17 = .ok (.invokestatic 156, 3) := by decide +kernel
theorem dX11_maskOf_20 : decode cX11_maskOf 20 = .ok (.istore 4, 2) := by decide +kernel
theorem dX11_maskOf_22 : decode cX11_maskOf 22 = .ok (.iload_n 3, 1) := by decide +kernel
theorem dX11_maskOf_23 : decode cX11_maskOf 23 = .ok (.iload 4, 2) := by decide +kernel
theorem dX11_maskOf_25 : decode cX11_maskOf 25 = .ok (.if_icmp .lt 7, 3) := by decide +kernel
theorem dX11_maskOf_28 : decode cX11_maskOf 28 = .ok (.iconst 0, 1) := by decide +kernel
theorem dX11_maskOf_29 : decode cX11_maskOf 29 = .ok (.goto 14, 3) := by decide +kernel
theorem dX11_maskOf_32 : decode cX11_maskOf 32 = .ok (.iconst (-1), 1) := by decide +kernel
theorem dX11_maskOf_33 : decode cX11_maskOf 33 = .ok (.iload_n 3, 1) := by decide +kernel
theorem dX11_maskOf_34 : decode cX11_maskOf 34 = .ok (.iushr, 1) := by decide +kernel
theorem dX11_maskOf_35 : decode cX11_maskOf 35 = .ok (.iconst (-1), 1) := by decide +kernel
theorem dX11_maskOf_36 : decode cX11_maskOf 36 = .ok (.bipush 32, 2) := by decide +kernel
theorem dX11_maskOf_38 : decode cX11_maskOf 38 = .ok (.iload 4, 2) := by decide +kernel
theorem dX11_maskOf_40 : decode cX11_maskOf 40 = .ok (.isub, 1) := by decide +kernel
theorem dX11_maskOf_41 : decode cX11_maskOf 41 = .ok (.ishl, 1) := by decide +kernel
theorem dX11_maskOf_42 : decode cX11_maskOf 42 = .ok (.iand, 1) := by decide +kernel
theorem dX11_maskOf_43 : decode cX11_maskOf 43 = .ok (.ireturn, 1) := by decide +kernel

set_option maxRecDepth 100000 in
set_option maxHeartbeats 4000000 in
theorem c_X11_maskOf (S : Hp) (wo : Nat) (fr : Nat) (to : Nat) (h1 : fr < to) (h2 : fr < wo * 32 + 32) (h3 : wo * 32 < to) (h4 : to < 2 ^ 20) : Ct 2 yX11_maskOf cX11_maskOf 5 (some .int) 0 0 [.int (nI wo), .int (nI fr), .int (nI to)] S (fun r S' => r = some (.int (mskW wo fr to)) ∧ S' = S) := by
  refine ct_of (by decide) (Nat.le_of_ble_eq_true rfl) fun x hn9 C M hm9 => ?_
  have C : CB x RX11 cX11_maskOf := C
  refine J.eq (lv' := [(0, .int (nI wo)), (1, .int (nI fr)), (2, .int (nI to))]) rfl rfl rfl ?_
  refine j_iload_n C dX11_maskOf_0 rfl 1 rfl ?_
  refine j_iload_n C dX11_maskOf_1 rfl 0 rfl ?_
  refine j_iconst (v := 5) C dX11_maskOf_2 (by decide) ?_
  refine j_ishl (v := nI (wo * 32)) C dX11_maskOf_3 (pk_shlN _ 5 (by decide) (by omega)) ?_
  refine j_isub (v := nI fr - nI (wo * 32)) C dX11_maskOf_4 rfl ?_
  refine j_iconst (v := 0) C dX11_maskOf_5 (by decide) ?_
  refine j_callS C [.int (nI fr - nI (wo * 32)), .int 0] [] mlX11_165 mcJ9_max_7cf53 (c_J9_max_7cf53 S (nI fr - nI (wo * 32)) 0) (M.rm (by decide) (by decide) (Nat.le_of_ble_eq_true rfl) (Nat.le_of_ble_eq_true rfl)) rfl rfl (Nat.le_of_ble_eq_true rfl) dX11_maskOf_6 (fun r_1 S_2 hp_3 => ?_)
  obtain ⟨rfl, e_4⟩ := hp_3
  refine J.eq (S' := S) (st' := [.int (if (nI fr - nI (wo * 32)) < 0 then 0 else (nI fr - nI (wo * 32)))]) (lv' := [(0, .int (nI wo)), (1, .int (nI fr)), (2, .int (nI to))]) e_4 rfl rfl ?_
  refine J.eq (st' := .int (nI (fr - wo * 32)) :: []) rfl rfl (congrArg (fun z9 => Value.int z9 :: []) (max_sub (by omega) (by omega))) ?_
  refine j_istore_n (lv' := [(3, .int (nI (fr - wo * 32))), (0, .int (nI wo)), (1, .int (nI fr)), (2, .int (nI to))]) C dX11_maskOf_9 rfl (by rw [hn9]; decide) rfl ?_
  show J _ _ _ _ _ 10 _
  refine j_iload_n C dX11_maskOf_10 rfl 3 rfl ?_
  refine j_iload_n C dX11_maskOf_11 rfl 1 rfl ?_
  refine j_iconst (v := 5) C dX11_maskOf_12 (by decide) ?_
  refine j_ishl (v := nI (wo * 32)) C dX11_maskOf_13 (pk_shlN _ 5 (by decide) (by omega)) ?_
  refine j_isub (v := nI (to - (wo * 32))) C dX11_maskOf_14 (pk_sub (a := to) (b := (wo * 32)) (by omega)) ?_
  refine j_bipush (v := 32) C dX11_maskOf_15 (by decide) ?_
  refine j_callS C [.int (nI (to - (wo * 32))), .int 32] [] mlX11_156 mcJ9_min_7cf53 (c_J9_min_7cf53 S (nI (to - (wo * 32))) 32) (M.rm (by decide) (by decide) (Nat.le_of_ble_eq_true rfl) (Nat.le_of_ble_eq_true rfl)) rfl rfl (Nat.le_of_ble_eq_true rfl) dX11_maskOf_17 (fun r_5 S_6 hp_7 => ?_)
  obtain ⟨rfl, e_8⟩ := hp_7
  refine J.eq (S' := S) (st' := [.int (if 32 < (nI (to - (wo * 32))) then 32 else (nI (to - (wo * 32))))]) (lv' := [(3, .int (nI (fr - wo * 32))), (0, .int (nI wo)), (1, .int (nI fr)), (2, .int (nI to))]) e_8 rfl rfl ?_
  refine J.eq (st' := .int (nI (if 32 < to - wo * 32 then 32 else to - wo * 32)) :: []) rfl rfl (congrArg (fun z9 => Value.int z9 :: []) (min_32 (by omega))) ?_
  refine j_istore (lv' := [(4, .int (nI (if 32 < to - wo * 32 then 32 else to - wo * 32))), (3, .int (nI (fr - wo * 32))), (0, .int (nI wo)), (1, .int (nI fr)), (2, .int (nI to))]) C dX11_maskOf_20 (by rw [hn9]; decide) rfl ?_
  show J _ _ _ _ _ 22 _
  refine j_iload_n C dX11_maskOf_22 rfl 1 rfl ?_
  refine j_iload C dX11_maskOf_23 0 rfl ?_
  refine j_ic_lt (tgt := 32) C dX11_maskOf_25 (by decide) (fun c_25 => ?_) (fun c_25 => absurd (nI_lt (by split <;> omega) (by split <;> omega)) c_25)
  refine j_iconst (v := (-1)) C dX11_maskOf_32 (by decide) ?_
  refine j_iload_n C dX11_maskOf_33 rfl 1 rfl ?_
  refine j_iushr (v := msk0 (fr - wo * 32)) C dX11_maskOf_34 rfl ?_
  refine j_iconst (v := (-1)) C dX11_maskOf_35 (by decide) ?_
  refine j_bipush (v := 32) C dX11_maskOf_36 (by decide) ?_
  show J _ _ _ _ _ 38 _
  refine j_iload C dX11_maskOf_38 0 rfl ?_
  refine j_isub (v := nI (32 - (if 32 < to - wo * 32 then 32 else to - wo * 32))) C dX11_maskOf_40 (pk_sub (a := 32) (by split <;> omega)) ?_
  refine j_ishl C dX11_maskOf_41 rfl ?_
  refine j_iand (v := mskW wo fr to) C dX11_maskOf_42 rfl ?_
  exact j_iret C M dX11_maskOf_43 (Nat.le_of_ble_eq_true rfl) (Nat.le_of_ble_eq_true rfl) ⟨rfl, rfl⟩
