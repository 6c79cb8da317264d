theorem dX9_isMuch_0 : decode cX9_isMuch 0 = .ok (.aload_n 0, 1) := by decide +kernel
theorem dX9_isMuch_1 : decode cX9_isMuch 1 = .ok (.getfield 86, 3) := by decide +kernel
theorem dX9_isMuch_4 : decode cX9_isMuch 4 = .ok (.ldc 90, 2) := by decide +kernel
theorem dX9_isMuch_6 : decode cX9_isMuch 6 = .ok (.if_icmp .gt 23, 3) := by decide +kernel
theorem dX9_isMuch_9 : decode cX9_isMuch 9 = .ok (.aload_n 0, 1) := by decide +kernel
theorem dX9_isMuch_10 : decode cX9_isMuch 10 = .ok (.getfield 12, 3) := by decide +kernel
theorem dX9_isMuch_13 : decode cX9_isMuch 13 = .ok (.getfield 91, 3) := by decide +kernel
theorem dX9_isMuch_16 : decode cX9_isMuch 16 = .ok (.ifCond .ne 13, 3) := by decide +kernel
theorem dX9_isMuch_19 : decode cX9_isMuch 19 = .ok (.aload_n 0, 1) := by decide +kernel
theorem dX9_isMuch_20 : decode cX9_isMuch 20 = .ok (.getfield 77, 3) := by decide +kernel
theorem dX9_isMuch_23 : decode cX9_isMuch 23 = .ok (.getfield 95, 3) := by decide +kernel
theorem dX9_isMuch_26 : decode cX9_isMuch 26 = .ok (.ifCond .eq 7, 3) := by decide +kernel
theorem dX9_isMuch_29 : decode cX9_isMuch 29 = .ok (.iconst 1, 1) := by decide +kernel
theorem dX9_isMuch_30 : decode cX9_isMuch 30 = .ok (.goto 4, 3) := by decide +kernel
theorem dX9_isMuch_33 : decode cX9_isMuch 33 = .ok (.iconst 0, 1) := by decide +kernel
theorem dX9_isMuch_34 : decode cX9_isMuch 34 = .ok (.ireturn, 1) := by decide +kernel

set_option maxRecDepth 100000 in
set_option maxHeartbeats 4000000 in
theorem c_X9_isMuch (S : Hp) (ad : Nat → Nat) (hW : Wd ad S) (gn : Nat) (hI_916_ad6 : hI S 916 (ad 6) = nI gn) (hg : gn ≤ 60000) (hI_5_ad12 : hI S 5 (ad 12) = 0) (hI_603_ad5 : hI S 603 (ad 5) = 0) : Ct 1 yX9_isMuch cX9_isMuch 1 (some .boolean) 0 0 [.ref (ad 6)] S (fun r S' => r = some (.int 0) ∧ S' = S) := by
  refine ct_of (by decide) (Nat.le_of_ble_eq_true rfl) fun x hn9 C M hm9 => ?_
  have C : CB x RX9 cX9_isMuch := C
  refine J.eq (lv' := [(0, .ref (ad 6))]) rfl rfl rfl ?_
  refine j_aload_n C dX9_isMuch_0 rfl 0 rfl ?_
  refine j_geti (f := 916) (v := nI gn) C flX9_86 dX9_isMuch_1 (wm_6 (S := S) hW) (wk_6 (S := S) hW) (by decide) (by decide) rfl hI_916_ad6 ?_
  refine j_ldc (v := 60000) C dX9_isMuch_4 kcX9_90 ?_
  refine j_ic_gt (tgt := 29) C dX9_isMuch_6 (by decide) (fun c_6 => absurd c_6 (nI_nlt (a := 60000) (b := gn) hg (by decide))) (fun c_6 => ?_)
  refine j_aload_n C dX9_isMuch_9 rfl 0 rfl ?_
  refine j_getr (f := 901) (v := (ad 12)) C flX9_12 dX9_isMuch_10 (wm_6 (S := S) hW) (wk_6 (S := S) hW) (by decide) rfl (wr_901_6 (S := S) hW) ?_
  refine j_geti (f := 5) (v := 0) C flX9_91 dX9_isMuch_13 (wm_12 (S := S) hW) (wk_12 (S := S) hW) (by decide) (by decide) rfl hI_5_ad12 ?_
  refine j_if_ne (tgt := 29) C dX9_isMuch_16 (by decide) (fun c9 => absurd c9 (by decide)) (fun c9 => ?_)
  show J _ _ _ _ _ 19 _
  refine j_aload_n C dX9_isMuch_19 rfl 0 rfl ?_
  refine j_getr (f := 900) (v := (ad 5)) C flX9_77 dX9_isMuch_20 (wm_6 (S := S) hW) (wk_6 (S := S) hW) (by decide) rfl (wr_900_6 (S := S) hW) ?_
  refine j_geti (f := 603) (v := 0) C flX9_95 dX9_isMuch_23 (wm_5 (S := S) hW) (wk_5 (S := S) hW) (by decide) (by decide) rfl hI_603_ad5 ?_
  refine j_if_eq (tgt := 33) C dX9_isMuch_26 (by decide) (fun c9 => ?_) (fun c9 => absurd (by decide) c9)
  refine j_iconst (v := 0) C dX9_isMuch_33 (by decide) ?_
  exact j_zret C M rfl dX9_isMuch_34 (by decide) (by decide) ⟨rfl, rfl⟩

theorem dX9_pass_0 : decode cX9_pass 0 = .ok (.aload_n 0, 1) := by decide +kernel
theorem dX9_pass_1 : decode cX9_pass 1 = .ok (.invokevirtual 118, 3) := by decide +kernel
theorem dX9_pass_4 : decode cX9_pass 4 = .ok (.ifCond .eq 5, 3) := by decide +kernel
theorem dX9_pass_7 : decode cX9_pass 7 = .ok (.iconst 0, 1) := by decide +kernel
theorem dX9_pass_8 : decode cX9_pass 8 = .ok (.ireturn, 1) := by decide +kernel
theorem dX9_pass_9 : decode cX9_pass 9 = .ok (.aload_n 0, 1) := by decide +kernel
theorem dX9_pass_10 : decode cX9_pass 10 = .ok (.dup, 1) := by decide +kernel
theorem dX9_pass_11 : decode cX9_pass 11 = .ok (.getfield 86, 3) := by decide +kernel
theorem dX9_pass_14 : decode cX9_pass 14 = .ok (.iload_n 1, 1) := by decide +kernel
theorem dX9_pass_15 : decode cX9_pass 15 = .ok (.iadd, 1) := by decide +kernel
theorem dX9_pass_16 : decode cX9_pass 16 = .ok (.putfield 86, 3) := by decide +kernel
theorem dX9_pass_19 : decode cX9_pass 19 = .ok (.aload_n 0, 1) := by decide +kernel
theorem dX9_pass_20 : decode cX9_pass 20 = .ok (.getfield 82, 3) := by decide +kernel
theorem dX9_pass_23 : decode cX9_pass 23 = .ok (.dup, 1) := by decide +kernel
theorem dX9_pass_24 : decode cX9_pass 24 = .ok (.getfield 201, 3) := by decide +kernel
theorem dX9_pass_27 : decode cX9_pass 27 = .ok (.iload_n 1, 1) := by decide +kernel
theorem dX9_pass_28 : decode cX9_pass 28 = .ok (.iadd, 1) := by decide +kernel
theorem dX9_pass_29 : decode cX9_pass 29 = .ok (.putfield 201, 3) := by decide +kernel
theorem dX9_pass_32 : decode cX9_pass 32 = .ok (.aload_n 0, 1) := by decide +kernel
theorem dX9_pass_33 : decode cX9_pass 33 = .ok (.invokevirtual 118, 3) := by decide +kernel
theorem dX9_pass_36 : decode cX9_pass 36 = .ok (.ifCond .ne 7, 3) := by decide +kernel
theorem dX9_pass_39 : decode cX9_pass 39 = .ok (.iconst 1, 1) := by decide +kernel
theorem dX9_pass_40 : decode cX9_pass 40 = .ok (.goto 4, 3) := by decide +kernel
theorem dX9_pass_43 : decode cX9_pass 43 = .ok (.iconst 0, 1) := by decide +kernel
theorem dX9_pass_44 : decode cX9_pass 44 = .ok (.ireturn, 1) := by decide +kernel

set_option maxRecDepth 100000 in
set_option maxHeartbeats 4000000 in
theorem c_X9_pass (S : Hp) (ad : Nat → Nat) (hW : Wd ad S) (gn : Nat) (p9 : Nat) (hI_916_ad6 : hI S 916 (ad 6) = nI gn) (hR_913_ad6 : hR S 913 (ad 6) = some (ad 35)) (hI_501_ad35 : hI S 501 (ad 35) = nI p9) (hI_5_ad12 : hI S 5 (ad 12) = 0) (hI_603_ad5 : hI S 603 (ad 5) = 0) (k9 : Nat) (hg : gn + k9 ≤ 60000) : Ct 2 yX9_pass cX9_pass 2 (some .boolean) 0 0 [.ref (ad 6), .int (nI k9)] S (fun r S' => r = some (.int 1) ∧ S' = (sI (sI S 916 (ad 6) (nI (gn + k9))) 501 (ad 35) (nI (p9 + k9)))) := by
  refine ct_of (by decide) (Nat.le_of_ble_eq_true rfl) fun x hn9 C M hm9 => ?_
  have C : CB x RX9 cX9_pass := C
  refine J.eq (lv' := [(0, .ref (ad 6)), (1, .int (nI k9))]) rfl rfl rfl ?_
  refine j_aload_n C dX9_pass_0 rfl 0 rfl ?_
  refine j_callV (ci := 9) C [] [] mlX9_118 mcX9_isMuch (c_X9_isMuch S ad hW gn hI_916_ad6 (by omega) hI_5_ad12 hI_603_ad5) (wm_6 (S := S) hW) (wk_6 (S := S) hW) rfl (M.rm (by decide) (by decide) (Nat.le_of_ble_eq_true rfl) (Nat.le_of_ble_eq_true rfl)) rfl rfl (Nat.le_of_ble_eq_true rfl) dX9_pass_1 (fun r_1 S_2 hp_3 => ?_)
  obtain ⟨rfl, e_4⟩ := hp_3
  refine J.eq (S' := S) (st' := [.int 0]) (lv' := [(0, .ref (ad 6)), (1, .int (nI k9))]) e_4 rfl rfl ?_
  refine j_if_eq (tgt := 9) C dX9_pass_4 (by decide) (fun c9 => ?_) (fun c9 => absurd (by decide) c9)
  refine j_aload_n C dX9_pass_9 rfl 0 rfl ?_
  refine j_dup C dX9_pass_10 rfl ?_
  refine j_geti (f := 916) (v := nI gn) C flX9_86 dX9_pass_11 (wm_6 (S := S) hW) (wk_6 (S := S) hW) (by decide) (by decide) rfl hI_916_ad6 ?_
  refine j_iload_n C dX9_pass_14 rfl 1 rfl ?_
  refine j_iadd (v := nI (gn + k9)) C dX9_pass_15 (nI_add gn k9) ?_
  show J _ _ _ _ _ 16 _
  refine j_puti (f := 916) C flX9_86 (by decide) rfl rfl dX9_pass_16 (wm_6 (S := S) hW) (wk_6 (S := S) hW) rfl ?_
  refine j_aload_n C dX9_pass_19 rfl 0 rfl ?_
  refine j_getr (f := 913) (v := (ad 35)) C flX9_82 dX9_pass_20 (wm_6 (S := S) hW) (wk_6 (S := S) hW) (by decide) rfl hR_913_ad6 ?_
  refine j_dup C dX9_pass_23 rfl ?_
  refine j_geti (f := 501) (v := nI p9) C flX9_201 dX9_pass_24 (wm_35 (S := S) hW) (wk_35 (S := S) hW) (by decide) (by decide) rfl (rd_sIf (S := S) (g := 916) (a := (ad 6)) (v := nI (gn + k9)) (by decide) hI_501_ad35) ?_
  refine j_iload_n C dX9_pass_27 rfl 1 rfl ?_
  refine j_iadd (v := nI (p9 + k9)) C dX9_pass_28 (nI_add p9 k9) ?_
  refine j_puti (f := 501) C flX9_201 (by decide) rfl rfl dX9_pass_29 (wm_35 (S := S) hW) (wk_35 (S := S) hW) rfl ?_
  show J _ _ _ _ _ 32 _
  refine j_aload_n C dX9_pass_32 rfl 0 rfl ?_
  refine j_callV (ci := 9) C [] [] mlX9_118 mcX9_isMuch (c_X9_isMuch (sI (sI S 916 (ad 6) (nI (gn + k9))) 501 (ad 35) (nI (p9 + k9))) ad hW (gn + k9) (rd_sIf (S := (sI S 916 (ad 6) (nI (gn + k9)))) (g := 501) (a := (ad 35)) (v := nI (p9 + k9)) (by decide) (rd_sI (S := S) (g := 916) (a := (ad 6)) (v := nI (gn + k9)))) (by omega) (rd_sIf (S := (sI S 916 (ad 6) (nI (gn + k9)))) (g := 501) (a := (ad 35)) (v := nI (p9 + k9)) (by decide) (rd_sIf (S := S) (g := 916) (a := (ad 6)) (v := nI (gn + k9)) (by decide) hI_5_ad12)) (rd_sIf (S := (sI S 916 (ad 6) (nI (gn + k9)))) (g := 501) (a := (ad 35)) (v := nI (p9 + k9)) (by decide) (rd_sIf (S := S) (g := 916) (a := (ad 6)) (v := nI (gn + k9)) (by decide) hI_603_ad5))) (wm_6 (S := S) hW) (wk_6 (S := S) hW) rfl (M.rm (by decide) (by decide) (Nat.le_of_ble_eq_true rfl) (Nat.le_of_ble_eq_true rfl)) rfl rfl (Nat.le_of_ble_eq_true rfl) dX9_pass_33 (fun r_5 S_6 hp_7 => ?_)
  obtain ⟨rfl, e_8⟩ := hp_7
  refine J.eq (S' := (sI (sI S 916 (ad 6) (nI (gn + k9))) 501 (ad 35) (nI (p9 + k9)))) (st' := [.int 0]) (lv' := [(0, .ref (ad 6)), (1, .int (nI k9))]) e_8 rfl rfl ?_
  refine j_if_ne (tgt := 43) C dX9_pass_36 (by decide) (fun c9 => absurd c9 (by decide)) (fun c9 => ?_)
  refine j_iconst (v := 1) C dX9_pass_39 (by decide) ?_
  refine j_goto (tgt := 44) C dX9_pass_40 (by decide) ?_
  exact j_zret C M rfl dX9_pass_44 (Nat.le_of_ble_eq_true rfl) (Nat.le_of_ble_eq_true rfl) ⟨rfl, rfl⟩

theorem dX9_passEach_0 : decode cX9_passEach 0 = .ok (.iconst 1, 1) := by decide +kernel
theorem dX9_passEach_1 : decode cX9_passEach 1 = .ok (.istore_n 2, 1) := by decide +kernel
theorem dX9_passEach_2 : decode cX9_passEach 2 = .ok (.iconst 0, 1) := by decide +kernel
theorem dX9_passEach_3 : decode cX9_passEach 3 = .ok (.istore_n 3, 1) := by decide +kernel
theorem dX9_passEach_4 : decode cX9_passEach 4 = .ok (.iload_n 3, 1) := by decide +kernel
theorem dX9_passEach_5 : decode cX9_passEach 5 = .ok (.iload_n 1, 1) := by decide +kernel
theorem dX9_passEach_6 : decode cX9_passEach 6 = .ok (.if_icmp .ge 19, 3) := by decide +kernel
theorem dX9_passEach_9 : decode cX9_passEach 9 = .ok (.iload_n 2, 1) := by decide +kernel
theorem dX9_passEach_10 : decode cX9_passEach 10 = .ok (.ifCond .eq 15, 3) := by decide +kernel
theorem dX9_passEach_13 : decode cX9_passEach 13 = .ok (.aload_n 0, 1) := by decide +kernel
theorem dX9_passEach_14 : decode cX9_passEach 14 = .ok (.iconst 1, 1) := by decide +kernel
theorem dX9_passEach_15 : decode cX9_passEach 15 = .ok (.invokevirtual 204, 3) := by decide +kernel
theorem dX9_passEach_18 : decode cX9_passEach 18 = .ok (.istore_n 2, 1) := by decide +kernel
theorem dX9_passEach_19 : decode cX9_passEach 19 = .ok (.iinc 3 1, 3) := by decide +kernel
theorem dX9_passEach_22 : decode cX9_passEach 22 = .ok (.goto (-18), 3) := by decide +kernel
theorem dX9_passEach_25 : decode cX9_passEach 25 = .ok (.iload_n 2, 1) := by decide +kernel
theorem dX9_passEach_26 : decode cX9_passEach 26 = .ok (.ireturn, 1) := by decide +kernel

set_option maxRecDepth 100000 in
set_option maxHeartbeats 4000000 in
theorem c_pe1 (S : Hp) (ad : Nat → Nat) (hW : Wd ad S) (gn : Nat) (p9 : Nat) (hI_916_ad6 : hI S 916 (ad 6) = nI gn) (hR_913_ad6 : hR S 913 (ad 6) = some (ad 35)) (hI_501_ad35 : hI S 501 (ad 35) = nI p9) (hI_5_ad12 : hI S 5 (ad 12) = 0) (hI_603_ad5 : hI S 603 (ad 5) = 0) (hg : gn + 1 ≤ 60000) : Ct 3 yX9_passEach cX9_passEach 4 (some .boolean) 0 0 [.ref (ad 6), .int 1] S (fun r S' => r = some (.int 1) ∧ S' = (sI (sI S 916 (ad 6) (nI (gn + 1))) 501 (ad 35) (nI (p9 + 1)))) := by
  refine ct_of (by decide) (Nat.le_of_ble_eq_true rfl) fun x hn9 C M hm9 => ?_
  have C : CB x RX9 cX9_passEach := C
  refine J.eq (lv' := [(0, .ref (ad 6)), (1, .int 1)]) rfl rfl rfl ?_
  refine j_iconst (v := 1) C dX9_passEach_0 (by decide) ?_
  refine j_istore_n (lv' := [(2, .int 1), (0, .ref (ad 6)), (1, .int 1)]) C dX9_passEach_1 rfl (by rw [hn9]; decide) rfl ?_
  refine j_iconst (v := 0) C dX9_passEach_2 (by decide) ?_
  refine j_istore_n (lv' := [(3, .int 0), (2, .int 1), (0, .ref (ad 6)), (1, .int 1)]) C dX9_passEach_3 rfl (by rw [hn9]; decide) rfl ?_
  refine j_iload_n C dX9_passEach_4 rfl 0 rfl ?_
  refine j_iload_n C dX9_passEach_5 rfl 3 rfl ?_
  refine j_ic_ge (tgt := 25) C dX9_passEach_6 (by decide) (fun c9 => absurd c9 (by decide)) (fun c9 => ?_)
  refine j_iload_n C dX9_passEach_9 rfl 1 rfl ?_
  show J _ _ _ _ _ 10 _
  refine j_if_eq (tgt := 25) C dX9_passEach_10 (by decide) (fun c9 => absurd c9 (by decide)) (fun c9 => ?_)
  refine j_aload_n C dX9_passEach_13 rfl 2 rfl ?_
  refine j_iconst (v := 1) C dX9_passEach_14 (by decide) ?_
  refine j_callV (ci := 9) C [.int 1] [] mlX9_204 mcX9_pass (c_X9_pass S ad hW gn p9 hI_916_ad6 hR_913_ad6 hI_501_ad35 hI_5_ad12 hI_603_ad5 1 (by omega)) (wm_6 (S := S) hW) (wk_6 (S := S) hW) rfl (M.rm (by decide) (by decide) (Nat.le_of_ble_eq_true rfl) (Nat.le_of_ble_eq_true rfl)) rfl rfl (Nat.le_of_ble_eq_true rfl) dX9_passEach_15 (fun r_1 S_2 hp_3 => ?_)
  obtain ⟨rfl, e_4⟩ := hp_3
  refine J.eq (S' := (sI (sI S 916 (ad 6) (nI (gn + 1))) 501 (ad 35) (nI (p9 + 1)))) (st' := [.int 1]) (lv' := [(3, .int 0), (2, .int 1), (0, .ref (ad 6)), (1, .int 1)]) e_4 rfl rfl ?_
  refine j_istore_n (lv' := [(2, .int 1), (3, .int 0), (0, .ref (ad 6)), (1, .int 1)]) C dX9_passEach_18 rfl (by rw [hn9]; decide) rfl ?_
  refine j_iinc (q := 1) (v := 1) (lv' := [(3, .int 1), (2, .int 1), (0, .ref (ad 6)), (1, .int 1)]) C dX9_passEach_19 rfl (by decide) (by rw [hn9]; decide) rfl ?_
  refine j_goto (tgt := 4) C dX9_passEach_22 (by decide) ?_
  refine j_iload_n C dX9_passEach_4 rfl 0 rfl ?_
  show J _ _ _ _ _ 5 _
  refine j_iload_n C dX9_passEach_5 rfl 3 rfl ?_
  refine j_ic_ge (tgt := 25) C dX9_passEach_6 (by decide) (fun c9 => ?_) (fun c9 => absurd (by decide) c9)
  refine j_iload_n C dX9_passEach_25 rfl 1 rfl ?_
  exact j_zret C M rfl dX9_passEach_26 (Nat.le_of_ble_eq_true rfl) (Nat.le_of_ble_eq_true rfl) ⟨rfl, rfl⟩

set_option maxRecDepth 100000 in
set_option maxHeartbeats 4000000 in
theorem c_pe2 (S : Hp) (ad : Nat → Nat) (hW : Wd ad S) (gn : Nat) (p9 : Nat) (hI_916_ad6 : hI S 916 (ad 6) = nI gn) (hR_913_ad6 : hR S 913 (ad 6) = some (ad 35)) (hI_501_ad35 : hI S 501 (ad 35) = nI p9) (hI_5_ad12 : hI S 5 (ad 12) = 0) (hI_603_ad5 : hI S 603 (ad 5) = 0) (hg : gn + 2 ≤ 60000) : Ct 3 yX9_passEach cX9_passEach 4 (some .boolean) 0 0 [.ref (ad 6), .int 2] S (fun r S' => r = some (.int 1) ∧ S' = (sI (sI (sI (sI S 916 (ad 6) (nI (gn + 1))) 501 (ad 35) (nI (p9 + 1))) 916 (ad 6) (nI ((gn + 1) + 1))) 501 (ad 35) (nI ((p9 + 1) + 1)))) := by
  refine ct_of (by decide) (Nat.le_of_ble_eq_true rfl) fun x hn9 C M hm9 => ?_
  have C : CB x RX9 cX9_passEach := C
  refine J.eq (lv' := [(0, .ref (ad 6)), (1, .int 2)]) rfl rfl rfl ?_
  refine j_iconst (v := 1) C dX9_passEach_0 (by decide) ?_
  refine j_istore_n (lv' := [(2, .int 1), (0, .ref (ad 6)), (1, .int 2)]) C dX9_passEach_1 rfl (by rw [hn9]; decide) rfl ?_
  refine j_iconst (v := 0) C dX9_passEach_2 (by decide) ?_
  refine j_istore_n (lv' := [(3, .int 0), (2, .int 1), (0, .ref (ad 6)), (1, .int 2)]) C dX9_passEach_3 rfl (by rw [hn9]; decide) rfl ?_
  refine j_iload_n C dX9_passEach_4 rfl 0 rfl ?_
  refine j_iload_n C dX9_passEach_5 rfl 3 rfl ?_
  refine j_ic_ge (tgt := 25) C dX9_passEach_6 (by decide) (fun c9 => absurd c9 (by decide)) (fun c9 => ?_)
  refine j_iload_n C dX9_passEach_9 rfl 1 rfl ?_
  show J _ _ _ _ _ 10 _
  refine j_if_eq (tgt := 25) C dX9_passEach_10 (by decide) (fun c9 => absurd c9 (by decide)) (fun c9 => ?_)
  refine j_aload_n C dX9_passEach_13 rfl 2 rfl ?_
  refine j_iconst (v := 1) C dX9_passEach_14 (by decide) ?_
  refine j_callV (ci := 9) C [.int 1] [] mlX9_204 mcX9_pass (c_X9_pass S ad hW gn p9 hI_916_ad6 hR_913_ad6 hI_501_ad35 hI_5_ad12 hI_603_ad5 1 (by omega)) (wm_6 (S := S) hW) (wk_6 (S := S) hW) rfl (M.rm (by decide) (by decide) (Nat.le_of_ble_eq_true rfl) (Nat.le_of_ble_eq_true rfl)) rfl rfl (Nat.le_of_ble_eq_true rfl) dX9_passEach_15 (fun r_1 S_2 hp_3 => ?_)
  obtain ⟨rfl, e_4⟩ := hp_3
  refine J.eq (S' := (sI (sI S 916 (ad 6) (nI (gn + 1))) 501 (ad 35) (nI (p9 + 1)))) (st' := [.int 1]) (lv' := [(3, .int 0), (2, .int 1), (0, .ref (ad 6)), (1, .int 2)]) e_4 rfl rfl ?_
  refine j_istore_n (lv' := [(2, .int 1), (3, .int 0), (0, .ref (ad 6)), (1, .int 2)]) C dX9_passEach_18 rfl (by rw [hn9]; decide) rfl ?_
  refine j_iinc (q := 1) (v := 1) (lv' := [(3, .int 1), (2, .int 1), (0, .ref (ad 6)), (1, .int 2)]) C dX9_passEach_19 rfl (by decide) (by rw [hn9]; decide) rfl ?_
  refine j_goto (tgt := 4) C dX9_passEach_22 (by decide) ?_
  refine j_iload_n C dX9_passEach_4 rfl 0 rfl ?_
  show J _ _ _ _ _ 5 _
  refine j_iload_n C dX9_passEach_5 rfl 3 rfl ?_
  refine j_ic_ge (tgt := 25) C dX9_passEach_6 (by decide) (fun c9 => absurd c9 (by decide)) (fun c9 => ?_)
  refine j_iload_n C dX9_passEach_9 rfl 1 rfl ?_
  refine j_if_eq (tgt := 25) C dX9_passEach_10 (by decide) (fun c9 => absurd c9 (by decide)) (fun c9 => ?_)
  refine j_aload_n C dX9_passEach_13 rfl 2 rfl ?_
  refine j_iconst (v := 1) C dX9_passEach_14 (by decide) ?_
  refine j_callV (ci := 9) C [.int 1] [] mlX9_204 mcX9_pass (c_X9_pass (sI (sI S 916 (ad 6) (nI (gn + 1))) 501 (ad 35) (nI (p9 + 1))) ad hW (gn + 1) (p9 + 1) (rd_sIf (S := (sI S 916 (ad 6) (nI (gn + 1)))) (g := 501) (a := (ad 35)) (v := nI (p9 + 1)) (by decide) (rd_sI (S := S) (g := 916) (a := (ad 6)) (v := nI (gn + 1)))) hR_913_ad6 (rd_sI (S := (sI S 916 (ad 6) (nI (gn + 1)))) (g := 501) (a := (ad 35)) (v := nI (p9 + 1))) (rd_sIf (S := (sI S 916 (ad 6) (nI (gn + 1)))) (g := 501) (a := (ad 35)) (v := nI (p9 + 1)) (by decide) (rd_sIf (S := S) (g := 916) (a := (ad 6)) (v := nI (gn + 1)) (by decide) hI_5_ad12)) (rd_sIf (S := (sI S 916 (ad 6) (nI (gn + 1)))) (g := 501) (a := (ad 35)) (v := nI (p9 + 1)) (by decide) (rd_sIf (S := S) (g := 916) (a := (ad 6)) (v := nI (gn + 1)) (by decide) hI_603_ad5)) 1 (by omega)) (wm_6 (S := S) hW) (wk_6 (S := S) hW) rfl (M.rm (by decide) (by decide) (Nat.le_of_ble_eq_true rfl) (Nat.le_of_ble_eq_true rfl)) rfl rfl (Nat.le_of_ble_eq_true rfl) dX9_passEach_15 (fun r_5 S_6 hp_7 => ?_)
  obtain ⟨rfl, e_8⟩ := hp_7
  refine J.eq (S' := (sI (sI (sI (sI S 916 (ad 6) (nI (gn + 1))) 501 (ad 35) (nI (p9 + 1))) 916 (ad 6) (nI ((gn + 1) + 1))) 501 (ad 35) (nI ((p9 + 1) + 1)))) (st' := [.int 1]) (lv' := [(3, .int 1), (2, .int 1), (0, .ref (ad 6)), (1, .int 2)]) e_8 rfl rfl ?_
  refine j_istore_n (lv' := [(2, .int 1), (3, .int 1), (0, .ref (ad 6)), (1, .int 2)]) C dX9_passEach_18 rfl (by rw [hn9]; decide) rfl ?_
  show J _ _ _ _ _ 19 _
  refine j_iinc (q := 1) (v := 2) (lv' := [(3, .int 2), (2, .int 1), (0, .ref (ad 6)), (1, .int 2)]) C dX9_passEach_19 rfl (by decide) (by rw [hn9]; decide) rfl ?_
  refine j_goto (tgt := 4) C dX9_passEach_22 (by decide) ?_
  refine j_iload_n C dX9_passEach_4 rfl 0 rfl ?_
  refine j_iload_n C dX9_passEach_5 rfl 3 rfl ?_
  refine j_ic_ge (tgt := 25) C dX9_passEach_6 (by decide) (fun c9 => ?_) (fun c9 => absurd (by decide) c9)
  refine j_iload_n C dX9_passEach_25 rfl 1 rfl ?_
  exact j_zret C M rfl dX9_passEach_26 (Nat.le_of_ble_eq_true rfl) (Nat.le_of_ble_eq_true rfl) ⟨rfl, rfl⟩
