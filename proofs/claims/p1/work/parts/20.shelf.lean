theorem dX8_count_0 : decode cX8_count 0 = .ok (.iconst 0, 1) := by decide +kernel
theorem dX8_count_1 : decode cX8_count 1 = .ok (.istore_n 1, 1) := by decide +kernel
theorem dX8_count_2 : decode cX8_count 2 = .ok (.iconst 0, 1) := by decide +kernel
theorem dX8_count_3 : decode cX8_count 3 = .ok (.istore_n 2, 1) := by decide +kernel
theorem dX8_count_4 : decode cX8_count 4 = .ok (.iload_n 2, 1) := by decide +kernel
theorem dX8_count_5 : decode cX8_count 5 = .ok (.bipush 16, 2) := by decide +kernel
theorem dX8_count_7 : decode cX8_count 7 = .ok (.if_icmp .ge 26, 3) := by decide +kernel
theorem dX8_count_10 : decode cX8_count 10 = .ok (.iload_n 1, 1) := by decide +kernel
theorem dX8_count_11 : decode cX8_count 11 = .ok (.aload_n 0, 1) := by decide +kernel
theorem dX8_count_12 : decode cX8_count 12 = .ok (.getfield 9, 3) := by decide +kernel
theorem dX8_count_15 : decode cX8_count 15 = .ok (.iload_n 2, 1) := by decide +kernel
theorem dX8_count_16 : decode cX8_count 16 = .ok (.iaload, 1) := by decide +kernel
theorem dX8_count_17 : decode cX8_count 17 = .ok (.ifCond .eq 7, 3) := by decide +kernel
theorem dX8_count_20 : decode cX8_count 20 = .ok (.iconst 1, 1) := by decide +kernel
theorem dX8_count_21 : decode cX8_count 21 = .ok (.goto 4, 3) := by decide +kernel
theorem dX8_count_24 : decode cX8_count 24 = .ok (.iconst 0, 1) := by decide +kernel
theorem dX8_count_25 : decode cX8_count 25 = .ok (.iadd, 1) := by decide +kernel
theorem dX8_count_26 : decode cX8_count 26 = .ok (.istore_n 1, 1) := by decide +kernel
theorem dX8_count_27 : decode cX8_count 27 = .ok (.iinc 2 1, 3) := by decide +kernel
theorem dX8_count_30 : decode cX8_count 30 = .ok (.goto (-26), 3) := by decide +kernel
theorem dX8_count_33 : decode cX8_count 33 = .ok (.iload_n 1, 1) := by decide +kernel
theorem dX8_count_34 : decode cX8_count 34 = .ok (.ireturn, 1) := by decide +kernel
set_option maxRecDepth 100000 in
set_option maxHeartbeats 4000000 in
theorem c_X8_count (S : Hp) (h : Nat) (hm : h ∈ hL S) (hk : hK S h = 8) (q : Nat) (rq : hR S 800 h = some q) (mq : q ∈ hL S) (kq : Kd S q 14) (lq : Ln S q 16) (zq : ∀ j, aI S q j = 0) : Ct 1 yX8_count cX8_count 3 (some .int) 0 0 [.ref h] S (fun r S' => r = some (.int 0) ∧ Fm (fun _ _ => False) (fun _ _ => False) (fun _ => False) S S') := by
  refine ct_of (by decide) (Nat.le_of_ble_eq_true rfl) fun x hn9 C M hm9 => ?_
  have C : CB x RX8 cX8_count := C
  refine J.eq (lv' := [(0, .ref h)]) rfl rfl rfl ?_
  refine j_iconst (v := 0) C dX8_count_0 (by decide) ?_
  refine j_istore_n (lv' := [(1, .int 0), (0, .ref h)]) C dX8_count_1 rfl (by rw [hn9]; decide) rfl ?_
  refine j_iconst (v := 0) C dX8_count_2 (by decide) ?_
  refine j_istore_n (lv' := [(2, .int 0), (1, .int 0), (0, .ref h)]) C dX8_count_3 rfl (by rw [hn9]; decide) rfl ?_
  refine j_iload_n C dX8_count_4 rfl 0 rfl ?_
  refine j_bipush (v := 16) C dX8_count_5 (by decide) ?_
  refine j_ic_ge (tgt := 33) C dX8_count_7 (by decide) (fun c9 => absurd c9 (by decide)) (fun c9 => ?_)
  refine j_iload_n C dX8_count_10 rfl 1 rfl ?_
  show J _ _ _ _ _ 11 _
  refine j_aload_n C dX8_count_11 rfl 2 rfl ?_
  refine j_getr (f := 800) (v := q) C flX8_9 dX8_count_12 hm hk (by decide) rfl rq ?_
  refine j_iload_n C dX8_count_15 rfl 0 rfl ?_
  refine j_iald (j := 0) (v := 0) C dX8_count_16 mq kq (inr_of (n := 16) lq (vp_lit (by decide))) (by decide) (zq 0) ?_
  refine j_if_eq (tgt := 24) C dX8_count_17 (by decide) (fun c9 => ?_) (fun c9 => absurd (by decide) c9)
  refine j_iconst (v := 0) C dX8_count_24 (by decide) ?_
  refine j_iadd (v := 0) C dX8_count_25 (by decide) ?_
  refine j_istore_n (lv' := [(1, .int 0), (2, .int 0), (0, .ref h)]) C dX8_count_26 rfl (by rw [hn9]; decide) rfl ?_
  show J _ _ _ _ _ 27 _
  refine j_iinc (q := 1) (v := 1) (lv' := [(2, .int 1), (1, .int 0), (0, .ref h)]) C dX8_count_27 rfl (by decide) (by rw [hn9]; decide) rfl ?_
  refine j_goto (tgt := 4) C dX8_count_30 (by decide) ?_
  refine j_iload_n C dX8_count_4 rfl 0 rfl ?_
  refine j_bipush (v := 16) C dX8_count_5 (by decide) ?_
  refine j_ic_ge (tgt := 33) C dX8_count_7 (by decide) (fun c9 => absurd c9 (by decide)) (fun c9 => ?_)
  refine j_iload_n C dX8_count_10 rfl 1 rfl ?_
  refine j_aload_n C dX8_count_11 rfl 2 rfl ?_
  refine j_getr (f := 800) (v := q) C flX8_9 dX8_count_12 hm hk (by decide) rfl rq ?_
  show J _ _ _ _ _ 15 _
  refine j_iload_n C dX8_count_15 rfl 0 rfl ?_
  refine j_iald (j := 1) (v := 0) C dX8_count_16 mq kq (inr_of (n := 16) lq (vp_lit (by decide))) (by decide) (zq 1) ?_
  refine j_if_eq (tgt := 24) C dX8_count_17 (by decide) (fun c9 => ?_) (fun c9 => absurd (by decide) c9)
  refine j_iconst (v := 0) C dX8_count_24 (by decide) ?_
  refine j_iadd (v := 0) C dX8_count_25 (by decide) ?_
  refine j_istore_n (lv' := [(1, .int 0), (2, .int 1), (0, .ref h)]) C dX8_count_26 rfl (by rw [hn9]; decide) rfl ?_
  refine j_iinc (q := 1) (v := 2) (lv' := [(2, .int 2), (1, .int 0), (0, .ref h)]) C dX8_count_27 rfl (by decide) (by rw [hn9]; decide) rfl ?_
  refine j_goto (tgt := 4) C dX8_count_30 (by decide) ?_
  show J _ _ _ _ _ 4 _
  refine j_iload_n C dX8_count_4 rfl 0 rfl ?_
  refine j_bipush (v := 16) C dX8_count_5 (by decide) ?_
  refine j_ic_ge (tgt := 33) C dX8_count_7 (by decide) (fun c9 => absurd c9 (by decide)) (fun c9 => ?_)
  refine j_iload_n C dX8_count_10 rfl 1 rfl ?_
  refine j_aload_n C dX8_count_11 rfl 2 rfl ?_
  refine j_getr (f := 800) (v := q) C flX8_9 dX8_count_12 hm hk (by decide) rfl rq ?_
  refine j_iload_n C dX8_count_15 rfl 0 rfl ?_
  refine j_iald (j := 2) (v := 0) C dX8_count_16 mq kq (inr_of (n := 16) lq (vp_lit (by decide))) (by decide) (zq 2) ?_
  show J _ _ _ _ _ 17 _
  refine j_if_eq (tgt := 24) C dX8_count_17 (by decide) (fun c9 => ?_) (fun c9 => absurd (by decide) c9)
  refine j_iconst (v := 0) C dX8_count_24 (by decide) ?_
  refine j_iadd (v := 0) C dX8_count_25 (by decide) ?_
  refine j_istore_n (lv' := [(1, .int 0), (2, .int 2), (0, .ref h)]) C dX8_count_26 rfl (by rw [hn9]; decide) rfl ?_
  refine j_iinc (q := 1) (v := 3) (lv' := [(2, .int 3), (1, .int 0), (0, .ref h)]) C dX8_count_27 rfl (by decide) (by rw [hn9]; decide) rfl ?_
  refine j_goto (tgt := 4) C dX8_count_30 (by decide) ?_
  refine j_iload_n C dX8_count_4 rfl 0 rfl ?_
  refine j_bipush (v := 16) C dX8_count_5 (by decide) ?_
  show J _ _ _ _ _ 7 _
  refine j_ic_ge (tgt := 33) C dX8_count_7 (by decide) (fun c9 => absurd c9 (by decide)) (fun c9 => ?_)
  refine j_iload_n C dX8_count_10 rfl 1 rfl ?_
  refine j_aload_n C dX8_count_11 rfl 2 rfl ?_
  refine j_getr (f := 800) (v := q) C flX8_9 dX8_count_12 hm hk (by decide) rfl rq ?_
  refine j_iload_n C dX8_count_15 rfl 0 rfl ?_
  refine j_iald (j := 3) (v := 0) C dX8_count_16 mq kq (inr_of (n := 16) lq (vp_lit (by decide))) (by decide) (zq 3) ?_
  refine j_if_eq (tgt := 24) C dX8_count_17 (by decide) (fun c9 => ?_) (fun c9 => absurd (by decide) c9)
  refine j_iconst (v := 0) C dX8_count_24 (by decide) ?_
  show J _ _ _ _ _ 25 _
  refine j_iadd (v := 0) C dX8_count_25 (by decide) ?_
  refine j_istore_n (lv' := [(1, .int 0), (2, .int 3), (0, .ref h)]) C dX8_count_26 rfl (by rw [hn9]; decide) rfl ?_
  refine j_iinc (q := 1) (v := 4) (lv' := [(2, .int 4), (1, .int 0), (0, .ref h)]) C dX8_count_27 rfl (by decide) (by rw [hn9]; decide) rfl ?_
  refine j_goto (tgt := 4) C dX8_count_30 (by decide) ?_
  refine j_iload_n C dX8_count_4 rfl 0 rfl ?_
  refine j_bipush (v := 16) C dX8_count_5 (by decide) ?_
  refine j_ic_ge (tgt := 33) C dX8_count_7 (by decide) (fun c9 => absurd c9 (by decide)) (fun c9 => ?_)
  refine j_iload_n C dX8_count_10 rfl 1 rfl ?_
  show J _ _ _ _ _ 11 _
  refine j_aload_n C dX8_count_11 rfl 2 rfl ?_
  refine j_getr (f := 800) (v := q) C flX8_9 dX8_count_12 hm hk (by decide) rfl rq ?_
  refine j_iload_n C dX8_count_15 rfl 0 rfl ?_
  refine j_iald (j := 4) (v := 0) C dX8_count_16 mq kq (inr_of (n := 16) lq (vp_lit (by decide))) (by decide) (zq 4) ?_
  refine j_if_eq (tgt := 24) C dX8_count_17 (by decide) (fun c9 => ?_) (fun c9 => absurd (by decide) c9)
  refine j_iconst (v := 0) C dX8_count_24 (by decide) ?_
  refine j_iadd (v := 0) C dX8_count_25 (by decide) ?_
  refine j_istore_n (lv' := [(1, .int 0), (2, .int 4), (0, .ref h)]) C dX8_count_26 rfl (by rw [hn9]; decide) rfl ?_
  show J _ _ _ _ _ 27 _
  refine j_iinc (q := 1) (v := 5) (lv' := [(2, .int 5), (1, .int 0), (0, .ref h)]) C dX8_count_27 rfl (by decide) (by rw [hn9]; decide) rfl ?_
  refine j_goto (tgt := 4) C dX8_count_30 (by decide) ?_
  refine j_iload_n C dX8_count_4 rfl 0 rfl ?_
  refine j_bipush (v := 16) C dX8_count_5 (by decide) ?_
  refine j_ic_ge (tgt := 33) C dX8_count_7 (by decide) (fun c9 => absurd c9 (by decide)) (fun c9 => ?_)
  refine j_iload_n C dX8_count_10 rfl 1 rfl ?_
  refine j_aload_n C dX8_count_11 rfl 2 rfl ?_
  refine j_getr (f := 800) (v := q) C flX8_9 dX8_count_12 hm hk (by decide) rfl rq ?_
  show J _ _ _ _ _ 15 _
  refine j_iload_n C dX8_count_15 rfl 0 rfl ?_
  refine j_iald (j := 5) (v := 0) C dX8_count_16 mq kq (inr_of (n := 16) lq (vp_lit (by decide))) (by decide) (zq 5) ?_
  refine j_if_eq (tgt := 24) C dX8_count_17 (by decide) (fun c9 => ?_) (fun c9 => absurd (by decide) c9)
  refine j_iconst (v := 0) C dX8_count_24 (by decide) ?_
  refine j_iadd (v := 0) C dX8_count_25 (by decide) ?_
  refine j_istore_n (lv' := [(1, .int 0), (2, .int 5), (0, .ref h)]) C dX8_count_26 rfl (by rw [hn9]; decide) rfl ?_
  refine j_iinc (q := 1) (v := 6) (lv' := [(2, .int 6), (1, .int 0), (0, .ref h)]) C dX8_count_27 rfl (by decide) (by rw [hn9]; decide) rfl ?_
  refine j_goto (tgt := 4) C dX8_count_30 (by decide) ?_
  show J _ _ _ _ _ 4 _
  refine j_iload_n C dX8_count_4 rfl 0 rfl ?_
  refine j_bipush (v := 16) C dX8_count_5 (by decide) ?_
  refine j_ic_ge (tgt := 33) C dX8_count_7 (by decide) (fun c9 => absurd c9 (by decide)) (fun c9 => ?_)
  refine j_iload_n C dX8_count_10 rfl 1 rfl ?_
  refine j_aload_n C dX8_count_11 rfl 2 rfl ?_
  refine j_getr (f := 800) (v := q) C flX8_9 dX8_count_12 hm hk (by decide) rfl rq ?_
  refine j_iload_n C dX8_count_15 rfl 0 rfl ?_
  refine j_iald (j := 6) (v := 0) C dX8_count_16 mq kq (inr_of (n := 16) lq (vp_lit (by decide))) (by decide) (zq 6) ?_
  show J _ _ _ _ _ 17 _
  refine j_if_eq (tgt := 24) C dX8_count_17 (by decide) (fun c9 => ?_) (fun c9 => absurd (by decide) c9)
  refine j_iconst (v := 0) C dX8_count_24 (by decide) ?_
  refine j_iadd (v := 0) C dX8_count_25 (by decide) ?_
  refine j_istore_n (lv' := [(1, .int 0), (2, .int 6), (0, .ref h)]) C dX8_count_26 rfl (by rw [hn9]; decide) rfl ?_
  refine j_iinc (q := 1) (v := 7) (lv' := [(2, .int 7), (1, .int 0), (0, .ref h)]) C dX8_count_27 rfl (by decide) (by rw [hn9]; decide) rfl ?_
  refine j_goto (tgt := 4) C dX8_count_30 (by decide) ?_
  refine j_iload_n C dX8_count_4 rfl 0 rfl ?_
  refine j_bipush (v := 16) C dX8_count_5 (by decide) ?_
  show J _ _ _ _ _ 7 _
  refine j_ic_ge (tgt := 33) C dX8_count_7 (by decide) (fun c9 => absurd c9 (by decide)) (fun c9 => ?_)
  refine j_iload_n C dX8_count_10 rfl 1 rfl ?_
  refine j_aload_n C dX8_count_11 rfl 2 rfl ?_
  refine j_getr (f := 800) (v := q) C flX8_9 dX8_count_12 hm hk (by decide) rfl rq ?_
  refine j_iload_n C dX8_count_15 rfl 0 rfl ?_
  refine j_iald (j := 7) (v := 0) C dX8_count_16 mq kq (inr_of (n := 16) lq (vp_lit (by decide))) (by decide) (zq 7) ?_
  refine j_if_eq (tgt := 24) C dX8_count_17 (by decide) (fun c9 => ?_) (fun c9 => absurd (by decide) c9)
  refine j_iconst (v := 0) C dX8_count_24 (by decide) ?_
  show J _ _ _ _ _ 25 _
  refine j_iadd (v := 0) C dX8_count_25 (by decide) ?_
  refine j_istore_n (lv' := [(1, .int 0), (2, .int 7), (0, .ref h)]) C dX8_count_26 rfl (by rw [hn9]; decide) rfl ?_
  refine j_iinc (q := 1) (v := 8) (lv' := [(2, .int 8), (1, .int 0), (0, .ref h)]) C dX8_count_27 rfl (by decide) (by rw [hn9]; decide) rfl ?_
  refine j_goto (tgt := 4) C dX8_count_30 (by decide) ?_
  refine j_iload_n C dX8_count_4 rfl 0 rfl ?_
  refine j_bipush (v := 16) C dX8_count_5 (by decide) ?_
  refine j_ic_ge (tgt := 33) C dX8_count_7 (by decide) (fun c9 => absurd c9 (by decide)) (fun c9 => ?_)
  refine j_iload_n C dX8_count_10 rfl 1 rfl ?_
  show J _ _ _ _ _ 11 _
  refine j_aload_n C dX8_count_11 rfl 2 rfl ?_
  refine j_getr (f := 800) (v := q) C flX8_9 dX8_count_12 hm hk (by decide) rfl rq ?_
  refine j_iload_n C dX8_count_15 rfl 0 rfl ?_
  refine j_iald (j := 8) (v := 0) C dX8_count_16 mq kq (inr_of (n := 16) lq (vp_lit (by decide))) (by decide) (zq 8) ?_
  refine j_if_eq (tgt := 24) C dX8_count_17 (by decide) (fun c9 => ?_) (fun c9 => absurd (by decide) c9)
  refine j_iconst (v := 0) C dX8_count_24 (by decide) ?_
  refine j_iadd (v := 0) C dX8_count_25 (by decide) ?_
  refine j_istore_n (lv' := [(1, .int 0), (2, .int 8), (0, .ref h)]) C dX8_count_26 rfl (by rw [hn9]; decide) rfl ?_
  show J _ _ _ _ _ 27 _
  refine j_iinc (q := 1) (v := 9) (lv' := [(2, .int 9), (1, .int 0), (0, .ref h)]) C dX8_count_27 rfl (by decide) (by rw [hn9]; decide) rfl ?_
  refine j_goto (tgt := 4) C dX8_count_30 (by decide) ?_
  refine j_iload_n C dX8_count_4 rfl 0 rfl ?_
  refine j_bipush (v := 16) C dX8_count_5 (by decide) ?_
  refine j_ic_ge (tgt := 33) C dX8_count_7 (by decide) (fun c9 => absurd c9 (by decide)) (fun c9 => ?_)
  refine j_iload_n C dX8_count_10 rfl 1 rfl ?_
  refine j_aload_n C dX8_count_11 rfl 2 rfl ?_
  refine j_getr (f := 800) (v := q) C flX8_9 dX8_count_12 hm hk (by decide) rfl rq ?_
  show J _ _ _ _ _ 15 _
  refine j_iload_n C dX8_count_15 rfl 0 rfl ?_
  refine j_iald (j := 9) (v := 0) C dX8_count_16 mq kq (inr_of (n := 16) lq (vp_lit (by decide))) (by decide) (zq 9) ?_
  refine j_if_eq (tgt := 24) C dX8_count_17 (by decide) (fun c9 => ?_) (fun c9 => absurd (by decide) c9)
  refine j_iconst (v := 0) C dX8_count_24 (by decide) ?_
  refine j_iadd (v := 0) C dX8_count_25 (by decide) ?_
  refine j_istore_n (lv' := [(1, .int 0), (2, .int 9), (0, .ref h)]) C dX8_count_26 rfl (by rw [hn9]; decide) rfl ?_
  refine j_iinc (q := 1) (v := 10) (lv' := [(2, .int 10), (1, .int 0), (0, .ref h)]) C dX8_count_27 rfl (by decide) (by rw [hn9]; decide) rfl ?_
  refine j_goto (tgt := 4) C dX8_count_30 (by decide) ?_
  show J _ _ _ _ _ 4 _
  refine j_iload_n C dX8_count_4 rfl 0 rfl ?_
  refine j_bipush (v := 16) C dX8_count_5 (by decide) ?_
  refine j_ic_ge (tgt := 33) C dX8_count_7 (by decide) (fun c9 => absurd c9 (by decide)) (fun c9 => ?_)
  refine j_iload_n C dX8_count_10 rfl 1 rfl ?_
  refine j_aload_n C dX8_count_11 rfl 2 rfl ?_
  refine j_getr (f := 800) (v := q) C flX8_9 dX8_count_12 hm hk (by decide) rfl rq ?_
  refine j_iload_n C dX8_count_15 rfl 0 rfl ?_
  refine j_iald (j := 10) (v := 0) C dX8_count_16 mq kq (inr_of (n := 16) lq (vp_lit (by decide))) (by decide) (zq 10) ?_
  show J _ _ _ _ _ 17 _
  refine j_if_eq (tgt := 24) C dX8_count_17 (by decide) (fun c9 => ?_) (fun c9 => absurd (by decide) c9)
  refine j_iconst (v := 0) C dX8_count_24 (by decide) ?_
  refine j_iadd (v := 0) C dX8_count_25 (by decide) ?_
  refine j_istore_n (lv' := [(1, .int 0), (2, .int 10), (0, .ref h)]) C dX8_count_26 rfl (by rw [hn9]; decide) rfl ?_
  refine j_iinc (q := 1) (v := 11) (lv' := [(2, .int 11), (1, .int 0), (0, .ref h)]) C dX8_count_27 rfl (by decide) (by rw [hn9]; decide) rfl ?_
  refine j_goto (tgt := 4) C dX8_count_30 (by decide) ?_
  refine j_iload_n C dX8_count_4 rfl 0 rfl ?_
  refine j_bipush (v := 16) C dX8_count_5 (by decide) ?_
  show J _ _ _ _ _ 7 _
  refine j_ic_ge (tgt := 33) C dX8_count_7 (by decide) (fun c9 => absurd c9 (by decide)) (fun c9 => ?_)
  refine j_iload_n C dX8_count_10 rfl 1 rfl ?_
  refine j_aload_n C dX8_count_11 rfl 2 rfl ?_
  refine j_getr (f := 800) (v := q) C flX8_9 dX8_count_12 hm hk (by decide) rfl rq ?_
  refine j_iload_n C dX8_count_15 rfl 0 rfl ?_
  refine j_iald (j := 11) (v := 0) C dX8_count_16 mq kq (inr_of (n := 16) lq (vp_lit (by decide))) (by decide) (zq 11) ?_
  refine j_if_eq (tgt := 24) C dX8_count_17 (by decide) (fun c9 => ?_) (fun c9 => absurd (by decide) c9)
  refine j_iconst (v := 0) C dX8_count_24 (by decide) ?_
  show J _ _ _ _ _ 25 _
  refine j_iadd (v := 0) C dX8_count_25 (by decide) ?_
  refine j_istore_n (lv' := [(1, .int 0), (2, .int 11), (0, .ref h)]) C dX8_count_26 rfl (by rw [hn9]; decide) rfl ?_
  refine j_iinc (q := 1) (v := 12) (lv' := [(2, .int 12), (1, .int 0), (0, .ref h)]) C dX8_count_27 rfl (by decide) (by rw [hn9]; decide) rfl ?_
  refine j_goto (tgt := 4) C dX8_count_30 (by decide) ?_
  refine j_iload_n C dX8_count_4 rfl 0 rfl ?_
  refine j_bipush (v := 16) C dX8_count_5 (by decide) ?_
  refine j_ic_ge (tgt := 33) C dX8_count_7 (by decide) (fun c9 => absurd c9 (by decide)) (fun c9 => ?_)
  refine j_iload_n C dX8_count_10 rfl 1 rfl ?_
  show J _ _ _ _ _ 11 _
  refine j_aload_n C dX8_count_11 rfl 2 rfl ?_
  refine j_getr (f := 800) (v := q) C flX8_9 dX8_count_12 hm hk (by decide) rfl rq ?_
  refine j_iload_n C dX8_count_15 rfl 0 rfl ?_
  refine j_iald (j := 12) (v := 0) C dX8_count_16 mq kq (inr_of (n := 16) lq (vp_lit (by decide))) (by decide) (zq 12) ?_
  refine j_if_eq (tgt := 24) C dX8_count_17 (by decide) (fun c9 => ?_) (fun c9 => absurd (by decide) c9)
  refine j_iconst (v := 0) C dX8_count_24 (by decide) ?_
  refine j_iadd (v := 0) C dX8_count_25 (by decide) ?_
  refine j_istore_n (lv' := [(1, .int 0), (2, .int 12), (0, .ref h)]) C dX8_count_26 rfl (by rw [hn9]; decide) rfl ?_
  show J _ _ _ _ _ 27 _
  refine j_iinc (q := 1) (v := 13) (lv' := [(2, .int 13), (1, .int 0), (0, .ref h)]) C dX8_count_27 rfl (by decide) (by rw [hn9]; decide) rfl ?_
  refine j_goto (tgt := 4) C dX8_count_30 (by decide) ?_
  refine j_iload_n C dX8_count_4 rfl 0 rfl ?_
  refine j_bipush (v := 16) C dX8_count_5 (by decide) ?_
  refine j_ic_ge (tgt := 33) C dX8_count_7 (by decide) (fun c9 => absurd c9 (by decide)) (fun c9 => ?_)
  refine j_iload_n C dX8_count_10 rfl 1 rfl ?_
  refine j_aload_n C dX8_count_11 rfl 2 rfl ?_
  refine j_getr (f := 800) (v := q) C flX8_9 dX8_count_12 hm hk (by decide) rfl rq ?_
  show J _ _ _ _ _ 15 _
  refine j_iload_n C dX8_count_15 rfl 0 rfl ?_
  refine j_iald (j := 13) (v := 0) C dX8_count_16 mq kq (inr_of (n := 16) lq (vp_lit (by decide))) (by decide) (zq 13) ?_
  refine j_if_eq (tgt := 24) C dX8_count_17 (by decide) (fun c9 => ?_) (fun c9 => absurd (by decide) c9)
  refine j_iconst (v := 0) C dX8_count_24 (by decide) ?_
  refine j_iadd (v := 0) C dX8_count_25 (by decide) ?_
  refine j_istore_n (lv' := [(1, .int 0), (2, .int 13), (0, .ref h)]) C dX8_count_26 rfl (by rw [hn9]; decide) rfl ?_
  refine j_iinc (q := 1) (v := 14) (lv' := [(2, .int 14), (1, .int 0), (0, .ref h)]) C dX8_count_27 rfl (by decide) (by rw [hn9]; decide) rfl ?_
  refine j_goto (tgt := 4) C dX8_count_30 (by decide) ?_
  show J _ _ _ _ _ 4 _
  refine j_iload_n C dX8_count_4 rfl 0 rfl ?_
  refine j_bipush (v := 16) C dX8_count_5 (by decide) ?_
  refine j_ic_ge (tgt := 33) C dX8_count_7 (by decide) (fun c9 => absurd c9 (by decide)) (fun c9 => ?_)
  refine j_iload_n C dX8_count_10 rfl 1 rfl ?_
  refine j_aload_n C dX8_count_11 rfl 2 rfl ?_
  refine j_getr (f := 800) (v := q) C flX8_9 dX8_count_12 hm hk (by decide) rfl rq ?_
  refine j_iload_n C dX8_count_15 rfl 0 rfl ?_
  refine j_iald (j := 14) (v := 0) C dX8_count_16 mq kq (inr_of (n := 16) lq (vp_lit (by decide))) (by decide) (zq 14) ?_
  show J _ _ _ _ _ 17 _
  refine j_if_eq (tgt := 24) C dX8_count_17 (by decide) (fun c9 => ?_) (fun c9 => absurd (by decide) c9)
  refine j_iconst (v := 0) C dX8_count_24 (by decide) ?_
  refine j_iadd (v := 0) C dX8_count_25 (by decide) ?_
  refine j_istore_n (lv' := [(1, .int 0), (2, .int 14), (0, .ref h)]) C dX8_count_26 rfl (by rw [hn9]; decide) rfl ?_
  refine j_iinc (q := 1) (v := 15) (lv' := [(2, .int 15), (1, .int 0), (0, .ref h)]) C dX8_count_27 rfl (by decide) (by rw [hn9]; decide) rfl ?_
  refine j_goto (tgt := 4) C dX8_count_30 (by decide) ?_
  refine j_iload_n C dX8_count_4 rfl 0 rfl ?_
  refine j_bipush (v := 16) C dX8_count_5 (by decide) ?_
  show J _ _ _ _ _ 7 _
  refine j_ic_ge (tgt := 33) C dX8_count_7 (by decide) (fun c9 => absurd c9 (by decide)) (fun c9 => ?_)
  refine j_iload_n C dX8_count_10 rfl 1 rfl ?_
  refine j_aload_n C dX8_count_11 rfl 2 rfl ?_
  refine j_getr (f := 800) (v := q) C flX8_9 dX8_count_12 hm hk (by decide) rfl rq ?_
  refine j_iload_n C dX8_count_15 rfl 0 rfl ?_
  refine j_iald (j := 15) (v := 0) C dX8_count_16 mq kq (inr_of (n := 16) lq (vp_lit (by decide))) (by decide) (zq 15) ?_
  refine j_if_eq (tgt := 24) C dX8_count_17 (by decide) (fun c9 => ?_) (fun c9 => absurd (by decide) c9)
  refine j_iconst (v := 0) C dX8_count_24 (by decide) ?_
  show J _ _ _ _ _ 25 _
  refine j_iadd (v := 0) C dX8_count_25 (by decide) ?_
  refine j_istore_n (lv' := [(1, .int 0), (2, .int 15), (0, .ref h)]) C dX8_count_26 rfl (by rw [hn9]; decide) rfl ?_
  refine j_iinc (q := 1) (v := 16) (lv' := [(2, .int 16), (1, .int 0), (0, .ref h)]) C dX8_count_27 rfl (by decide) (by rw [hn9]; decide) rfl ?_
  refine j_goto (tgt := 4) C dX8_count_30 (by decide) ?_
  refine j_iload_n C dX8_count_4 rfl 0 rfl ?_
  refine j_bipush (v := 16) C dX8_count_5 (by decide) ?_
  refine j_ic_ge (tgt := 33) C dX8_count_7 (by decide) (fun c9 => ?_) (fun c9 => absurd (by decide) c9)
  refine j_iload_n C dX8_count_33 rfl 1 rfl ?_
  show J _ _ _ _ _ 34 _
  exact j_iret C M dX8_count_34 (by decide) (by decide) ⟨rfl, (Fm.refl (WI := (fun _ _ => False)) (WR := (fun _ _ => False)) (WA := (fun _ => False)))⟩

theorem dX8_has_0 : decode cX8_has 0 = .ok (.iload_n 1, 1) := by decide +kernel
theorem dX8_has_1 : decode cX8_has 1 = .ok (.ifCond .lt 22, 3) := by decide +kernel
theorem dX8_has_4 : decode cX8_has 4 = .ok (.iload_n 1, 1) := by decide +kernel
theorem dX8_has_5 : decode cX8_has 5 = .ok (.bipush 16, 2) := by decide +kernel
theorem dX8_has_7 : decode cX8_has 7 = .ok (.if_icmp .ge 16, 3) := by decide +kernel
theorem dX8_has_10 : decode cX8_has 10 = .ok (.aload_n 0, 1) := by decide +kernel
theorem dX8_has_11 : decode cX8_has 11 = .ok (.getfield 9, 3) := by decide +kernel
theorem dX8_has_14 : decode cX8_has 14 = .ok (.iload_n 1, 1) := by decide +kernel
theorem dX8_has_15 : decode cX8_has 15 = .ok (.iaload, 1) := by decide +kernel
theorem dX8_has_16 : decode cX8_has 16 = .ok (.ifCond .eq 7, 3) := by decide +kernel
theorem dX8_has_19 : decode cX8_has 19 = .ok (.iconst 1, 1) := by decide +kernel
theorem dX8_has_20 : decode cX8_has 20 = .ok (.goto 4, 3) := by decide +kernel
theorem dX8_has_23 : decode cX8_has 23 = .ok (.iconst 0, 1) := by decide +kernel
theorem dX8_has_24 : decode cX8_has 24 = .ok (.ireturn, 1) := by decide +kernel
set_option maxRecDepth 100000 in
set_option maxHeartbeats 4000000 in
theorem c_X8_has (S : Hp) (h : Nat) (hm : h ∈ hL S) (hk : hK S h = 8) (q : Nat) (rq : hR S 800 h = some q) (mq : q ∈ hL S) (kq : Kd S q 14) (lq : Ln S q 16) (zq : ∀ j, aI S q j = 0) (i0 : Int32) : Ct 1 yX8_has cX8_has 2 (some .boolean) 0 0 [.ref h, .int i0] S (fun r S' => r = some (.int 0) ∧ Fm (fun _ _ => False) (fun _ _ => False) (fun _ => False) S S') := by
  refine ct_of (by decide) (Nat.le_of_ble_eq_true rfl) fun x hn9 C M hm9 => ?_
  have C : CB x RX8 cX8_has := C
  refine J.eq (lv' := [(0, .ref h), (1, .int i0)]) rfl rfl rfl ?_
  refine j_iload_n C dX8_has_0 rfl 1 rfl ?_
  refine j_if_lt (tgt := 23) C dX8_has_1 (by decide) (fun c_1 => ?_) (fun c_1 => ?_)
  · skip
    refine j_iconst (v := 0) C dX8_has_23 (by decide) ?_
    exact j_zret C M rfl dX8_has_24 (by decide) (by decide) ⟨rfl, (Fm.refl (WI := (fun _ _ => False)) (WR := (fun _ _ => False)) (WA := (fun _ => False)))⟩
  · skip
    refine j_iload_n C dX8_has_4 rfl 1 rfl ?_
    refine j_bipush (v := 16) C dX8_has_5 (by decide) ?_
    refine j_ic_ge (tgt := 23) C dX8_has_7 (by decide) (fun c_7 => ?_) (fun c_7 => ?_)
    · skip
      refine j_iconst (v := 0) C dX8_has_23 (by decide) ?_
      exact j_zret C M rfl dX8_has_24 (by decide) (by decide) ⟨rfl, (Fm.refl (WI := (fun _ _ => False)) (WR := (fun _ _ => False)) (WA := (fun _ => False)))⟩
    · skip
      refine j_aload_n C dX8_has_10 rfl 0 rfl ?_
      refine j_getr (f := 800) (v := q) C flX8_9 dX8_has_11 hm hk (by decide) rfl rq ?_
      refine j_iload_n C dX8_has_14 rfl 1 rfl ?_
      show J _ _ _ _ _ 15 _
      refine j_iald (j := (Int32.toNatClampNeg i0)) (v := 0) C dX8_has_15 mq kq (inr_of (n := 16) lq (vp_ge c_1 c_7)) rfl (zq _) ?_
      refine j_if_eq (tgt := 23) C dX8_has_16 (by decide) (fun c9 => ?_) (fun c9 => absurd (by decide) c9)
      refine j_iconst (v := 0) C dX8_has_23 (by decide) ?_
      exact j_zret C M rfl dX8_has_24 (by decide) (by decide) ⟨rfl, (Fm.refl (WI := (fun _ _ => False)) (WR := (fun _ _ => False)) (WA := (fun _ => False)))⟩

theorem dX8_removeMany_0 : decode cX8_removeMany 0 = .ok (.iconst 0, 1) := by decide +kernel
theorem dX8_removeMany_1 : decode cX8_removeMany 1 = .ok (.istore_n 2, 1) := by decide +kernel
theorem dX8_removeMany_2 : decode cX8_removeMany 2 = .ok (.iload_n 2, 1) := by decide +kernel
theorem dX8_removeMany_3 : decode cX8_removeMany 3 = .ok (.bipush 16, 2) := by decide +kernel
theorem dX8_removeMany_5 : decode cX8_removeMany 5 = .ok (.if_icmp .ge 30, 3) := by decide +kernel
theorem dX8_removeMany_8 : decode cX8_removeMany 8 = .ok (.iload_n 1, 1) := by decide +kernel
theorem dX8_removeMany_9 : decode cX8_removeMany 9 = .ok (.ifCond .eq 13, 3) := by decide +kernel
theorem dX8_removeMany_12 : decode cX8_removeMany 12 = .ok (.aload_n 0, 1) := by decide +kernel
theorem dX8_removeMany_13 : decode cX8_removeMany 13 = .ok (.getfield 9, 3) := by decide +kernel
theorem dX8_removeMany_16 : decode cX8_removeMany 16 = .ok (.iload_n 2, 1) := by decide +kernel
theorem dX8_removeMany_17 : decode cX8_removeMany 17 = .ok (.iaload, 1) := by decide +kernel
theorem dX8_removeMany_18 : decode cX8_removeMany 18 = .ok (.iconst 1, 1) := by decide +kernel
theorem dX8_removeMany_19 : decode cX8_removeMany 19 = .ok (.if_icmp .ne 10, 3) := by decide +kernel
theorem dX8_removeMany_22 : decode cX8_removeMany 22 = .ok (.aload_n 0, 1) := by decide +kernel
theorem dX8_removeMany_23 : decode cX8_removeMany 23 = .ok (.getfield 9, 3) := by decide +kernel
theorem dX8_removeMany_26 : decode cX8_removeMany 26 = .ok (.iload_n 2, 1) := by decide +kernel
theorem dX8_removeMany_27 : decode cX8_removeMany 27 = .ok (.iconst 0, 1) := by decide +kernel
theorem dX8_removeMany_28 : decode cX8_removeMany 28 = .ok (.iastore, 1) := by decide +kernel
theorem dX8_removeMany_29 : decode cX8_removeMany 29 = .ok (.iinc 2 1, 3) := by decide +kernel
theorem dX8_removeMany_32 : decode cX8_removeMany 32 = .ok (.goto (-30), 3) := by decide +kernel
theorem dX8_removeMany_35 : decode cX8_removeMany 35 = .ok (.return_, 1) := by decide +kernel
set_option maxRecDepth 100000 in
set_option maxHeartbeats 4000000 in
theorem c_X8_removeMany (S : Hp) (h : Nat) (hm : h ∈ hL S) (hk : hK S h = 8) (q : Nat) (rq : hR S 800 h = some q) (mq : q ∈ hL S) (kq : Kd S q 14) (lq : Ln S q 16) : Ct 1 yX8_removeMany cX8_removeMany 3 none 0 0 [.ref h, .int 0] S (fun r S' => r = none ∧ Fm (fun _ _ => False) (fun _ _ => False) (fun b9 => b9 = q) S S') := by
  refine ct_of (by decide) (Nat.le_of_ble_eq_true rfl) fun x hn9 C M hm9 => ?_
  have C : CB x RX8 cX8_removeMany := C
  refine J.eq (lv' := [(0, .ref h), (1, .int 0)]) rfl rfl rfl ?_
  refine j_iconst (v := 0) C dX8_removeMany_0 (by decide) ?_
  refine j_istore_n (lv' := [(2, .int 0), (0, .ref h), (1, .int 0)]) C dX8_removeMany_1 rfl (by rw [hn9]; decide) rfl ?_
  refine j_iload_n C dX8_removeMany_2 rfl 0 rfl ?_
  refine j_bipush (v := 16) C dX8_removeMany_3 (by decide) ?_
  refine j_ic_ge (tgt := 35) C dX8_removeMany_5 (by decide) (fun c9 => absurd c9 (by decide)) (fun c9 => ?_)
  refine j_iload_n C dX8_removeMany_8 rfl 2 rfl ?_
  refine j_if_eq (tgt := 22) C dX8_removeMany_9 (by decide) (fun c9 => ?_) (fun c9 => absurd (by decide) c9)
  refine j_aload_n C dX8_removeMany_22 rfl 1 rfl ?_
  show J _ _ _ _ _ 23 _
  refine j_getr (f := 800) (v := q) C flX8_9 dX8_removeMany_23 hm hk (by decide) rfl rq ?_
  refine j_iload_n C dX8_removeMany_26 rfl 0 rfl ?_
  refine j_iconst (v := 0) C dX8_removeMany_27 (by decide) ?_
  refine j_iast (j := 0) C dX8_removeMany_28 mq kq (inr_of (n := 16) lq (vp_lit (by decide))) (by decide) ?_
  refine j_iinc (q := 0) (v := 1) (lv' := [(2, .int 1), (0, .ref h), (1, .int 0)]) C dX8_removeMany_29 rfl (by decide) (by rw [hn9]; decide) rfl ?_
  refine j_goto (tgt := 2) C dX8_removeMany_32 (by decide) ?_
  refine j_iload_n C dX8_removeMany_2 rfl 0 rfl ?_
  refine j_bipush (v := 16) C dX8_removeMany_3 (by decide) ?_
  show J _ _ _ _ _ 5 _
  refine j_ic_ge (tgt := 35) C dX8_removeMany_5 (by decide) (fun c9 => absurd c9 (by decide)) (fun c9 => ?_)
  refine j_iload_n C dX8_removeMany_8 rfl 2 rfl ?_
  refine j_if_eq (tgt := 22) C dX8_removeMany_9 (by decide) (fun c9 => ?_) (fun c9 => absurd (by decide) c9)
  refine j_aload_n C dX8_removeMany_22 rfl 1 rfl ?_
  refine j_getr (f := 800) (v := q) C flX8_9 dX8_removeMany_23 hm hk (by decide) rfl rq ?_
  refine j_iload_n C dX8_removeMany_26 rfl 0 rfl ?_
  refine j_iconst (v := 0) C dX8_removeMany_27 (by decide) ?_
  refine j_iast (j := 1) C dX8_removeMany_28 mq kq (inr_of (n := 16) lq (vp_lit (by decide))) (by decide) ?_
  show J _ _ _ _ _ 29 _
  have hf_3 : Fm (fun _ _ => False) (fun _ _ => False) (fun b9 => b9 = q) S (tI (tI S q 0 (0 : Int32)) q 1 (0 : Int32)) := (((Fm.refl (WI := (fun _ _ => False)) (WR := (fun _ _ => False)) (WA := (fun b9 => b9 = q))).tI _ _ (fun _ => rfl)).tI _ _ (fun _ => rfl))
  obtain ⟨S_1, eS_2⟩ : ∃ S9 : Hp, S9 = (tI (tI S q 0 (0 : Int32)) q 1 (0 : Int32)) := ⟨_, rfl⟩
  refine J.eq (S' := S_1) eS_2.symm rfl rfl ?_
  have hm_4 : h ∈ hL S_1 := by rw [eS_2]; exact hm
  have hk_5 : Kd S_1 h 8 := by rw [eS_2]; exact hk
  have hm_6 : q ∈ hL S_1 := by rw [eS_2]; exact mq
  have hk_7 : Kd S_1 q 14 := by rw [eS_2]; exact kq
  have hn_8 : Ln S_1 q 16 := by rw [eS_2]; exact lq
  have hv_9 : hR S_1 800 h = (some q) := by rw [eS_2]; exact rq
  have hf_10 : Fm (fun _ _ => False) (fun _ _ => False) (fun b9 => b9 = q) S S_1 := by rw [eS_2]; exact hf_3
  refine j_iinc (q := 0) (v := 2) (lv' := [(2, .int 2), (0, .ref h), (1, .int 0)]) C dX8_removeMany_29 rfl (by decide) (by rw [hn9]; decide) rfl ?_
  refine j_goto (tgt := 2) C dX8_removeMany_32 (by decide) ?_
  refine j_iload_n C dX8_removeMany_2 rfl 0 rfl ?_
  refine j_bipush (v := 16) C dX8_removeMany_3 (by decide) ?_
  refine j_ic_ge (tgt := 35) C dX8_removeMany_5 (by decide) (fun c9 => absurd c9 (by decide)) (fun c9 => ?_)
  refine j_iload_n C dX8_removeMany_8 rfl 2 rfl ?_
  refine j_if_eq (tgt := 22) C dX8_removeMany_9 (by decide) (fun c9 => ?_) (fun c9 => absurd (by decide) c9)
  refine j_aload_n C dX8_removeMany_22 rfl 1 rfl ?_
  show J _ _ _ _ _ 23 _
  refine j_getr (f := 800) (v := q) C flX8_9 dX8_removeMany_23 hm_4 hk_5 (by decide) rfl hv_9 ?_
  refine j_iload_n C dX8_removeMany_26 rfl 0 rfl ?_
  refine j_iconst (v := 0) C dX8_removeMany_27 (by decide) ?_
  refine j_iast (j := 2) C dX8_removeMany_28 hm_6 hk_7 (inr_of (n := 16) hn_8 (vp_lit (by decide))) (by decide) ?_
  refine j_iinc (q := 0) (v := 3) (lv' := [(2, .int 3), (0, .ref h), (1, .int 0)]) C dX8_removeMany_29 rfl (by decide) (by rw [hn9]; decide) rfl ?_
  refine j_goto (tgt := 2) C dX8_removeMany_32 (by decide) ?_
  refine j_iload_n C dX8_removeMany_2 rfl 0 rfl ?_
  refine j_bipush (v := 16) C dX8_removeMany_3 (by decide) ?_
  show J _ _ _ _ _ 5 _
  refine j_ic_ge (tgt := 35) C dX8_removeMany_5 (by decide) (fun c9 => absurd c9 (by decide)) (fun c9 => ?_)
  refine j_iload_n C dX8_removeMany_8 rfl 2 rfl ?_
  refine j_if_eq (tgt := 22) C dX8_removeMany_9 (by decide) (fun c9 => ?_) (fun c9 => absurd (by decide) c9)
  refine j_aload_n C dX8_removeMany_22 rfl 1 rfl ?_
  refine j_getr (f := 800) (v := q) C flX8_9 dX8_removeMany_23 hm_4 hk_5 (by decide) rfl hv_9 ?_
  refine j_iload_n C dX8_removeMany_26 rfl 0 rfl ?_
  refine j_iconst (v := 0) C dX8_removeMany_27 (by decide) ?_
  refine j_iast (j := 3) C dX8_removeMany_28 hm_6 hk_7 (inr_of (n := 16) hn_8 (vp_lit (by decide))) (by decide) ?_
  show J _ _ _ _ _ 29 _
  have hf_13 : Fm (fun _ _ => False) (fun _ _ => False) (fun b9 => b9 = q) S (tI (tI S_1 q 2 (0 : Int32)) q 3 (0 : Int32)) := ((hf_10.tI _ _ (fun _ => rfl)).tI _ _ (fun _ => rfl))
  obtain ⟨S_11, eS_12⟩ : ∃ S9 : Hp, S9 = (tI (tI S_1 q 2 (0 : Int32)) q 3 (0 : Int32)) := ⟨_, rfl⟩
  refine J.eq (S' := S_11) eS_12.symm rfl rfl ?_
  have hm_14 : h ∈ hL S_11 := by rw [eS_12]; exact hm_4
  have hk_15 : Kd S_11 h 8 := by rw [eS_12]; exact hk_5
  have hm_16 : q ∈ hL S_11 := by rw [eS_12]; exact hm_6
  have hk_17 : Kd S_11 q 14 := by rw [eS_12]; exact hk_7
  have hn_18 : Ln S_11 q 16 := by rw [eS_12]; exact hn_8
  have hv_19 : hR S_11 800 h = (some q) := by rw [eS_12]; exact hv_9
  have hf_20 : Fm (fun _ _ => False) (fun _ _ => False) (fun b9 => b9 = q) S S_11 := by rw [eS_12]; exact hf_13
  refine j_iinc (q := 0) (v := 4) (lv' := [(2, .int 4), (0, .ref h), (1, .int 0)]) C dX8_removeMany_29 rfl (by decide) (by rw [hn9]; decide) rfl ?_
  refine j_goto (tgt := 2) C dX8_removeMany_32 (by decide) ?_
  refine j_iload_n C dX8_removeMany_2 rfl 0 rfl ?_
  refine j_bipush (v := 16) C dX8_removeMany_3 (by decide) ?_
  refine j_ic_ge (tgt := 35) C dX8_removeMany_5 (by decide) (fun c9 => absurd c9 (by decide)) (fun c9 => ?_)
  refine j_iload_n C dX8_removeMany_8 rfl 2 rfl ?_
  refine j_if_eq (tgt := 22) C dX8_removeMany_9 (by decide) (fun c9 => ?_) (fun c9 => absurd (by decide) c9)
  refine j_aload_n C dX8_removeMany_22 rfl 1 rfl ?_
  show J _ _ _ _ _ 23 _
  refine j_getr (f := 800) (v := q) C flX8_9 dX8_removeMany_23 hm_14 hk_15 (by decide) rfl hv_19 ?_
  refine j_iload_n C dX8_removeMany_26 rfl 0 rfl ?_
  refine j_iconst (v := 0) C dX8_removeMany_27 (by decide) ?_
  refine j_iast (j := 4) C dX8_removeMany_28 hm_16 hk_17 (inr_of (n := 16) hn_18 (vp_lit (by decide))) (by decide) ?_
  refine j_iinc (q := 0) (v := 5) (lv' := [(2, .int 5), (0, .ref h), (1, .int 0)]) C dX8_removeMany_29 rfl (by decide) (by rw [hn9]; decide) rfl ?_
  refine j_goto (tgt := 2) C dX8_removeMany_32 (by decide) ?_
  refine j_iload_n C dX8_removeMany_2 rfl 0 rfl ?_
  refine j_bipush (v := 16) C dX8_removeMany_3 (by decide) ?_
  show J _ _ _ _ _ 5 _
  refine j_ic_ge (tgt := 35) C dX8_removeMany_5 (by decide) (fun c9 => absurd c9 (by decide)) (fun c9 => ?_)
  refine j_iload_n C dX8_removeMany_8 rfl 2 rfl ?_
  refine j_if_eq (tgt := 22) C dX8_removeMany_9 (by decide) (fun c9 => ?_) (fun c9 => absurd (by decide) c9)
  refine j_aload_n C dX8_removeMany_22 rfl 1 rfl ?_
  refine j_getr (f := 800) (v := q) C flX8_9 dX8_removeMany_23 hm_14 hk_15 (by decide) rfl hv_19 ?_
  refine j_iload_n C dX8_removeMany_26 rfl 0 rfl ?_
  refine j_iconst (v := 0) C dX8_removeMany_27 (by decide) ?_
  refine j_iast (j := 5) C dX8_removeMany_28 hm_16 hk_17 (inr_of (n := 16) hn_18 (vp_lit (by decide))) (by decide) ?_
  show J _ _ _ _ _ 29 _
  have hf_23 : Fm (fun _ _ => False) (fun _ _ => False) (fun b9 => b9 = q) S (tI (tI S_11 q 4 (0 : Int32)) q 5 (0 : Int32)) := ((hf_20.tI _ _ (fun _ => rfl)).tI _ _ (fun _ => rfl))
  obtain ⟨S_21, eS_22⟩ : ∃ S9 : Hp, S9 = (tI (tI S_11 q 4 (0 : Int32)) q 5 (0 : Int32)) := ⟨_, rfl⟩
  refine J.eq (S' := S_21) eS_22.symm rfl rfl ?_
  have hm_24 : h ∈ hL S_21 := by rw [eS_22]; exact hm_14
  have hk_25 : Kd S_21 h 8 := by rw [eS_22]; exact hk_15
  have hm_26 : q ∈ hL S_21 := by rw [eS_22]; exact hm_16
  have hk_27 : Kd S_21 q 14 := by rw [eS_22]; exact hk_17
  have hn_28 : Ln S_21 q 16 := by rw [eS_22]; exact hn_18
  have hv_29 : hR S_21 800 h = (some q) := by rw [eS_22]; exact hv_19
  have hf_30 : Fm (fun _ _ => False) (fun _ _ => False) (fun b9 => b9 = q) S S_21 := by rw [eS_22]; exact hf_23
  refine j_iinc (q := 0) (v := 6) (lv' := [(2, .int 6), (0, .ref h), (1, .int 0)]) C dX8_removeMany_29 rfl (by decide) (by rw [hn9]; decide) rfl ?_
  refine j_goto (tgt := 2) C dX8_removeMany_32 (by decide) ?_
  refine j_iload_n C dX8_removeMany_2 rfl 0 rfl ?_
  refine j_bipush (v := 16) C dX8_removeMany_3 (by decide) ?_
  refine j_ic_ge (tgt := 35) C dX8_removeMany_5 (by decide) (fun c9 => absurd c9 (by decide)) (fun c9 => ?_)
  refine j_iload_n C dX8_removeMany_8 rfl 2 rfl ?_
  refine j_if_eq (tgt := 22) C dX8_removeMany_9 (by decide) (fun c9 => ?_) (fun c9 => absurd (by decide) c9)
  refine j_aload_n C dX8_removeMany_22 rfl 1 rfl ?_
  show J _ _ _ _ _ 23 _
  refine j_getr (f := 800) (v := q) C flX8_9 dX8_removeMany_23 hm_24 hk_25 (by decide) rfl hv_29 ?_
  refine j_iload_n C dX8_removeMany_26 rfl 0 rfl ?_
  refine j_iconst (v := 0) C dX8_removeMany_27 (by decide) ?_
  refine j_iast (j := 6) C dX8_removeMany_28 hm_26 hk_27 (inr_of (n := 16) hn_28 (vp_lit (by decide))) (by decide) ?_
  refine j_iinc (q := 0) (v := 7) (lv' := [(2, .int 7), (0, .ref h), (1, .int 0)]) C dX8_removeMany_29 rfl (by decide) (by rw [hn9]; decide) rfl ?_
  refine j_goto (tgt := 2) C dX8_removeMany_32 (by decide) ?_
  refine j_iload_n C dX8_removeMany_2 rfl 0 rfl ?_
  refine j_bipush (v := 16) C dX8_removeMany_3 (by decide) ?_
  show J _ _ _ _ _ 5 _
  refine j_ic_ge (tgt := 35) C dX8_removeMany_5 (by decide) (fun c9 => absurd c9 (by decide)) (fun c9 => ?_)
  refine j_iload_n C dX8_removeMany_8 rfl 2 rfl ?_
  refine j_if_eq (tgt := 22) C dX8_removeMany_9 (by decide) (fun c9 => ?_) (fun c9 => absurd (by decide) c9)
  refine j_aload_n C dX8_removeMany_22 rfl 1 rfl ?_
  refine j_getr (f := 800) (v := q) C flX8_9 dX8_removeMany_23 hm_24 hk_25 (by decide) rfl hv_29 ?_
  refine j_iload_n C dX8_removeMany_26 rfl 0 rfl ?_
  refine j_iconst (v := 0) C dX8_removeMany_27 (by decide) ?_
  refine j_iast (j := 7) C dX8_removeMany_28 hm_26 hk_27 (inr_of (n := 16) hn_28 (vp_lit (by decide))) (by decide) ?_
  show J _ _ _ _ _ 29 _
  have hf_33 : Fm (fun _ _ => False) (fun _ _ => False) (fun b9 => b9 = q) S (tI (tI S_21 q 6 (0 : Int32)) q 7 (0 : Int32)) := ((hf_30.tI _ _ (fun _ => rfl)).tI _ _ (fun _ => rfl))
  obtain ⟨S_31, eS_32⟩ : ∃ S9 : Hp, S9 = (tI (tI S_21 q 6 (0 : Int32)) q 7 (0 : Int32)) := ⟨_, rfl⟩
  refine J.eq (S' := S_31) eS_32.symm rfl rfl ?_
  have hm_34 : h ∈ hL S_31 := by rw [eS_32]; exact hm_24
  have hk_35 : Kd S_31 h 8 := by rw [eS_32]; exact hk_25
  have hm_36 : q ∈ hL S_31 := by rw [eS_32]; exact hm_26
  have hk_37 : Kd S_31 q 14 := by rw [eS_32]; exact hk_27
  have hn_38 : Ln S_31 q 16 := by rw [eS_32]; exact hn_28
  have hv_39 : hR S_31 800 h = (some q) := by rw [eS_32]; exact hv_29
  have hf_40 : Fm (fun _ _ => False) (fun _ _ => False) (fun b9 => b9 = q) S S_31 := by rw [eS_32]; exact hf_33
  refine j_iinc (q := 0) (v := 8) (lv' := [(2, .int 8), (0, .ref h), (1, .int 0)]) C dX8_removeMany_29 rfl (by decide) (by rw [hn9]; decide) rfl ?_
  refine j_goto (tgt := 2) C dX8_removeMany_32 (by decide) ?_
  refine j_iload_n C dX8_removeMany_2 rfl 0 rfl ?_
  refine j_bipush (v := 16) C dX8_removeMany_3 (by decide) ?_
  refine j_ic_ge (tgt := 35) C dX8_removeMany_5 (by decide) (fun c9 => absurd c9 (by decide)) (fun c9 => ?_)
  refine j_iload_n C dX8_removeMany_8 rfl 2 rfl ?_
  refine j_if_eq (tgt := 22) C dX8_removeMany_9 (by decide) (fun c9 => ?_) (fun c9 => absurd (by decide) c9)
  refine j_aload_n C dX8_removeMany_22 rfl 1 rfl ?_
  show J _ _ _ _ _ 23 _
  refine j_getr (f := 800) (v := q) C flX8_9 dX8_removeMany_23 hm_34 hk_35 (by decide) rfl hv_39 ?_
  refine j_iload_n C dX8_removeMany_26 rfl 0 rfl ?_
  refine j_iconst (v := 0) C dX8_removeMany_27 (by decide) ?_
  refine j_iast (j := 8) C dX8_removeMany_28 hm_36 hk_37 (inr_of (n := 16) hn_38 (vp_lit (by decide))) (by decide) ?_
  refine j_iinc (q := 0) (v := 9) (lv' := [(2, .int 9), (0, .ref h), (1, .int 0)]) C dX8_removeMany_29 rfl (by decide) (by rw [hn9]; decide) rfl ?_
  refine j_goto (tgt := 2) C dX8_removeMany_32 (by decide) ?_
  refine j_iload_n C dX8_removeMany_2 rfl 0 rfl ?_
  refine j_bipush (v := 16) C dX8_removeMany_3 (by decide) ?_
  show J _ _ _ _ _ 5 _
  refine j_ic_ge (tgt := 35) C dX8_removeMany_5 (by decide) (fun c9 => absurd c9 (by decide)) (fun c9 => ?_)
  refine j_iload_n C dX8_removeMany_8 rfl 2 rfl ?_
  refine j_if_eq (tgt := 22) C dX8_removeMany_9 (by decide) (fun c9 => ?_) (fun c9 => absurd (by decide) c9)
  refine j_aload_n C dX8_removeMany_22 rfl 1 rfl ?_
  refine j_getr (f := 800) (v := q) C flX8_9 dX8_removeMany_23 hm_34 hk_35 (by decide) rfl hv_39 ?_
  refine j_iload_n C dX8_removeMany_26 rfl 0 rfl ?_
  refine j_iconst (v := 0) C dX8_removeMany_27 (by decide) ?_
  refine j_iast (j := 9) C dX8_removeMany_28 hm_36 hk_37 (inr_of (n := 16) hn_38 (vp_lit (by decide))) (by decide) ?_
  show J _ _ _ _ _ 29 _
  have hf_43 : Fm (fun _ _ => False) (fun _ _ => False) (fun b9 => b9 = q) S (tI (tI S_31 q 8 (0 : Int32)) q 9 (0 : Int32)) := ((hf_40.tI _ _ (fun _ => rfl)).tI _ _ (fun _ => rfl))
  obtain ⟨S_41, eS_42⟩ : ∃ S9 : Hp, S9 = (tI (tI S_31 q 8 (0 : Int32)) q 9 (0 : Int32)) := ⟨_, rfl⟩
  refine J.eq (S' := S_41) eS_42.symm rfl rfl ?_
  have hm_44 : h ∈ hL S_41 := by rw [eS_42]; exact hm_34
  have hk_45 : Kd S_41 h 8 := by rw [eS_42]; exact hk_35
  have hm_46 : q ∈ hL S_41 := by rw [eS_42]; exact hm_36
  have hk_47 : Kd S_41 q 14 := by rw [eS_42]; exact hk_37
  have hn_48 : Ln S_41 q 16 := by rw [eS_42]; exact hn_38
  have hv_49 : hR S_41 800 h = (some q) := by rw [eS_42]; exact hv_39
  have hf_50 : Fm (fun _ _ => False) (fun _ _ => False) (fun b9 => b9 = q) S S_41 := by rw [eS_42]; exact hf_43
  refine j_iinc (q := 0) (v := 10) (lv' := [(2, .int 10), (0, .ref h), (1, .int 0)]) C dX8_removeMany_29 rfl (by decide) (by rw [hn9]; decide) rfl ?_
  refine j_goto (tgt := 2) C dX8_removeMany_32 (by decide) ?_
  refine j_iload_n C dX8_removeMany_2 rfl 0 rfl ?_
  refine j_bipush (v := 16) C dX8_removeMany_3 (by decide) ?_
  refine j_ic_ge (tgt := 35) C dX8_removeMany_5 (by decide) (fun c9 => absurd c9 (by decide)) (fun c9 => ?_)
  refine j_iload_n C dX8_removeMany_8 rfl 2 rfl ?_
  refine j_if_eq (tgt := 22) C dX8_removeMany_9 (by decide) (fun c9 => ?_) (fun c9 => absurd (by decide) c9)
  refine j_aload_n C dX8_removeMany_22 rfl 1 rfl ?_
  show J _ _ _ _ _ 23 _
  refine j_getr (f := 800) (v := q) C flX8_9 dX8_removeMany_23 hm_44 hk_45 (by decide) rfl hv_49 ?_
  refine j_iload_n C dX8_removeMany_26 rfl 0 rfl ?_
  refine j_iconst (v := 0) C dX8_removeMany_27 (by decide) ?_
  refine j_iast (j := 10) C dX8_removeMany_28 hm_46 hk_47 (inr_of (n := 16) hn_48 (vp_lit (by decide))) (by decide) ?_
  refine j_iinc (q := 0) (v := 11) (lv' := [(2, .int 11), (0, .ref h), (1, .int 0)]) C dX8_removeMany_29 rfl (by decide) (by rw [hn9]; decide) rfl ?_
  refine j_goto (tgt := 2) C dX8_removeMany_32 (by decide) ?_
  refine j_iload_n C dX8_removeMany_2 rfl 0 rfl ?_
  refine j_bipush (v := 16) C dX8_removeMany_3 (by decide) ?_
  show J _ _ _ _ _ 5 _
  refine j_ic_ge (tgt := 35) C dX8_removeMany_5 (by decide) (fun c9 => absurd c9 (by decide)) (fun c9 => ?_)
  refine j_iload_n C dX8_removeMany_8 rfl 2 rfl ?_
  refine j_if_eq (tgt := 22) C dX8_removeMany_9 (by decide) (fun c9 => ?_) (fun c9 => absurd (by decide) c9)
  refine j_aload_n C dX8_removeMany_22 rfl 1 rfl ?_
  refine j_getr (f := 800) (v := q) C flX8_9 dX8_removeMany_23 hm_44 hk_45 (by decide) rfl hv_49 ?_
  refine j_iload_n C dX8_removeMany_26 rfl 0 rfl ?_
  refine j_iconst (v := 0) C dX8_removeMany_27 (by decide) ?_
  refine j_iast (j := 11) C dX8_removeMany_28 hm_46 hk_47 (inr_of (n := 16) hn_48 (vp_lit (by decide))) (by decide) ?_
  show J _ _ _ _ _ 29 _
  have hf_53 : Fm (fun _ _ => False) (fun _ _ => False) (fun b9 => b9 = q) S (tI (tI S_41 q 10 (0 : Int32)) q 11 (0 : Int32)) := ((hf_50.tI _ _ (fun _ => rfl)).tI _ _ (fun _ => rfl))
  obtain ⟨S_51, eS_52⟩ : ∃ S9 : Hp, S9 = (tI (tI S_41 q 10 (0 : Int32)) q 11 (0 : Int32)) := ⟨_, rfl⟩
  refine J.eq (S' := S_51) eS_52.symm rfl rfl ?_
  have hm_54 : h ∈ hL S_51 := by rw [eS_52]; exact hm_44
  have hk_55 : Kd S_51 h 8 := by rw [eS_52]; exact hk_45
  have hm_56 : q ∈ hL S_51 := by rw [eS_52]; exact hm_46
  have hk_57 : Kd S_51 q 14 := by rw [eS_52]; exact hk_47
  have hn_58 : Ln S_51 q 16 := by rw [eS_52]; exact hn_48
  have hv_59 : hR S_51 800 h = (some q) := by rw [eS_52]; exact hv_49
  have hf_60 : Fm (fun _ _ => False) (fun _ _ => False) (fun b9 => b9 = q) S S_51 := by rw [eS_52]; exact hf_53
  refine j_iinc (q := 0) (v := 12) (lv' := [(2, .int 12), (0, .ref h), (1, .int 0)]) C dX8_removeMany_29 rfl (by decide) (by rw [hn9]; decide) rfl ?_
  refine j_goto (tgt := 2) C dX8_removeMany_32 (by decide) ?_
  refine j_iload_n C dX8_removeMany_2 rfl 0 rfl ?_
  refine j_bipush (v := 16) C dX8_removeMany_3 (by decide) ?_
  refine j_ic_ge (tgt := 35) C dX8_removeMany_5 (by decide) (fun c9 => absurd c9 (by decide)) (fun c9 => ?_)
  refine j_iload_n C dX8_removeMany_8 rfl 2 rfl ?_
  refine j_if_eq (tgt := 22) C dX8_removeMany_9 (by decide) (fun c9 => ?_) (fun c9 => absurd (by decide) c9)
  refine j_aload_n C dX8_removeMany_22 rfl 1 rfl ?_
  show J _ _ _ _ _ 23 _
  refine j_getr (f := 800) (v := q) C flX8_9 dX8_removeMany_23 hm_54 hk_55 (by decide) rfl hv_59 ?_
  refine j_iload_n C dX8_removeMany_26 rfl 0 rfl ?_
  refine j_iconst (v := 0) C dX8_removeMany_27 (by decide) ?_
  refine j_iast (j := 12) C dX8_removeMany_28 hm_56 hk_57 (inr_of (n := 16) hn_58 (vp_lit (by decide))) (by decide) ?_
  refine j_iinc (q := 0) (v := 13) (lv' := [(2, .int 13), (0, .ref h), (1, .int 0)]) C dX8_removeMany_29 rfl (by decide) (by rw [hn9]; decide) rfl ?_
  refine j_goto (tgt := 2) C dX8_removeMany_32 (by decide) ?_
  refine j_iload_n C dX8_removeMany_2 rfl 0 rfl ?_
  refine j_bipush (v := 16) C dX8_removeMany_3 (by decide) ?_
  show J _ _ _ _ _ 5 _
  refine j_ic_ge (tgt := 35) C dX8_removeMany_5 (by decide) (fun c9 => absurd c9 (by decide)) (fun c9 => ?_)
  refine j_iload_n C dX8_removeMany_8 rfl 2 rfl ?_
  refine j_if_eq (tgt := 22) C dX8_removeMany_9 (by decide) (fun c9 => ?_) (fun c9 => absurd (by decide) c9)
  refine j_aload_n C dX8_removeMany_22 rfl 1 rfl ?_
  refine j_getr (f := 800) (v := q) C flX8_9 dX8_removeMany_23 hm_54 hk_55 (by decide) rfl hv_59 ?_
  refine j_iload_n C dX8_removeMany_26 rfl 0 rfl ?_
  refine j_iconst (v := 0) C dX8_removeMany_27 (by decide) ?_
  refine j_iast (j := 13) C dX8_removeMany_28 hm_56 hk_57 (inr_of (n := 16) hn_58 (vp_lit (by decide))) (by decide) ?_
  show J _ _ _ _ _ 29 _
  have hf_63 : Fm (fun _ _ => False) (fun _ _ => False) (fun b9 => b9 = q) S (tI (tI S_51 q 12 (0 : Int32)) q 13 (0 : Int32)) := ((hf_60.tI _ _ (fun _ => rfl)).tI _ _ (fun _ => rfl))
  obtain ⟨S_61, eS_62⟩ : ∃ S9 : Hp, S9 = (tI (tI S_51 q 12 (0 : Int32)) q 13 (0 : Int32)) := ⟨_, rfl⟩
  refine J.eq (S' := S_61) eS_62.symm rfl rfl ?_
  have hm_64 : h ∈ hL S_61 := by rw [eS_62]; exact hm_54
  have hk_65 : Kd S_61 h 8 := by rw [eS_62]; exact hk_55
  have hm_66 : q ∈ hL S_61 := by rw [eS_62]; exact hm_56
  have hk_67 : Kd S_61 q 14 := by rw [eS_62]; exact hk_57
  have hn_68 : Ln S_61 q 16 := by rw [eS_62]; exact hn_58
  have hv_69 : hR S_61 800 h = (some q) := by rw [eS_62]; exact hv_59
  have hf_70 : Fm (fun _ _ => False) (fun _ _ => False) (fun b9 => b9 = q) S S_61 := by rw [eS_62]; exact hf_63
  refine j_iinc (q := 0) (v := 14) (lv' := [(2, .int 14), (0, .ref h), (1, .int 0)]) C dX8_removeMany_29 rfl (by decide) (by rw [hn9]; decide) rfl ?_
  refine j_goto (tgt := 2) C dX8_removeMany_32 (by decide) ?_
  refine j_iload_n C dX8_removeMany_2 rfl 0 rfl ?_
  refine j_bipush (v := 16) C dX8_removeMany_3 (by decide) ?_
  refine j_ic_ge (tgt := 35) C dX8_removeMany_5 (by decide) (fun c9 => absurd c9 (by decide)) (fun c9 => ?_)
  refine j_iload_n C dX8_removeMany_8 rfl 2 rfl ?_
  refine j_if_eq (tgt := 22) C dX8_removeMany_9 (by decide) (fun c9 => ?_) (fun c9 => absurd (by decide) c9)
  refine j_aload_n C dX8_removeMany_22 rfl 1 rfl ?_
  show J _ _ _ _ _ 23 _
  refine j_getr (f := 800) (v := q) C flX8_9 dX8_removeMany_23 hm_64 hk_65 (by decide) rfl hv_69 ?_
  refine j_iload_n C dX8_removeMany_26 rfl 0 rfl ?_
  refine j_iconst (v := 0) C dX8_removeMany_27 (by decide) ?_
  refine j_iast (j := 14) C dX8_removeMany_28 hm_66 hk_67 (inr_of (n := 16) hn_68 (vp_lit (by decide))) (by decide) ?_
  refine j_iinc (q := 0) (v := 15) (lv' := [(2, .int 15), (0, .ref h), (1, .int 0)]) C dX8_removeMany_29 rfl (by decide) (by rw [hn9]; decide) rfl ?_
  refine j_goto (tgt := 2) C dX8_removeMany_32 (by decide) ?_
  refine j_iload_n C dX8_removeMany_2 rfl 0 rfl ?_
  refine j_bipush (v := 16) C dX8_removeMany_3 (by decide) ?_
  show J _ _ _ _ _ 5 _
  refine j_ic_ge (tgt := 35) C dX8_removeMany_5 (by decide) (fun c9 => absurd c9 (by decide)) (fun c9 => ?_)
  refine j_iload_n C dX8_removeMany_8 rfl 2 rfl ?_
  refine j_if_eq (tgt := 22) C dX8_removeMany_9 (by decide) (fun c9 => ?_) (fun c9 => absurd (by decide) c9)
  refine j_aload_n C dX8_removeMany_22 rfl 1 rfl ?_
  refine j_getr (f := 800) (v := q) C flX8_9 dX8_removeMany_23 hm_64 hk_65 (by decide) rfl hv_69 ?_
  refine j_iload_n C dX8_removeMany_26 rfl 0 rfl ?_
  refine j_iconst (v := 0) C dX8_removeMany_27 (by decide) ?_
  refine j_iast (j := 15) C dX8_removeMany_28 hm_66 hk_67 (inr_of (n := 16) hn_68 (vp_lit (by decide))) (by decide) ?_
  show J _ _ _ _ _ 29 _
  have hf_73 : Fm (fun _ _ => False) (fun _ _ => False) (fun b9 => b9 = q) S (tI (tI S_61 q 14 (0 : Int32)) q 15 (0 : Int32)) := ((hf_70.tI _ _ (fun _ => rfl)).tI _ _ (fun _ => rfl))
  obtain ⟨S_71, eS_72⟩ : ∃ S9 : Hp, S9 = (tI (tI S_61 q 14 (0 : Int32)) q 15 (0 : Int32)) := ⟨_, rfl⟩
  refine J.eq (S' := S_71) eS_72.symm rfl rfl ?_
  have hm_74 : h ∈ hL S_71 := by rw [eS_72]; exact hm_64
  have hk_75 : Kd S_71 h 8 := by rw [eS_72]; exact hk_65
  have hm_76 : q ∈ hL S_71 := by rw [eS_72]; exact hm_66
  have hk_77 : Kd S_71 q 14 := by rw [eS_72]; exact hk_67
  have hn_78 : Ln S_71 q 16 := by rw [eS_72]; exact hn_68
  have hv_79 : hR S_71 800 h = (some q) := by rw [eS_72]; exact hv_69
  have hf_80 : Fm (fun _ _ => False) (fun _ _ => False) (fun b9 => b9 = q) S S_71 := by rw [eS_72]; exact hf_73
  refine j_iinc (q := 0) (v := 16) (lv' := [(2, .int 16), (0, .ref h), (1, .int 0)]) C dX8_removeMany_29 rfl (by decide) (by rw [hn9]; decide) rfl ?_
  refine j_goto (tgt := 2) C dX8_removeMany_32 (by decide) ?_
  refine j_iload_n C dX8_removeMany_2 rfl 0 rfl ?_
  refine j_bipush (v := 16) C dX8_removeMany_3 (by decide) ?_
  refine j_ic_ge (tgt := 35) C dX8_removeMany_5 (by decide) (fun c9 => ?_) (fun c9 => absurd (by decide) c9)
  exact j_vret C M dX8_removeMany_35 (by decide) (by decide) ⟨rfl, hf_80⟩
