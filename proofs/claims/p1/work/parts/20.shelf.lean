theorem dX8_count_0 : decode cX8_count 0 = .ok (.iconst 0, 1) := by decide +kernel
theorem dX8_count_1 : decode cX8_count 1 = .ok (.istore_n 1, 1) := by decide +kernel
theorem dX8_count_2 : decode cX8_count 2 = .ok (.iconst 0, 1) := by decide +kernel
theorem dX8_count_3 : decode cX8_count 3 = .ok (.istore_n 2, 1) := by decide +kernel
theorem dX8_count_4 : decode cX8_count 4 = .ok (.iload_n 2, 1) := by decide +kernel
theorem dX8_count_5 : decode cX8_count 5 = .ok (.bipush 16, 2) := by decide +kernel
theorem dX8_count_7 : decode cX8_count 7 = .ok (.if_icmp .ge 26, 3) := by decide +kernel
theorem dX8_count_10 : decode cX8_count 10 = .ok (.iload_n 1, 1) := by decide +kernel
theorem dX8_count_11 : decode cX8_count 11 = .ok (.aload_n 0, 1) := by decide +kernel
theorem dX8_count_12 : decode cX8_count 12 = .ok (.getfield 9, 3) := by decide +kernel
theorem dX8_count_15 : decode cX8_count 15 = .ok (.iload_n 2, 1) := by decide +kernel
theorem dX8_count_16 : decode cX8_count 16 = .ok (.iaload, 1) := by decide +kernel
theorem dX8_count_17 : decode cX8_count 17 = .ok (.ifCond .eq 7, 3) := by decide +kernel
theorem dX8_count_20 : decode cX8_count 20 = .ok (.iconst 1, 1) := by decide +kernel
theorem dX8_count_21 : decode cX8_count 21 = .ok (.goto 4, 3) := by decide +kernel
theorem dX8_count_24 : decode cX8_count 24 = .ok (.iconst 0, 1) := by decide +kernel
theorem dX8_count_25 : decode cX8_count 25 = .ok (.iadd, 1) := by decide +kernel
theorem dX8_count_26 : decode cX8_count 26 = .ok (.istore_n 1, 1) := by decide +kernel
theorem dX8_count_27 : decode cX8_count 27 = .ok (.iinc 2 1, 3) := by decide +kernel
theorem dX8_count_30 : decode cX8_count 30 = .ok (.goto (-26), 3) := by decide +kernel
theorem dX8_count_33 : decode cX8_count 33 = .ok (.iload_n 1, 1) := by decide +kernel
theorem dX8_count_34 : decode cX8_count 34 = .ok (.ireturn, 1) := by decide +kernel
set_option maxRecDepth 100000 in
set_option maxHeartbeats 4000000 in
theorem c_X8_count (S : Hp) (h : Nat) (hm : h ∈ hL S) (hk : hK S h = 8) (q : Nat) (rq : hR S 800 h = some q) (mq : q ∈ hL S) (kq : Kd S q 14) (lq : Ln S q 16) (zq : ∀ j, aI S q j = 0) : Ct 1 yX8_count cX8_count 3 (some .int) 0 0 [.ref h] S (fun r S' => r = some (.int 0) ∧ Fm (fun _ _ => False) (fun _ _ => False) (fun _ => False) S S') := by
  refine ct_of (by decide) (Nat.le_of_ble_eq_true rfl) fun x hn9 C M hm9 => ?_
  have C : CB x RX8 cX8_count := C
  refine J.eq (lv' := [(0, .ref h)]) rfl rfl rfl ?_
  refine j_iconst (v := 0) C dX8_count_0 (by decide) ?_
  refine j_istore_n (lv' := [(1, .int 0), (0, .ref h)]) C dX8_count_1 rfl (by rw [hn9]; decide) rfl ?_
  refine j_iconst (v := 0) C dX8_count_2 (by decide) ?_
  refine j_istore_n (lv' := [(2, .int 0), (1, .int 0), (0, .ref h)]) C dX8_count_3 rfl (by rw [hn9]; decide) rfl ?_
  refine j_iload_n C dX8_count_4 rfl 0 rfl ?_
  refine j_bipush (v := 16) C dX8_count_5 (by decide) ?_
  refine j_ic_ge (tgt := 33) C dX8_count_7 (by decide) (fun c9 => absurd c9 (by decide)) (fun c9 => ?_)
  refine j_iload_n C dX8_count_10 rfl 1 rfl ?_
  show J _ _ _ _ _ 11 _
  refine j_aload_n C dX8_count_11 rfl 2 rfl ?_
  refine j_getr (f := 800) (v := q) C flX8_9 dX8_count_12 hm hk (by decide) rfl rq ?_
  refine j_iload_n C dX8_count_15 rfl 0 rfl ?_
  refine j_iald (j := 0) (v := 0) C dX8_count_16 mq kq (inr_of (n := 16) lq (vp_lit (by decide))) (by decide) (zq 0) ?_
  refine j_if_eq (tgt := 24) C dX8_count_17 (by decide) (fun c9 => ?_) (fun c9 => absurd (by decide) c9)
  refine j_iconst (v := 0) C dX8_count_24 (by decide) ?_
  refine j_iadd (v := 0) C dX8_count_25 (by decide) ?_
  refine j_istore_n (lv' := [(1, .int 0), (2, .int 0), (0, .ref h)]) C dX8_count_26 rfl (by rw [hn9]; decide) rfl ?_
  show J _ _ _ _ _ 27 _
  refine j_iinc (q := 1) (v := 1) (lv' := [(2, .int 1), (1, .int 0), (0, .ref h)]) C dX8_count_27 rfl (by decide) (by rw [hn9]; decide) rfl ?_
  refine j_goto (tgt := 4) C dX8_count_30 (by decide) ?_
  refine j_iload_n C dX8_count_4 rfl 0 rfl ?_
  refine j_bipush (v := 16) C dX8_count_5 (by decide) ?_
  refine j_ic_ge (tgt := 33) C dX8_count_7 (by decide) (fun c9 => absurd c9 (by decide)) (fun c9 => ?_)
  refine j_iload_n C dX8_count_10 rfl 1 rfl ?_
  refine j_aload_n C dX8_count_11 rfl 2 rfl ?_
  refine j_getr (f := 800) (v := q) C flX8_9 dX8_count_12 hm hk (by decide) rfl rq ?_
  show J _ _ _ _ _ 15 _
  refine j_iload_n C dX8_count_15 rfl 0 rfl ?_
  refine j_iald (j := 1) (v := 0) C dX8_count_16 mq kq (inr_of (n := 16) lq (vp_lit (by decide))) (by decide) (zq 1) ?_
  refine j_if_eq (tgt := 24) C dX8_count_17 (by decide) (fun c9 => ?_) (fun c9 => absurd (by decide) c9)
  refine j_iconst (v := 0) C dX8_count_24 (by decide) ?_
  refine j_iadd (v := 0) C dX8_count_25 (by decide) ?_
  refine j_istore_n (lv' := [(1, .int 0), (2, .int 1), (0, .ref h)]) C dX8_count_26 rfl (by rw [hn9]; decide) rfl ?_
  refine j_iinc (q := 1) (v := 2) (lv' := [(2, .int 2), (1, .int 0), (0, .ref h)]) C dX8_count_27 rfl (by decide) (by rw [hn9]; decide) rfl ?_
  refine j_goto (tgt := 4) C dX8_count_30 (by decide) ?_
  show J _ _ _ _ _ 4 _
  refine j_iload_n C dX8_count_4 rfl 0 rfl ?_
  refine j_bipush (v := 16) C dX8_count_5 (by decide) ?_
  refine j_ic_ge (tgt := 33) C dX8_count_7 (by decide) (fun c9 => absurd c9 (by decide)) (fun c9 => ?_)
  refine j_iload_n C dX8_count_10 rfl 1 rfl ?_
  refine j_aload_n C dX8_count_11 rfl 2 rfl ?_
  refine j_getr (f := 800) (v := q) C flX8_9 dX8_count_12 hm hk (by decide) rfl rq ?_
  refine j_iload_n C dX8_count_15 rfl 0 rfl ?_
  refine j_iald (j := 2) (v := 0) C dX8_count_16 mq kq (inr_of (n := 16) lq (vp_lit (by decide))) (by decide) (zq 2) ?_
  show J _ _ _ _ _ 17 _
  refine j_if_eq (tgt := 24) C dX8_count_17 (by decide) (fun c9 => ?_) (fun c9 => absurd (by decide) c9)
  refine j_iconst (v := 0) C dX8_count_24 (by decide) ?_
  refine j_iadd (v := 0) C dX8_count_25 (by decide) ?_
  refine j_istore_n (lv' := [(1, .int 0), (2, .int 2), (0, .ref h)]) C dX8_count_26 rfl (by rw [hn9]; decide) rfl ?_
  refine j_iinc (q := 1) (v := 3) (lv' := [(2, .int 3), (1, .int 0), (0, .ref h)]) C dX8_count_27 rfl (by decide) (by rw [hn9]; decide) rfl ?_
  refine j_goto (tgt := 4) C dX8_count_30 (by decide) ?_
  refine j_iload_n C dX8_count_4 rfl 0 rfl ?_
  refine j_bipush (v := 16) C dX8_count_5 (by decide) ?_
  show J _ _ _ _ _ 7 _
  refine j_ic_ge (tgt := 33) C dX8_count_7 (by decide) (fun c9 => absurd c9 (by decide)) (fun c9 => ?_)
  refine j_iload_n C dX8_count_10 rfl 1 rfl ?_
  refine j_aload_n C dX8_count_11 rfl 2 rfl ?_
  refine j_getr (f := 800) (v := q) C flX8_9 dX8_count_12 hm hk (by decide) rfl rq ?_
  refine j_iload_n C dX8_count_15 rfl 0 rfl ?_
  refine j_iald (j := 3) (v := 0) C dX8_count_16 mq kq (inr_of (n := 16) lq (vp_lit (by decide))) (by decide) (zq 3) ?_
  refine j_if_eq (tgt := 24) C dX8_count_17 (by decide) (fun c9 => ?_) (fun c9 => absurd (by decide) c9)
  refine j_iconst (v := 0) C dX8_count_24 (by decide) ?_
  show J _ _ _ _ _ 25 _
  refine j_iadd (v := 0) C dX8_count_25 (by decide) ?_
  refine j_istore_n (lv' := [(1, .int 0), (2, .int 3), (0, .ref h)]) C dX8_count_26 rfl (by rw [hn9]; decide) rfl ?_
  refine j_iinc (q := 1) (v := 4) (lv' := [(2, .int 4), (1, .int 0), (0, .ref h)]) C dX8_count_27 rfl (by decide) (by rw [hn9]; decide) rfl ?_
  refine j_goto (tgt := 4) C dX8_count_30 (by decide) ?_
  refine j_iload_n C dX8_count_4 rfl 0 rfl ?_
  refine j_bipush (v := 16) C dX8_count_5 (by decide) ?_
  refine j_ic_ge (tgt := 33) C dX8_count_7 (by decide) (fun c9 => absurd c9 (by decide)) (fun c9 => ?_)
  refine j_iload_n C dX8_count_10 rfl 1 rfl ?_
  show J _ _ _ _ _ 11 _
  refine j_aload_n C dX8_count_11 rfl 2 rfl ?_
  refine j_getr (f := 800) (v := q) C flX8_9 dX8_count_12 hm hk (by decide) rfl rq ?_
  refine j_iload_n C dX8_count_15 rfl 0 rfl ?_
  refine j_iald (j := 4) (v := 0) C dX8_count_16 mq kq (inr_of (n := 16) lq (vp_lit (by decide))) (by decide) (zq 4) ?_
  refine j_if_eq (tgt := 24) C dX8_count_17 (by decide) (fun c9 => ?_) (fun c9 => absurd (by decide) c9)
  refine j_iconst (v := 0) C dX8_count_24 (by decide) ?_
  refine j_iadd (v := 0) C dX8_count_25 (by decide) ?_
  refine j_istore_n (lv' := [(1, .int 0), (2, .int 4), (0, .ref h)]) C dX8_count_26 rfl (by rw [hn9]; decide) rfl ?_
  show J _ _ _ _ _ 27 _
  refine j_iinc (q := 1) (v := 5) (lv' := [(2, .int 5), (1, .int 0), (0, .ref h)]) C dX8_count_27 rfl (by decide) (by rw [hn9]; decide) rfl ?_
  refine j_goto (tgt := 4) C dX8_count_30 (by decide) ?_
  refine j_iload_n C dX8_count_4 rfl 0 rfl ?_
  refine j_bipush (v := 16) C dX8_count_5 (by decide) ?_
  refine j_ic_ge (tgt := 33) C dX8_count_7 (by decide) (fun c9 => absurd c9 (by decide)) (fun c9 => ?_)
  refine j_iload_n C dX8_count_10 rfl 1 rfl ?_
  refine j_aload_n C dX8_count_11 rfl 2 rfl ?_
  refine j_getr (f := 800) (v := q) C flX8_9 dX8_count_12 hm hk (by decide) rfl rq ?_
  show J _ _ _ _ _ 15 _
  refine j_iload_n C dX8_count_15 rfl 0 rfl ?_
  refine j_iald (j := 5) (v := 0) C dX8_count_16 mq kq (inr_of (n := 16) lq (vp_lit (by decide))) (by decide) (zq 5) ?_
  refine j_if_eq (tgt := 24) C dX8_count_17 (by decide) (fun c9 => ?_) (fun c9 => absurd (by decide) c9)
  refine j_iconst (v := 0) C dX8_count_24 (by decide) ?_
  refine j_iadd (v := 0) C dX8_count_25 (by decide) ?_
  refine j_istore_n (lv' := [(1, .int 0), (2, .int 5), (0, .ref h)]) C dX8_count_26 rfl (by rw [hn9]; decide) rfl ?_
  refine j_iinc (q := 1) (v := 6) (lv' := [(2, .int 6), (1, .int 0), (0, .ref h)]) C dX8_count_27 rfl (by decide) (by rw [hn9]; decide) rfl ?_
  refine j_goto (tgt := 4) C dX8_count_30 (by decide) ?_
  show J _ _ _ _ _ 4 _
  refine j_iload_n C dX8_count_4 rfl 0 rfl ?_
  refine j_bipush (v := 16) C dX8_count_5 (by decide) ?_
  refine j_ic_ge (tgt := 33) C dX8_count_7 (by decide) (fun c9 => absurd c9 (by decide)) (fun c9 => ?_)
  refine j_iload_n C dX8_count_10 rfl 1 rfl ?_
  refine j_aload_n C dX8_count_11 rfl 2 rfl ?_
  refine j_getr (f := 800) (v := q) C flX8_9 dX8_count_12 hm hk (by decide) rfl rq ?_
  refine j_iload_n C dX8_count_15 rfl 0 rfl ?_
  refine j_iald (j := 6) (v := 0) C dX8_count_16 mq kq (inr_of (n := 16) lq (vp_lit (by decide))) (by decide) (zq 6) ?_
  show J _ _ _ _ _ 17 _
  refine j_if_eq (tgt := 24) C dX8_count_17 (by decide) (fun c9 => ?_) (fun c9 => absurd (by decide) c9)
  refine j_iconst (v := 0) C dX8_count_24 (by decide) ?_
  refine j_iadd (v := 0) C dX8_count_25 (by decide) ?_
  refine j_istore_n (lv' := [(1, .int 0), (2, .int 6), (0, .ref h)]) C dX8_count_26 rfl (by rw [hn9]; decide) rfl ?_
  refine j_iinc (q := 1) (v := 7) (lv' := [(2, .int 7), (1, .int 0), (0, .ref h)]) C dX8_count_27 rfl (by decide) (by rw [hn9]; decide) rfl ?_
  refine j_goto (tgt := 4) C dX8_count_30 (by decide) ?_
  refine j_iload_n C dX8_count_4 rfl 0 rfl ?_
  refine j_bipush (v := 16) C dX8_count_5 (by decide) ?_
  show J _ _ _ _ _ 7 _
  refine j_ic_ge (tgt := 33) C dX8_count_7 (by decide) (fun c9 => absurd c9 (by decide)) (fun c9 => ?_)
  refine j_iload_n C dX8_count_10 rfl 1 rfl ?_
  refine j_aload_n C dX8_count_11 rfl 2 rfl ?_
  refine j_getr (f := 800) (v := q) C flX8_9 dX8_count_12 hm hk (by decide) rfl rq ?_
  refine j_iload_n C dX8_count_15 rfl 0 rfl ?_
  refine j_iald (j := 7) (v := 0) C dX8_count_16 mq kq (inr_of (n := 16) lq (vp_lit (by decide))) (by decide) (zq 7) ?_
  refine j_if_eq (tgt := 24) C dX8_count_17 (by decide) (fun c9 => ?_) (fun c9 => absurd (by decide) c9)
  refine j_iconst (v := 0) C dX8_count_24 (by decide) ?_
  show J _ _ _ _ _ 25 _
  refine j_iadd (v := 0) C dX8_count_25 (by decide) ?_
  refine j_istore_n (lv' := [(1, .int 0), (2, .int 7), (0, .ref h)]) C dX8_count_26 rfl (by rw [hn9]; decide) rfl ?_
  refine j_iinc (q := 1) (v := 8) (lv' := [(2, .int 8), (1, .int 0), (0, .ref h)]) C dX8_count_27 rfl (by decide) (by rw [hn9]; decide) rfl ?_
  refine j_goto (tgt := 4) C dX8_count_30 (by decide) ?_
  refine j_iload_n C dX8_count_4 rfl 0 rfl ?_
  refine j_bipush (v := 16) C dX8_count_5 (by decide) ?_
  refine j_ic_ge (tgt := 33) C dX8_count_7 (by decide) (fun c9 => absurd c9 (by decide)) (fun c9 => ?_)
  refine j_iload_n C dX8_count_10 rfl 1 rfl ?_
  show J _ _ _ _ _ 11 _
  refine j_aload_n C dX8_count_11 rfl 2 rfl ?_
  refine j_getr (f := 800) (v := q) C flX8_9 dX8_count_12 hm hk (by decide) rfl rq ?_
  refine j_iload_n C dX8_count_15 rfl 0 rfl ?_
  refine j_iald (j := 8) (v := 0) C dX8_count_16 mq kq (inr_of (n := 16) lq (vp_lit (by decide))) (by decide) (zq 8) ?_
  refine j_if_eq (tgt := 24) C dX8_count_17 (by decide) (fun c9 => ?_) (fun c9 => absurd (by decide) c9)
  refine j_iconst (v := 0) C dX8_count_24 (by decide) ?_
  refine j_iadd (v := 0) C dX8_count_25 (by decide) ?_
  refine j_istore_n (lv' := [(1, .int 0), (2, .int 8), (0, .ref h)]) C dX8_count_26 rfl (by rw [hn9]; decide) rfl ?_
  show J _ _ _ _ _ 27 _
  refine j_iinc (q := 1) (v := 9) (lv' := [(2, .int 9), (1, .int 0), (0, .ref h)]) C dX8_count_27 rfl (by decide) (by rw [hn9]; decide) rfl ?_
  refine j_goto (tgt := 4) C dX8_count_30 (by decide) ?_
  refine j_iload_n C dX8_count_4 rfl 0 rfl ?_
  refine j_bipush (v := 16) C dX8_count_5 (by decide) ?_
  refine j_ic_ge (tgt := 33) C dX8_count_7 (by decide) (fun c9 => absurd c9 (by decide)) (fun c9 => ?_)
  refine j_iload_n C dX8_count_10 rfl 1 rfl ?_
  refine j_aload_n C dX8_count_11 rfl 2 rfl ?_
  refine j_getr (f := 800) (v := q) C flX8_9 dX8_count_12 hm hk (by decide) rfl rq ?_
  show J _ _ _ _ _ 15 _
  refine j_iload_n C dX8_count_15 rfl 0 rfl ?_
  refine j_iald (j := 9) (v := 0) C dX8_count_16 mq kq (inr_of (n := 16) lq (vp_lit (by decide))) (by decide) (zq 9) ?_
  refine j_if_eq (tgt := 24) C dX8_count_17 (by decide) (fun c9 => ?_) (fun c9 => absurd (by decide) c9)
  refine j_iconst (v := 0) C dX8_count_24 (by decide) ?_
  refine j_iadd (v := 0) C dX8_count_25 (by decide) ?_
  refine j_istore_n (lv' := [(1, .int 0), (2, .int 9), (0, .ref h)]) C dX8_count_26 rfl (by rw [hn9]; decide) rfl ?_
  refine j_iinc (q := 1) (v := 10) (lv' := [(2, .int 10), (1, .int 0), (0, .ref h)]) C dX8_count_27 rfl (by decide) (by rw [hn9]; decide) rfl ?_
  refine j_goto (tgt := 4) C dX8_count_30 (by decide) ?_
  show J _ _ _ _ _ 4 _
  refine j_iload_n C dX8_count_4 rfl 0 rfl ?_
  refine j_bipush (v := 16) C dX8_count_5 (by decide) ?_
  refine j_ic_ge (tgt := 33) C dX8_count_7 (by decide) (fun c9 => absurd c9 (by decide)) (fun c9 => ?_)
  refine j_iload_n C dX8_count_10 rfl 1 rfl ?_
  refine j_aload_n C dX8_count_11 rfl 2 rfl ?_
  refine j_getr (f := 800) (v := q) C flX8_9 dX8_count_12 hm hk (by decide) rfl rq ?_
  refine j_iload_n C dX8_count_15 rfl 0 rfl ?_
  refine j_iald (j := 10) (v := 0) C dX8_count_16 mq kq (inr_of (n := 16) lq (vp_lit (by decide))) (by decide) (zq 10) ?_
  show J _ _ _ _ _ 17 _
  refine j_if_eq (tgt := 24) C dX8_count_17 (by decide) (fun c9 => ?_) (fun c9 => absurd (by decide) c9)
  refine j_iconst (v := 0) C dX8_count_24 (by decide) ?_
  refine j_iadd (v := 0) C dX8_count_25 (by decide) ?_
  refine j_istore_n (lv' := [(1, .int 0), (2, .int 10), (0, .ref h)]) C dX8_count_26 rfl (by rw [hn9]; decide) rfl ?_
  refine j_iinc (q := 1) (v := 11) (lv' := [(2, .int 11), (1, .int 0), (0, .ref h)]) C dX8_count_27 rfl (by decide) (by rw [hn9]; decide) rfl ?_
  refine j_goto (tgt := 4) C dX8_count_30 (by decide) ?_
  refine j_iload_n C dX8_count_4 rfl 0 rfl ?_
  refine j_bipush (v := 16) C dX8_count_5 (by decide) ?_
  show J _ _ _ _ _ 7 _
  refine j_ic_ge (tgt := 33) C dX8_count_7 (by decide) (fun c9 => absurd c9 (by decide)) (fun c9 => ?_)
  refine j_iload_n C dX8_count_10 rfl 1 rfl ?_
  refine j_aload_n C dX8_count_11 rfl 2 rfl ?_
  refine j_getr (f := 800) (v := q) C flX8_9 dX8_count_12 hm hk (by decide) rfl rq ?_
  refine j_iload_n C dX8_count_15 rfl 0 rfl ?_
  refine j_iald (j := 11) (v := 0) C dX8_count_16 mq kq (inr_of (n := 16) lq (vp_lit (by decide))) (by decide) (zq 11) ?_
  refine j_if_eq (tgt := 24) C dX8_count_17 (by decide) (fun c9 => ?_) (fun c9 => absurd (by decide) c9)
  refine j_iconst (v := 0) C dX8_count_24 (by decide) ?_
  show J _ _ _ _ _ 25 _
  refine j_iadd (v := 0) C dX8_count_25 (by decide) ?_
  refine j_istore_n (lv' := [(1, .int 0), (2, .int 11), (0, .ref h)]) C dX8_count_26 rfl (by rw [hn9]; decide) rfl ?_
  refine j_iinc (q := 1) (v := 12) (lv' := [(2, .int 12), (1, .int 0), (0, .ref h)]) C dX8_count_27 rfl (by decide) (by rw [hn9]; decide) rfl ?_
  refine j_goto (tgt := 4) C dX8_count_30 (by decide) ?_
  refine j_iload_n C dX8_count_4 rfl 0 rfl ?_
  refine j_bipush (v := 16) C dX8_count_5 (by decide) ?_
  refine j_ic_ge (tgt := 33) C dX8_count_7 (by decide) (fun c9 => absurd c9 (by decide)) (fun c9 => ?_)
  refine j_iload_n C dX8_count_10 rfl 1 rfl ?_
  show J _ _ _ _ _ 11 _
  refine j_aload_n C dX8_count_11 rfl 2 rfl ?_
  refine j_getr (f := 800) (v := q) C flX8_9 dX8_count_12 hm hk (by decide) rfl rq ?_
  refine j_iload_n C dX8_count_15 rfl 0 rfl ?_
  refine j_iald (j := 12) (v := 0) C dX8_count_16 mq kq (inr_of (n := 16) lq (vp_lit (by decide))) (by decide) (zq 12) ?_
  refine j_if_eq (tgt := 24) C dX8_count_17 (by decide) (fun c9 => ?_) (fun c9 => absurd (by decide) c9)
  refine j_iconst (v := 0) C dX8_count_24 (by decide) ?_
  refine j_iadd (v := 0) C dX8_count_25 (by decide) ?_
  refine j_istore_n (lv' := [(1, .int 0), (2, .int 12), (0, .ref h)]) C dX8_count_26 rfl (by rw [hn9]; decide) rfl ?_
  show J _ _ _ _ _ 27 _
  refine j_iinc (q := 1) (v := 13) (lv' := [(2, .int 13), (1, .int 0), (0, .ref h)]) C dX8_count_27 rfl (by decide) (by rw [hn9]; decide) rfl ?_
  refine j_goto (tgt := 4) C dX8_count_30 (by decide) ?_
  refine j_iload_n C dX8_count_4 rfl 0 rfl ?_
  refine j_bipush (v := 16) C dX8_count_5 (by decide) ?_
  refine j_ic_ge (tgt := 33) C dX8_count_7 (by decide) (fun c9 => absurd c9 (by decide)) (fun c9 => ?_)
  refine j_iload_n C dX8_count_10 rfl 1 rfl ?_
  refine j_aload_n C dX8_count_11 rfl 2 rfl ?_
  refine j_getr (f := 800) (v := q) C flX8_9 dX8_count_12 hm hk (by decide) rfl rq ?_
  show J _ _ _ _ _ 15 _
  refine j_iload_n C dX8_count_15 rfl 0 rfl ?_
  refine j_iald (j := 13) (v := 0) C dX8_count_16 mq kq (inr_of (n := 16) lq (vp_lit (by decide))) (by decide) (zq 13) ?_
  refine j_if_eq (tgt := 24) C dX8_count_17 (by decide) (fun c9 => ?_) (fun c9 => absurd (by decide) c9)
  refine j_iconst (v := 0) C dX8_count_24 (by decide) ?_
  refine j_iadd (v := 0) C dX8_count_25 (by decide) ?_
  refine j_istore_n (lv' := [(1, .int 0), (2, .int 13), (0, .ref h)]) C dX8_count_26 rfl (by rw [hn9]; decide) rfl ?_
  refine j_iinc (q := 1) (v := 14) (lv' := [(2, .int 14), (1, .int 0), (0, .ref h)]) C dX8_count_27 rfl (by decide) (by rw [hn9]; decide) rfl ?_
  refine j_goto (tgt := 4) C dX8_count_30 (by decide) ?_
  show J _ _ _ _ _ 4 _
  refine j_iload_n C dX8_count_4 rfl 0 rfl ?_
  refine j_bipush (v := 16) C dX8_count_5 (by decide) ?_
  refine j_ic_ge (tgt := 33) C dX8_count_7 (by decide) (fun c9 => absurd c9 (by decide)) (fun c9 => ?_)
  refine j_iload_n C dX8_count_10 rfl 1 rfl ?_
  refine j_aload_n C dX8_count_11 rfl 2 rfl ?_
  refine j_getr (f := 800) (v := q) C flX8_9 dX8_count_12 hm hk (by decide) rfl rq ?_
  refine j_iload_n C dX8_count_15 rfl 0 rfl ?_
  refine j_iald (j := 14) (v := 0) C dX8_count_16 mq kq (inr_of (n := 16) lq (vp_lit (by decide))) (by decide) (zq 14) ?_
  show J _ _ _ _ _ 17 _
  refine j_if_eq (tgt := 24) C dX8_count_17 (by decide) (fun c9 => ?_) (fun c9 => absurd (by decide) c9)
  refine j_iconst (v := 0) C dX8_count_24 (by decide) ?_
  refine j_iadd (v := 0) C dX8_count_25 (by decide) ?_
  refine j_istore_n (lv' := [(1, .int 0), (2, .int 14), (0, .ref h)]) C dX8_count_26 rfl (by rw [hn9]; decide) rfl ?_
  refine j_iinc (q := 1) (v := 15) (lv' := [(2, .int 15), (1, .int 0), (0, .ref h)]) C dX8_count_27 rfl (by decide) (by rw [hn9]; decide) rfl ?_
  refine j_goto (tgt := 4) C dX8_count_30 (by decide) ?_
  refine j_iload_n C dX8_count_4 rfl 0 rfl ?_
  refine j_bipush (v := 16) C dX8_count_5 (by decide) ?_
  show J _ _ _ _ _ 7 _
  refine j_ic_ge (tgt := 33) C dX8_count_7 (by decide) (fun c9 => absurd c9 (by decide)) (fun c9 => ?_)
  refine j_iload_n C dX8_count_10 rfl 1 rfl ?_
  refine j_aload_n C dX8_count_11 rfl 2 rfl ?_
  refine j_getr (f := 800) (v := q) C flX8_9 dX8_count_12 hm hk (by decide) rfl rq ?_
  refine j_iload_n C dX8_count_15 rfl 0 rfl ?_
  refine j_iald (j := 15) (v := 0) C dX8_count_16 mq kq (inr_of (n := 16) lq (vp_lit (by decide))) (by decide) (zq 15) ?_
  refine j_if_eq (tgt := 24) C dX8_count_17 (by decide) (fun c9 => ?_) (fun c9 => absurd (by decide) c9)
  refine j_iconst (v := 0) C dX8_count_24 (by decide) ?_
  show J _ _ _ _ _ 25 _
  refine j_iadd (v := 0) C dX8_count_25 (by decide) ?_
  refine j_istore_n (lv' := [(1, .int 0), (2, .int 15), (0, .ref h)]) C dX8_count_26 rfl (by rw [hn9]; decide) rfl ?_
  refine j_iinc (q := 1) (v := 16) (lv' := [(2, .int 16), (1, .int 0), (0, .ref h)]) C dX8_count_27 rfl (by decide) (by rw [hn9]; decide) rfl ?_
  refine j_goto (tgt := 4) C dX8_count_30 (by decide) ?_
  refine j_iload_n C dX8_count_4 rfl 0 rfl ?_
  refine j_bipush (v := 16) C dX8_count_5 (by decide) ?_
  refine j_ic_ge (tgt := 33) C dX8_count_7 (by decide) (fun c9 => ?_) (fun c9 => absurd (by decide) c9)
  refine j_iload_n C dX8_count_33 rfl 1 rfl ?_
  show J _ _ _ _ _ 34 _
  exact j_iret C M dX8_count_34 (by decide) (by decide) ⟨rfl, (Fm.refl (WI := (fun _ _ => False)) (WR := (fun _ _ => False)) (WA := (fun _ => False)))⟩

theorem dX8_has_0 : decode cX8_has 0 = .ok (.iload_n 1, 1) := by decide +kernel
theorem dX8_has_1 : decode cX8_has 1 = .ok (.ifCond .lt 22, 3) := by decide +kernel
theorem dX8_has_4 : decode cX8_has 4 = .ok (.iload_n 1, 1) := by decide +kernel
theorem dX8_has_5 : decode cX8_has 5 = .ok (.bipush 16, 2) := by decide +kernel
theorem dX8_has_7 : decode cX8_has 7 = .ok (.if_icmp .ge 16, 3) := by decide +kernel
theorem dX8_has_10 : decode cX8_has 10 = .ok (.aload_n 0, 1) := by decide +kernel
theorem dX8_has_11 : decode cX8_has 11 = .ok (.getfield 9, 3) := by decide +kernel
theorem dX8_has_14 : decode cX8_has 14 = .ok (.iload_n 1, 1) := by decide +kernel
theorem dX8_has_15 : decode cX8_has 15 = .ok (.iaload, 1) := by decide +kernel
theorem dX8_has_16 : decode cX8_has 16 = .ok (.ifCond .eq 7, 3) := by decide +kernel
theorem dX8_has_19 : decode cX8_has 19 = .ok (.iconst 1, 1) := by decide +kernel
theorem dX8_has_20 : decode cX8_has 20 = .ok (.goto 4, 3) := by decide +kernel
theorem dX8_has_23 : decode cX8_has 23 = .ok (.iconst 0, 1) := by decide +kernel
theorem dX8_has_24 : decode cX8_has 24 = .ok (.ireturn, 1) := by decide +kernel
set_option maxRecDepth 100000 in
set_option maxHeartbeats 4000000 in
theorem c_X8_has (S : Hp) (h : Nat) (hm : h ∈ hL S) (hk : hK S h = 8) (q : Nat) (rq : hR S 800 h = some q) (mq : q ∈ hL S) (kq : Kd S q 14) (lq : Ln S q 16) (zq : ∀ j, aI S q j = 0) (i0 : Int32) : Ct 1 yX8_has cX8_has 2 (some .boolean) 0 0 [.ref h, .int i0] S (fun r S' => r = some (.int 0) ∧ Fm (fun _ _ => False) (fun _ _ => False) (fun _ => False) S S') := by
  refine ct_of (by decide) (Nat.le_of_ble_eq_true rfl) fun x hn9 C M hm9 => ?_
  have C : CB x RX8 cX8_has := C
  refine J.eq (lv' := [(0, .ref h), (1, .int i0)]) rfl rfl rfl ?_
  refine j_iload_n C dX8_has_0 rfl 1 rfl ?_
  refine j_if_lt (tgt := 23) C dX8_has_1 (by decide) (fun c_1 => ?_) (fun c_1 => ?_)
  · skip
    refine j_iconst (v := 0) C dX8_has_23 (by decide) ?_
    exact j_zret C M rfl dX8_has_24 (by decide) (by decide) ⟨rfl, (Fm.refl (WI := (fun _ _ => False)) (WR := (fun _ _ => False)) (WA := (fun _ => False)))⟩
  · skip
    refine j_iload_n C dX8_has_4 rfl 1 rfl ?_
    refine j_bipush (v := 16) C dX8_has_5 (by decide) ?_
    refine j_ic_ge (tgt := 23) C dX8_has_7 (by decide) (fun c_7 => ?_) (fun c_7 => ?_)
    · skip
      refine j_iconst (v := 0) C dX8_has_23 (by decide) ?_
      exact j_zret C M rfl dX8_has_24 (by decide) (by decide) ⟨rfl, (Fm.refl (WI := (fun _ _ => False)) (WR := (fun _ _ => False)) (WA := (fun _ => False)))⟩
    · skip
      refine j_aload_n C dX8_has_10 rfl 0 rfl ?_
      refine j_getr (f := 800) (v := q) C flX8_9 dX8_has_11 hm hk (by decide) rfl rq ?_
      refine j_iload_n C dX8_has_14 rfl 1 rfl ?_
      show J _ _ _ _ _ 15 _
      refine j_iald (j := (Int32.toNatClampNeg i0)) (v := 0) C dX8_has_15 mq kq (inr_of (n := 16) lq (vp_ge c_1 c_7)) rfl (zq _) ?_
      refine j_if_eq (tgt := 23) C dX8_has_16 (by decide) (fun c9 => ?_) (fun c9 => absurd (by decide) c9)
      refine j_iconst (v := 0) C dX8_has_23 (by decide) ?_
      exact j_zret C M rfl dX8_has_24 (by decide) (by decide) ⟨rfl, (Fm.refl (WI := (fun _ _ => False)) (WR := (fun _ _ => False)) (WA := (fun _ => False)))⟩
