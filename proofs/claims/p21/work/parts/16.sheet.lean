theorem dX7_dotsAcross_0 : decode cX7_dotsAcross 0 = .ok (.aload_n 0, 1) := by decide +kernel
theorem dX7_dotsAcross_1 : decode cX7_dotsAcross 1 = .ok (.getfield 19, 3) := by decide +kernel
theorem dX7_dotsAcross_4 : decode cX7_dotsAcross 4 = .ok (.ifCond .ne 16, 3) := by decide +kernel
theorem dX7_dotsAcross_7 : decode cX7_dotsAcross 7 = .ok (.getstatic 75, 3) := by decide +kernel
theorem dX7_dotsAcross_10 : decode cX7_dotsAcross 10 = .ok (.aload_n 0, 1) := by decide +kernel
theorem dX7_dotsAcross_11 : decode cX7_dotsAcross 11 = .ok (.getfield 15, 3) := by decide +kernel
theorem dX7_dotsAcross_14 : decode cX7_dotsAcross 14 = .ok (.iconst 3, 1) := by decide +kernel
theorem dX7_dotsAcross_15 : decode cX7_dotsAcross 15 = .ok (.iand, 1) := by decide +kernel
theorem dX7_dotsAcross_16 : decode cX7_dotsAcross 16 = .ok (.iaload, 1) := by decide +kernel
theorem dX7_dotsAcross_17 : decode cX7_dotsAcross 17 = .ok (.goto 13, 3) := by decide +kernel
theorem dX7_dotsAcross_20 : decode cX7_dotsAcross 20 = .ok (.getstatic 78, 3) := by decide +kernel
theorem dX7_dotsAcross_23 : decode cX7_dotsAcross 23 = .ok (.aload_n 0, 1) := by decide +kernel
theorem dX7_dotsAcross_24 : decode cX7_dotsAcross 24 = .ok (.getfield 15, 3) := by decide +kernel
theorem dX7_dotsAcross_27 : decode cX7_dotsAcross 27 = .ok (.iconst 3, 1) := by decide +kernel
theorem dX7_dotsAcross_28 : decode cX7_dotsAcross 28 = .ok (.iand, 1) := by decide +kernel
theorem dX7_dotsAcross_29 : decode cX7_dotsAcross 29 = .ok (.iaload, 1) := by decide +kernel
theorem dX7_dotsAcross_30 : decode cX7_dotsAcross 30 = .ok (.ireturn, 1) := by decide +kernel

set_option maxRecDepth 100000 in
set_option maxHeartbeats 4000000 in
theorem c_across0 (S : Hp) (t : Nat) (m_t : t ∈ hL S) (k_t : Kd S t 7) (hI_700_t : hI S 700 t = 0) (hI_701_t : hI S 701 t = 0) : Ct 1 yX7_dotsAcross cX7_dotsAcross 1 (some .int) 0 0 [.ref t] S (fun r S' => r = some (.int 200) ∧ S' = S) := by
  refine ct_of (by decide) (Nat.le_of_ble_eq_true rfl) fun x hn9 C M hm9 => ?_
  have C : CB x RX7 cX7_dotsAcross := C
  refine J.eq (lv' := [(0, .ref t)]) rfl rfl rfl ?_
  refine j_aload_n C dX7_dotsAcross_0 rfl 0 rfl ?_
  refine j_geti (f := 701) (v := 0) C flX7_19 dX7_dotsAcross_1 m_t k_t (by decide) (by decide) rfl hI_701_t ?_
  refine j_if_ne (tgt := 20) C dX7_dotsAcross_4 (by decide) (fun c9 => absurd c9 (by decide)) (fun c9 => ?_)
  refine j_gets C 0 rfl (Or.inr ⟨_, gsX7_75⟩) dX7_dotsAcross_7 ?_
  refine j_aload_n C dX7_dotsAcross_10 rfl 0 rfl ?_
  refine j_geti (f := 700) (v := 0) C flX7_15 dX7_dotsAcross_11 m_t k_t (by decide) (by decide) rfl hI_700_t ?_
  refine j_iconst (v := 3) C dX7_dotsAcross_14 (by decide) ?_
  refine j_iand (v := 0) C dX7_dotsAcross_15 (by decide) ?_
  show J _ _ _ _ _ 16 _
  refine j_stld (v := 200) C 0 rfl dX7_dotsAcross_16 (vp_lit (by decide)) (by decide) ?_
  refine j_goto (tgt := 30) C dX7_dotsAcross_17 (by decide) ?_
  exact j_iret C M dX7_dotsAcross_30 (by decide) (by decide) ⟨rfl, rfl⟩

theorem dX7_dotsDown_0 : decode cX7_dotsDown 0 = .ok (.aload_n 0, 1) := by decide +kernel
theorem dX7_dotsDown_1 : decode cX7_dotsDown 1 = .ok (.getfield 19, 3) := by decide +kernel
theorem dX7_dotsDown_4 : decode cX7_dotsDown 4 = .ok (.ifCond .ne 16, 3) := by decide +kernel
theorem dX7_dotsDown_7 : decode cX7_dotsDown 7 = .ok (.getstatic 78, 3) := by decide +kernel
theorem dX7_dotsDown_10 : decode cX7_dotsDown 10 = .ok (.aload_n 0, 1) := by decide +kernel
theorem dX7_dotsDown_11 : decode cX7_dotsDown 11 = .ok (.getfield 15, 3) := by decide +kernel
theorem dX7_dotsDown_14 : decode cX7_dotsDown 14 = .ok (.iconst 3, 1) := by decide +kernel
theorem dX7_dotsDown_15 : decode cX7_dotsDown 15 = .ok (.iand, 1) := by decide +kernel
theorem dX7_dotsDown_16 : decode cX7_dotsDown 16 = .ok (.iaload, 1) := by decide +kernel
theorem dX7_dotsDown_17 : decode cX7_dotsDown 17 = .ok (.goto 13, 3) := by decide +kernel
theorem dX7_dotsDown_20 : decode cX7_dotsDown 20 = .ok (.getstatic 75, 3) := by decide +kernel
theorem dX7_dotsDown_23 : decode cX7_dotsDown 23 = .ok (.aload_n 0, 1) := by decide +kernel
theorem dX7_dotsDown_24 : decode cX7_dotsDown 24 = .ok (.getfield 15, 3) := by decide +kernel
theorem dX7_dotsDown_27 : decode cX7_dotsDown 27 = .ok (.iconst 3, 1) := by decide +kernel
theorem dX7_dotsDown_28 : decode cX7_dotsDown 28 = .ok (.iand, 1) := by decide +kernel
theorem dX7_dotsDown_29 : decode cX7_dotsDown 29 = .ok (.iaload, 1) := by decide +kernel
theorem dX7_dotsDown_30 : decode cX7_dotsDown 30 = .ok (.ireturn, 1) := by decide +kernel

set_option maxRecDepth 100000 in
set_option maxHeartbeats 4000000 in
theorem c_down0 (S : Hp) (t : Nat) (m_t : t ∈ hL S) (k_t : Kd S t 7) (hI_700_t : hI S 700 t = 0) (hI_701_t : hI S 701 t = 0) : Ct 1 yX7_dotsDown cX7_dotsDown 1 (some .int) 0 0 [.ref t] S (fun r S' => r = some (.int 240) ∧ S' = S) := by
  refine ct_of (by decide) (Nat.le_of_ble_eq_true rfl) fun x hn9 C M hm9 => ?_
  have C : CB x RX7 cX7_dotsDown := C
  refine J.eq (lv' := [(0, .ref t)]) rfl rfl rfl ?_
  refine j_aload_n C dX7_dotsDown_0 rfl 0 rfl ?_
  refine j_geti (f := 701) (v := 0) C flX7_19 dX7_dotsDown_1 m_t k_t (by decide) (by decide) rfl hI_701_t ?_
  refine j_if_ne (tgt := 20) C dX7_dotsDown_4 (by decide) (fun c9 => absurd c9 (by decide)) (fun c9 => ?_)
  refine j_gets C 1 rfl (Or.inr ⟨_, gsX7_78⟩) dX7_dotsDown_7 ?_
  refine j_aload_n C dX7_dotsDown_10 rfl 0 rfl ?_
  refine j_geti (f := 700) (v := 0) C flX7_15 dX7_dotsDown_11 m_t k_t (by decide) (by decide) rfl hI_700_t ?_
  refine j_iconst (v := 3) C dX7_dotsDown_14 (by decide) ?_
  refine j_iand (v := 0) C dX7_dotsDown_15 (by decide) ?_
  show J _ _ _ _ _ 16 _
  refine j_stld (v := 240) C 1 rfl dX7_dotsDown_16 (vp_lit (by decide)) (by decide) ?_
  refine j_goto (tgt := 30) C dX7_dotsDown_17 (by decide) ?_
  exact j_iret C M dX7_dotsDown_30 (by decide) (by decide) ⟨rfl, rfl⟩

set_option maxRecDepth 100000 in
set_option maxHeartbeats 4000000 in
theorem c_across1 (S : Hp) (t : Nat) (m_t : t ∈ hL S) (k_t : Kd S t 7) (hI_700_t : hI S 700 t = 1) (hI_701_t : hI S 701 t = 0) : Ct 1 yX7_dotsAcross cX7_dotsAcross 1 (some .int) 0 0 [.ref t] S (fun r S' => r = some (.int 320) ∧ S' = S) := by
  refine ct_of (by decide) (Nat.le_of_ble_eq_true rfl) fun x hn9 C M hm9 => ?_
  have C : CB x RX7 cX7_dotsAcross := C
  refine J.eq (lv' := [(0, .ref t)]) rfl rfl rfl ?_
  refine j_aload_n C dX7_dotsAcross_0 rfl 0 rfl ?_
  refine j_geti (f := 701) (v := 0) C flX7_19 dX7_dotsAcross_1 m_t k_t (by decide) (by decide) rfl hI_701_t ?_
  refine j_if_ne (tgt := 20) C dX7_dotsAcross_4 (by decide) (fun c9 => absurd c9 (by decide)) (fun c9 => ?_)
  refine j_gets C 0 rfl (Or.inr ⟨_, gsX7_75⟩) dX7_dotsAcross_7 ?_
  refine j_aload_n C dX7_dotsAcross_10 rfl 0 rfl ?_
  refine j_geti (f := 700) (v := 1) C flX7_15 dX7_dotsAcross_11 m_t k_t (by decide) (by decide) rfl hI_700_t ?_
  refine j_iconst (v := 3) C dX7_dotsAcross_14 (by decide) ?_
  refine j_iand (v := 1) C dX7_dotsAcross_15 (by decide) ?_
  show J _ _ _ _ _ 16 _
  refine j_stld (v := 320) C 0 rfl dX7_dotsAcross_16 (vp_lit (by decide)) (by decide) ?_
  refine j_goto (tgt := 30) C dX7_dotsAcross_17 (by decide) ?_
  exact j_iret C M dX7_dotsAcross_30 (by decide) (by decide) ⟨rfl, rfl⟩

set_option maxRecDepth 100000 in
set_option maxHeartbeats 4000000 in
theorem c_down1 (S : Hp) (t : Nat) (m_t : t ∈ hL S) (k_t : Kd S t 7) (hI_700_t : hI S 700 t = 1) (hI_701_t : hI S 701 t = 0) : Ct 1 yX7_dotsDown cX7_dotsDown 1 (some .int) 0 0 [.ref t] S (fun r S' => r = some (.int 400) ∧ S' = S) := by
  refine ct_of (by decide) (Nat.le_of_ble_eq_true rfl) fun x hn9 C M hm9 => ?_
  have C : CB x RX7 cX7_dotsDown := C
  refine J.eq (lv' := [(0, .ref t)]) rfl rfl rfl ?_
  refine j_aload_n C dX7_dotsDown_0 rfl 0 rfl ?_
  refine j_geti (f := 701) (v := 0) C flX7_19 dX7_dotsDown_1 m_t k_t (by decide) (by decide) rfl hI_701_t ?_
  refine j_if_ne (tgt := 20) C dX7_dotsDown_4 (by decide) (fun c9 => absurd c9 (by decide)) (fun c9 => ?_)
  refine j_gets C 1 rfl (Or.inr ⟨_, gsX7_78⟩) dX7_dotsDown_7 ?_
  refine j_aload_n C dX7_dotsDown_10 rfl 0 rfl ?_
  refine j_geti (f := 700) (v := 1) C flX7_15 dX7_dotsDown_11 m_t k_t (by decide) (by decide) rfl hI_700_t ?_
  refine j_iconst (v := 3) C dX7_dotsDown_14 (by decide) ?_
  refine j_iand (v := 1) C dX7_dotsDown_15 (by decide) ?_
  show J _ _ _ _ _ 16 _
  refine j_stld (v := 400) C 1 rfl dX7_dotsDown_16 (vp_lit (by decide)) (by decide) ?_
  refine j_goto (tgt := 30) C dX7_dotsDown_17 (by decide) ?_
  exact j_iret C M dX7_dotsDown_30 (by decide) (by decide) ⟨rfl, rfl⟩

theorem dX7_across_0 : decode cX7_across 0 = .ok (.bipush 96, 2) := by decide +kernel
theorem dX7_across_2 : decode cX7_across 2 = .ok (.aload_n 0, 1) := by decide +kernel
theorem dX7_across_3 : decode cX7_across 3 = .ok (.invokevirtual 81, 3) := by decide +kernel
theorem dX7_across_6 : decode cX7_across 6 = .ok (.imul, 1) := by decide +kernel
theorem dX7_across_7 : decode cX7_across 7 = .ok (.ireturn, 1) := by decide +kernel

set_option maxRecDepth 100000 in
set_option maxHeartbeats 4000000 in
theorem c_acr0 (S : Hp) (t : Nat) (m_t : t ∈ hL S) (k_t : Kd S t 7) (hI_700_t : hI S 700 t = 0) (hI_701_t : hI S 701 t = 0) : Ct 2 yX7_across cX7_across 1 (some .int) 0 0 [.ref t] S (fun r S' => r = some (.int 19200) ∧ S' = S) := by
  refine ct_of (by decide) (Nat.le_of_ble_eq_true rfl) fun x hn9 C M hm9 => ?_
  have C : CB x RX7 cX7_across := C
  refine J.eq (lv' := [(0, .ref t)]) rfl rfl rfl ?_
  refine j_bipush (v := 96) C dX7_across_0 (by decide) ?_
  refine j_aload_n C dX7_across_2 rfl 0 rfl ?_
  refine j_callV (ci := 7) C [] [.int 96] mlX7_81 mcX7_dotsAcross (c_across0 S t m_t k_t hI_700_t hI_701_t) m_t k_t rfl (M.rm (by decide) (by decide) (Nat.le_of_ble_eq_true rfl) (Nat.le_of_ble_eq_true rfl)) rfl rfl (Nat.le_of_ble_eq_true rfl) dX7_across_3 (fun r_1 S_2 hp_3 => ?_)
  obtain ⟨rfl, e_4⟩ := hp_3
  refine J.eq (S' := S) (st' := [.int 200, .int 96]) (lv' := [(0, .ref t)]) e_4 rfl rfl ?_
  refine j_imul (v := 19200) C dX7_across_6 (by decide) ?_
  exact j_iret C M dX7_across_7 (Nat.le_of_ble_eq_true rfl) (Nat.le_of_ble_eq_true rfl) ⟨rfl, rfl⟩

theorem dX7_down_0 : decode cX7_down 0 = .ok (.bipush 96, 2) := by decide +kernel
theorem dX7_down_2 : decode cX7_down 2 = .ok (.aload_n 0, 1) := by decide +kernel
theorem dX7_down_3 : decode cX7_down 3 = .ok (.invokevirtual 84, 3) := by decide +kernel
theorem dX7_down_6 : decode cX7_down 6 = .ok (.imul, 1) := by decide +kernel
theorem dX7_down_7 : decode cX7_down 7 = .ok (.ireturn, 1) := by decide +kernel

set_option maxRecDepth 100000 in
set_option maxHeartbeats 4000000 in
theorem c_dow0 (S : Hp) (t : Nat) (m_t : t ∈ hL S) (k_t : Kd S t 7) (hI_700_t : hI S 700 t = 0) (hI_701_t : hI S 701 t = 0) : Ct 2 yX7_down cX7_down 1 (some .int) 0 0 [.ref t] S (fun r S' => r = some (.int 23040) ∧ S' = S) := by
  refine ct_of (by decide) (Nat.le_of_ble_eq_true rfl) fun x hn9 C M hm9 => ?_
  have C : CB x RX7 cX7_down := C
  refine J.eq (lv' := [(0, .ref t)]) rfl rfl rfl ?_
  refine j_bipush (v := 96) C dX7_down_0 (by decide) ?_
  refine j_aload_n C dX7_down_2 rfl 0 rfl ?_
  refine j_callV (ci := 7) C [] [.int 96] mlX7_84 mcX7_dotsDown (c_down0 S t m_t k_t hI_700_t hI_701_t) m_t k_t rfl (M.rm (by decide) (by decide) (Nat.le_of_ble_eq_true rfl) (Nat.le_of_ble_eq_true rfl)) rfl rfl (Nat.le_of_ble_eq_true rfl) dX7_down_3 (fun r_1 S_2 hp_3 => ?_)
  obtain ⟨rfl, e_4⟩ := hp_3
  refine J.eq (S' := S) (st' := [.int 240, .int 96]) (lv' := [(0, .ref t)]) e_4 rfl rfl ?_
  refine j_imul (v := 23040) C dX7_down_6 (by decide) ?_
  exact j_iret C M dX7_down_7 (Nat.le_of_ble_eq_true rfl) (Nat.le_of_ble_eq_true rfl) ⟨rfl, rfl⟩

theorem dX7_moveX_0 : decode cX7_moveX 0 = .ok (.aload_n 0, 1) := by decide +kernel
theorem dX7_moveX_1 : decode cX7_moveX 1 = .ok (.lconst 0, 1) := by decide +kernel
theorem dX7_moveX_2 : decode cX7_moveX 2 = .ok (.lload_n 1, 1) := by decide +kernel
theorem dX7_moveX_3 : decode cX7_moveX 3 = .ok (.bipush 96, 2) := by decide +kernel
theorem dX7_moveX_5 : decode cX7_moveX 5 = .ok (.aload_n 0, 1) := by decide +kernel
theorem dX7_moveX_6 : decode cX7_moveX 6 = .ok (.invokevirtual 81, 3) := by decide +kernel
theorem dX7_moveX_9 : decode cX7_moveX 9 = .ok (.imul, 1) := by decide +kernel
theorem dX7_moveX_10 : decode cX7_moveX 10 = .ok (.i2l, 1) := by decide +kernel
theorem dX7_moveX_11 : decode cX7_moveX 11 = .ok (.invokestatic 90, 3) := by decide +kernel
theorem dX7_moveX_14 : decode cX7_moveX 14 = .ok (.invokestatic 96, 3) := by decide +kernel
theorem dX7_moveX_17 : decode cX7_moveX 17 = .ok (.l2i, 1) := by decide +kernel
theorem dX7_moveX_18 : decode cX7_moveX 18 = .ok (.putfield 34, 3) := by decide +kernel
theorem dX7_moveX_21 : decode cX7_moveX 21 = .ok (.return_, 1) := by decide +kernel

set_option maxRecDepth 100000 in
set_option maxHeartbeats 4000000 in
theorem c_mvX0 (S : Hp) (t : Nat) (m_t : t ∈ hL S) (k_t : Kd S t 7) (hI_700_t : hI S 700 t = 0) (hI_701_t : hI S 701 t = 0) (p : Nat) (hp : p ≤ 19200) : Ct 2 yX7_moveX cX7_moveX 3 none 0 0 [.ref t, .long (lN p)] S (fun r S' => r = none ∧ S' = (sI S 706 t (nI p))) := by
  refine ct_of (by decide) (Nat.le_of_ble_eq_true rfl) fun x hn9 C M hm9 => ?_
  have C : CB x RX7 cX7_moveX := C
  refine J.eq (lv' := [(0, .ref t), (1, .long (lN p))]) rfl rfl rfl ?_
  refine j_aload_n C dX7_moveX_0 rfl 0 rfl ?_
  refine j_lconst (v := 0) C dX7_moveX_1 (by decide) ?_
  refine j_lload_n C dX7_moveX_2 rfl 1 rfl ?_
  refine j_bipush (v := 96) C dX7_moveX_3 (by decide) ?_
  refine j_aload_n C dX7_moveX_5 rfl 0 rfl ?_
  refine j_callV (ci := 7) C [] [.int 96, .long (lN p), .long 0, .ref t] mlX7_81 mcX7_dotsAcross (c_across0 S t m_t k_t hI_700_t hI_701_t) m_t k_t rfl (M.rm (by decide) (by decide) (Nat.le_of_ble_eq_true rfl) (Nat.le_of_ble_eq_true rfl)) rfl rfl (Nat.le_of_ble_eq_true rfl) dX7_moveX_6 (fun r_1 S_2 hp_3 => ?_)
  obtain ⟨rfl, e_4⟩ := hp_3
  refine J.eq (S' := S) (st' := [.int 200, .int 96, .long (lN p), .long 0, .ref t]) (lv' := [(0, .ref t), (1, .long (lN p))]) e_4 rfl rfl ?_
  refine j_imul (v := 19200) C dX7_moveX_9 (by decide) ?_
  refine j_i2l (v := 19200) C dX7_moveX_10 (by decide) ?_
  show J _ _ _ _ _ 11 _
  refine j_callS C [.long (lN p), .long 19200] [.long 0, .ref t] mlX7_90 mcJ9_min_f86c9 (c_minl_1 S p 19200 (by omega) (by omega) (by omega)) (M.rm (by decide) (by decide) (Nat.le_of_ble_eq_true rfl) (Nat.le_of_ble_eq_true rfl)) rfl rfl (Nat.le_of_ble_eq_true rfl) dX7_moveX_11 (fun r_5 S_6 hp_7 => ?_)
  obtain ⟨rfl, e_8⟩ := hp_7
  refine J.eq (S' := S) (st' := [.long (lN p), .long 0, .ref t]) (lv' := [(0, .ref t), (1, .long (lN p))]) e_8 rfl rfl ?_
  refine j_callS C [.long 0, .long (lN p)] [.ref t] mlX7_96 mcJ9_max_f86c9 (c_maxl0 S p (by omega)) (M.rm (by decide) (by decide) (Nat.le_of_ble_eq_true rfl) (Nat.le_of_ble_eq_true rfl)) rfl rfl (Nat.le_of_ble_eq_true rfl) dX7_moveX_14 (fun r_9 S_10 hp_11 => ?_)
  obtain ⟨rfl, e_12⟩ := hp_11
  refine J.eq (S' := S) (st' := [.long (lN p), .ref t]) (lv' := [(0, .ref t), (1, .long (lN p))]) e_12 rfl rfl ?_
  refine j_l2i (v := nI p) C dX7_moveX_17 (lN_i p) ?_
  refine j_puti (f := 706) C flX7_34 (by decide) rfl rfl dX7_moveX_18 m_t k_t rfl ?_
  exact j_vret C M dX7_moveX_21 (Nat.le_of_ble_eq_true rfl) (Nat.le_of_ble_eq_true rfl) ⟨rfl, rfl⟩

theorem dX7_moveY_0 : decode cX7_moveY 0 = .ok (.aload_n 0, 1) := by decide +kernel
theorem dX7_moveY_1 : decode cX7_moveY 1 = .ok (.lconst 0, 1) := by decide +kernel
theorem dX7_moveY_2 : decode cX7_moveY 2 = .ok (.lload_n 1, 1) := by decide +kernel
theorem dX7_moveY_3 : decode cX7_moveY 3 = .ok (.bipush 96, 2) := by decide +kernel
theorem dX7_moveY_5 : decode cX7_moveY 5 = .ok (.aload_n 0, 1) := by decide +kernel
theorem dX7_moveY_6 : decode cX7_moveY 6 = .ok (.invokevirtual 84, 3) := by decide +kernel
theorem dX7_moveY_9 : decode cX7_moveY 9 = .ok (.imul, 1) := by decide +kernel
theorem dX7_moveY_10 : decode cX7_moveY 10 = .ok (.i2l, 1) := by decide +kernel
theorem dX7_moveY_11 : decode cX7_moveY 11 = .ok (.invokestatic 90, 3) := by decide +kernel
theorem dX7_moveY_14 : decode cX7_moveY 14 = .ok (.invokestatic 96, 3) := by decide +kernel
theorem dX7_moveY_17 : decode cX7_moveY 17 = .ok (.l2i, 1) := by decide +kernel
theorem dX7_moveY_18 : decode cX7_moveY 18 = .ok (.putfield 37, 3) := by decide +kernel
theorem dX7_moveY_21 : decode cX7_moveY 21 = .ok (.return_, 1) := by decide +kernel

set_option maxRecDepth 100000 in
set_option maxHeartbeats 4000000 in
theorem c_mvY0 (S : Hp) (t : Nat) (m_t : t ∈ hL S) (k_t : Kd S t 7) (hI_700_t : hI S 700 t = 0) (hI_701_t : hI S 701 t = 0) (p : Nat) (hp : p ≤ 23040) : Ct 2 yX7_moveY cX7_moveY 3 none 0 0 [.ref t, .long (lN p)] S (fun r S' => r = none ∧ S' = (sI S 707 t (nI p))) := by
  refine ct_of (by decide) (Nat.le_of_ble_eq_true rfl) fun x hn9 C M hm9 => ?_
  have C : CB x RX7 cX7_moveY := C
  refine J.eq (lv' := [(0, .ref t), (1, .long (lN p))]) rfl rfl rfl ?_
  refine j_aload_n C dX7_moveY_0 rfl 0 rfl ?_
  refine j_lconst (v := 0) C dX7_moveY_1 (by decide) ?_
  refine j_lload_n C dX7_moveY_2 rfl 1 rfl ?_
  refine j_bipush (v := 96) C dX7_moveY_3 (by decide) ?_
  refine j_aload_n C dX7_moveY_5 rfl 0 rfl ?_
  refine j_callV (ci := 7) C [] [.int 96, .long (lN p), .long 0, .ref t] mlX7_84 mcX7_dotsDown (c_down0 S t m_t k_t hI_700_t hI_701_t) m_t k_t rfl (M.rm (by decide) (by decide) (Nat.le_of_ble_eq_true rfl) (Nat.le_of_ble_eq_true rfl)) rfl rfl (Nat.le_of_ble_eq_true rfl) dX7_moveY_6 (fun r_1 S_2 hp_3 => ?_)
  obtain ⟨rfl, e_4⟩ := hp_3
  refine J.eq (S' := S) (st' := [.int 240, .int 96, .long (lN p), .long 0, .ref t]) (lv' := [(0, .ref t), (1, .long (lN p))]) e_4 rfl rfl ?_
  refine j_imul (v := 23040) C dX7_moveY_9 (by decide) ?_
  refine j_i2l (v := 23040) C dX7_moveY_10 (by decide) ?_
  show J _ _ _ _ _ 11 _
  refine j_callS C [.long (lN p), .long 23040] [.long 0, .ref t] mlX7_90 mcJ9_min_f86c9 (c_minl_1 S p 23040 (by omega) (by omega) (by omega)) (M.rm (by decide) (by decide) (Nat.le_of_ble_eq_true rfl) (Nat.le_of_ble_eq_true rfl)) rfl rfl (Nat.le_of_ble_eq_true rfl) dX7_moveY_11 (fun r_5 S_6 hp_7 => ?_)
  obtain ⟨rfl, e_8⟩ := hp_7
  refine J.eq (S' := S) (st' := [.long (lN p), .long 0, .ref t]) (lv' := [(0, .ref t), (1, .long (lN p))]) e_8 rfl rfl ?_
  refine j_callS C [.long 0, .long (lN p)] [.ref t] mlX7_96 mcJ9_max_f86c9 (c_maxl0 S p (by omega)) (M.rm (by decide) (by decide) (Nat.le_of_ble_eq_true rfl) (Nat.le_of_ble_eq_true rfl)) rfl rfl (Nat.le_of_ble_eq_true rfl) dX7_moveY_14 (fun r_9 S_10 hp_11 => ?_)
  obtain ⟨rfl, e_12⟩ := hp_11
  refine J.eq (S' := S) (st' := [.long (lN p), .ref t]) (lv' := [(0, .ref t), (1, .long (lN p))]) e_12 rfl rfl ?_
  refine j_l2i (v := nI p) C dX7_moveY_17 (lN_i p) ?_
  refine j_puti (f := 707) C flX7_37 (by decide) rfl rfl dX7_moveY_18 m_t k_t rfl ?_
  exact j_vret C M dX7_moveY_21 (Nat.le_of_ble_eq_true rfl) (Nat.le_of_ble_eq_true rfl) ⟨rfl, rfl⟩

set_option maxRecDepth 100000 in
set_option maxHeartbeats 4000000 in
theorem c_acr1 (S : Hp) (t : Nat) (m_t : t ∈ hL S) (k_t : Kd S t 7) (hI_700_t : hI S 700 t = 1) (hI_701_t : hI S 701 t = 0) : Ct 2 yX7_across cX7_across 1 (some .int) 0 0 [.ref t] S (fun r S' => r = some (.int 30720) ∧ S' = S) := by
  refine ct_of (by decide) (Nat.le_of_ble_eq_true rfl) fun x hn9 C M hm9 => ?_
  have C : CB x RX7 cX7_across := C
  refine J.eq (lv' := [(0, .ref t)]) rfl rfl rfl ?_
  refine j_bipush (v := 96) C dX7_across_0 (by decide) ?_
  refine j_aload_n C dX7_across_2 rfl 0 rfl ?_
  refine j_callV (ci := 7) C [] [.int 96] mlX7_81 mcX7_dotsAcross (c_across1 S t m_t k_t hI_700_t hI_701_t) m_t k_t rfl (M.rm (by decide) (by decide) (Nat.le_of_ble_eq_true rfl) (Nat.le_of_ble_eq_true rfl)) rfl rfl (Nat.le_of_ble_eq_true rfl) dX7_across_3 (fun r_1 S_2 hp_3 => ?_)
  obtain ⟨rfl, e_4⟩ := hp_3
  refine J.eq (S' := S) (st' := [.int 320, .int 96]) (lv' := [(0, .ref t)]) e_4 rfl rfl ?_
  refine j_imul (v := 30720) C dX7_across_6 (by decide) ?_
  exact j_iret C M dX7_across_7 (Nat.le_of_ble_eq_true rfl) (Nat.le_of_ble_eq_true rfl) ⟨rfl, rfl⟩

set_option maxRecDepth 100000 in
set_option maxHeartbeats 4000000 in
theorem c_dow1 (S : Hp) (t : Nat) (m_t : t ∈ hL S) (k_t : Kd S t 7) (hI_700_t : hI S 700 t = 1) (hI_701_t : hI S 701 t = 0) : Ct 2 yX7_down cX7_down 1 (some .int) 0 0 [.ref t] S (fun r S' => r = some (.int 38400) ∧ S' = S) := by
  refine ct_of (by decide) (Nat.le_of_ble_eq_true rfl) fun x hn9 C M hm9 => ?_
  have C : CB x RX7 cX7_down := C
  refine J.eq (lv' := [(0, .ref t)]) rfl rfl rfl ?_
  refine j_bipush (v := 96) C dX7_down_0 (by decide) ?_
  refine j_aload_n C dX7_down_2 rfl 0 rfl ?_
  refine j_callV (ci := 7) C [] [.int 96] mlX7_84 mcX7_dotsDown (c_down1 S t m_t k_t hI_700_t hI_701_t) m_t k_t rfl (M.rm (by decide) (by decide) (Nat.le_of_ble_eq_true rfl) (Nat.le_of_ble_eq_true rfl)) rfl rfl (Nat.le_of_ble_eq_true rfl) dX7_down_3 (fun r_1 S_2 hp_3 => ?_)
  obtain ⟨rfl, e_4⟩ := hp_3
  refine J.eq (S' := S) (st' := [.int 400, .int 96]) (lv' := [(0, .ref t)]) e_4 rfl rfl ?_
  refine j_imul (v := 38400) C dX7_down_6 (by decide) ?_
  exact j_iret C M dX7_down_7 (Nat.le_of_ble_eq_true rfl) (Nat.le_of_ble_eq_true rfl) ⟨rfl, rfl⟩

set_option maxRecDepth 100000 in
set_option maxHeartbeats 4000000 in
theorem c_mvX1 (S : Hp) (t : Nat) (m_t : t ∈ hL S) (k_t : Kd S t 7) (hI_700_t : hI S 700 t = 1) (hI_701_t : hI S 701 t = 0) (p : Nat) (hp : p ≤ 30720) : Ct 2 yX7_moveX cX7_moveX 3 none 0 0 [.ref t, .long (lN p)] S (fun r S' => r = none ∧ S' = (sI S 706 t (nI p))) := by
  refine ct_of (by decide) (Nat.le_of_ble_eq_true rfl) fun x hn9 C M hm9 => ?_
  have C : CB x RX7 cX7_moveX := C
  refine J.eq (lv' := [(0, .ref t), (1, .long (lN p))]) rfl rfl rfl ?_
  refine j_aload_n C dX7_moveX_0 rfl 0 rfl ?_
  refine j_lconst (v := 0) C dX7_moveX_1 (by decide) ?_
  refine j_lload_n C dX7_moveX_2 rfl 1 rfl ?_
  refine j_bipush (v := 96) C dX7_moveX_3 (by decide) ?_
  refine j_aload_n C dX7_moveX_5 rfl 0 rfl ?_
  refine j_callV (ci := 7) C [] [.int 96, .long (lN p), .long 0, .ref t] mlX7_81 mcX7_dotsAcross (c_across1 S t m_t k_t hI_700_t hI_701_t) m_t k_t rfl (M.rm (by decide) (by decide) (Nat.le_of_ble_eq_true rfl) (Nat.le_of_ble_eq_true rfl)) rfl rfl (Nat.le_of_ble_eq_true rfl) dX7_moveX_6 (fun r_1 S_2 hp_3 => ?_)
  obtain ⟨rfl, e_4⟩ := hp_3
  refine J.eq (S' := S) (st' := [.int 320, .int 96, .long (lN p), .long 0, .ref t]) (lv' := [(0, .ref t), (1, .long (lN p))]) e_4 rfl rfl ?_
  refine j_imul (v := 30720) C dX7_moveX_9 (by decide) ?_
  refine j_i2l (v := 30720) C dX7_moveX_10 (by decide) ?_
  show J _ _ _ _ _ 11 _
  refine j_callS C [.long (lN p), .long 30720] [.long 0, .ref t] mlX7_90 mcJ9_min_f86c9 (c_minl_1 S p 30720 (by omega) (by omega) (by omega)) (M.rm (by decide) (by decide) (Nat.le_of_ble_eq_true rfl) (Nat.le_of_ble_eq_true rfl)) rfl rfl (Nat.le_of_ble_eq_true rfl) dX7_moveX_11 (fun r_5 S_6 hp_7 => ?_)
  obtain ⟨rfl, e_8⟩ := hp_7
  refine J.eq (S' := S) (st' := [.long (lN p), .long 0, .ref t]) (lv' := [(0, .ref t), (1, .long (lN p))]) e_8 rfl rfl ?_
  refine j_callS C [.long 0, .long (lN p)] [.ref t] mlX7_96 mcJ9_max_f86c9 (c_maxl0 S p (by omega)) (M.rm (by decide) (by decide) (Nat.le_of_ble_eq_true rfl) (Nat.le_of_ble_eq_true rfl)) rfl rfl (Nat.le_of_ble_eq_true rfl) dX7_moveX_14 (fun r_9 S_10 hp_11 => ?_)
  obtain ⟨rfl, e_12⟩ := hp_11
  refine J.eq (S' := S) (st' := [.long (lN p), .ref t]) (lv' := [(0, .ref t), (1, .long (lN p))]) e_12 rfl rfl ?_
  refine j_l2i (v := nI p) C dX7_moveX_17 (lN_i p) ?_
  refine j_puti (f := 706) C flX7_34 (by decide) rfl rfl dX7_moveX_18 m_t k_t rfl ?_
  exact j_vret C M dX7_moveX_21 (Nat.le_of_ble_eq_true rfl) (Nat.le_of_ble_eq_true rfl) ⟨rfl, rfl⟩

set_option maxRecDepth 100000 in
set_option maxHeartbeats 4000000 in
theorem c_mvY1 (S : Hp) (t : Nat) (m_t : t ∈ hL S) (k_t : Kd S t 7) (hI_700_t : hI S 700 t = 1) (hI_701_t : hI S 701 t = 0) (p : Nat) (hp : p ≤ 38400) : Ct 2 yX7_moveY cX7_moveY 3 none 0 0 [.ref t, .long (lN p)] S (fun r S' => r = none ∧ S' = (sI S 707 t (nI p))) := by
  refine ct_of (by decide) (Nat.le_of_ble_eq_true rfl) fun x hn9 C M hm9 => ?_
  have C : CB x RX7 cX7_moveY := C
  refine J.eq (lv' := [(0, .ref t), (1, .long (lN p))]) rfl rfl rfl ?_
  refine j_aload_n C dX7_moveY_0 rfl 0 rfl ?_
  refine j_lconst (v := 0) C dX7_moveY_1 (by decide) ?_
  refine j_lload_n C dX7_moveY_2 rfl 1 rfl ?_
  refine j_bipush (v := 96) C dX7_moveY_3 (by decide) ?_
  refine j_aload_n C dX7_moveY_5 rfl 0 rfl ?_
  refine j_callV (ci := 7) C [] [.int 96, .long (lN p), .long 0, .ref t] mlX7_84 mcX7_dotsDown (c_down1 S t m_t k_t hI_700_t hI_701_t) m_t k_t rfl (M.rm (by decide) (by decide) (Nat.le_of_ble_eq_true rfl) (Nat.le_of_ble_eq_true rfl)) rfl rfl (Nat.le_of_ble_eq_true rfl) dX7_moveY_6 (fun r_1 S_2 hp_3 => ?_)
  obtain ⟨rfl, e_4⟩ := hp_3
  refine J.eq (S' := S) (st' := [.int 400, .int 96, .long (lN p), .long 0, .ref t]) (lv' := [(0, .ref t), (1, .long (lN p))]) e_4 rfl rfl ?_
  refine j_imul (v := 38400) C dX7_moveY_9 (by decide) ?_
  refine j_i2l (v := 38400) C dX7_moveY_10 (by decide) ?_
  show J _ _ _ _ _ 11 _
  refine j_callS C [.long (lN p), .long 38400] [.long 0, .ref t] mlX7_90 mcJ9_min_f86c9 (c_minl_1 S p 38400 (by omega) (by omega) (by omega)) (M.rm (by decide) (by decide) (Nat.le_of_ble_eq_true rfl) (Nat.le_of_ble_eq_true rfl)) rfl rfl (Nat.le_of_ble_eq_true rfl) dX7_moveY_11 (fun r_5 S_6 hp_7 => ?_)
  obtain ⟨rfl, e_8⟩ := hp_7
  refine J.eq (S' := S) (st' := [.long (lN p), .long 0, .ref t]) (lv' := [(0, .ref t), (1, .long (lN p))]) e_8 rfl rfl ?_
  refine j_callS C [.long 0, .long (lN p)] [.ref t] mlX7_96 mcJ9_max_f86c9 (c_maxl0 S p (by omega)) (M.rm (by decide) (by decide) (Nat.le_of_ble_eq_true rfl) (Nat.le_of_ble_eq_true rfl)) rfl rfl (Nat.le_of_ble_eq_true rfl) dX7_moveY_14 (fun r_9 S_10 hp_11 => ?_)
  obtain ⟨rfl, e_12⟩ := hp_11
  refine J.eq (S' := S) (st' := [.long (lN p), .ref t]) (lv' := [(0, .ref t), (1, .long (lN p))]) e_12 rfl rfl ?_
  refine j_l2i (v := nI p) C dX7_moveY_17 (lN_i p) ?_
  refine j_puti (f := 707) C flX7_37 (by decide) rfl rfl dX7_moveY_18 m_t k_t rfl ?_
  exact j_vret C M dX7_moveY_21 (Nat.le_of_ble_eq_true rfl) (Nat.le_of_ble_eq_true rfl) ⟨rfl, rfl⟩

theorem dX7_clearMargins_0 : decode cX7_clearMargins 0 = .ok (.aload_n 0, 1) := by decide +kernel
theorem dX7_clearMargins_1 : decode cX7_clearMargins 1 = .ok (.iconst 0, 1) := by decide +kernel
theorem dX7_clearMargins_2 : decode cX7_clearMargins 2 = .ok (.putfield 22, 3) := by decide +kernel
theorem dX7_clearMargins_5 : decode cX7_clearMargins 5 = .ok (.aload_n 0, 1) := by decide +kernel
theorem dX7_clearMargins_6 : decode cX7_clearMargins 6 = .ok (.aload_n 0, 1) := by decide +kernel
theorem dX7_clearMargins_7 : decode cX7_clearMargins 7 = .ok (.invokevirtual 72, 3) := by decide +kernel
theorem dX7_clearMargins_10 : decode cX7_clearMargins 10 = .ok (.putfield 25, 3) := by decide +kernel
theorem dX7_clearMargins_13 : decode cX7_clearMargins 13 = .ok (.return_, 1) := by decide +kernel

set_option maxRecDepth 100000 in
set_option maxHeartbeats 4000000 in
theorem c_clm0 (S : Hp) (t : Nat) (m_t : t ∈ hL S) (k_t : Kd S t 7) (hI_700_t : hI S 700 t = 0) (hI_701_t : hI S 701 t = 0) : Ct 3 yX7_clearMargins cX7_clearMargins 1 none 0 0 [.ref t] S (fun r S' => r = none ∧ S' = (sI (sI S 702 t 0) 703 t 19200)) := by
  refine ct_of (by decide) (Nat.le_of_ble_eq_true rfl) fun x hn9 C M hm9 => ?_
  have C : CB x RX7 cX7_clearMargins := C
  refine J.eq (lv' := [(0, .ref t)]) rfl rfl rfl ?_
  refine j_aload_n C dX7_clearMargins_0 rfl 0 rfl ?_
  refine j_iconst (v := 0) C dX7_clearMargins_1 (by decide) ?_
  refine j_puti (f := 702) C flX7_22 (by decide) rfl rfl dX7_clearMargins_2 m_t k_t rfl ?_
  refine j_aload_n C dX7_clearMargins_5 rfl 0 rfl ?_
  refine j_aload_n C dX7_clearMargins_6 rfl 0 rfl ?_
  refine j_callV (ci := 7) C [] [.ref t] mlX7_72 mcX7_across (c_acr0 (sI S 702 t 0) t m_t k_t (rd_sIf (S := S) (g := 702) (a := t) (v := 0) (by decide) hI_700_t) (rd_sIf (S := S) (g := 702) (a := t) (v := 0) (by decide) hI_701_t)) m_t k_t rfl (M.rm (by decide) (by decide) (Nat.le_of_ble_eq_true rfl) (Nat.le_of_ble_eq_true rfl)) rfl rfl (Nat.le_of_ble_eq_true rfl) dX7_clearMargins_7 (fun r_1 S_2 hp_3 => ?_)
  obtain ⟨rfl, e_4⟩ := hp_3
  refine J.eq (S' := (sI S 702 t 0)) (st' := [.int 19200, .ref t]) (lv' := [(0, .ref t)]) e_4 rfl rfl ?_
  refine j_puti (f := 703) C flX7_25 (by decide) rfl rfl dX7_clearMargins_10 m_t k_t rfl ?_
  exact j_vret C M dX7_clearMargins_13 (Nat.le_of_ble_eq_true rfl) (Nat.le_of_ble_eq_true rfl) ⟨rfl, rfl⟩

set_option maxRecDepth 100000 in
set_option maxHeartbeats 4000000 in
theorem c_clm1 (S : Hp) (t : Nat) (m_t : t ∈ hL S) (k_t : Kd S t 7) (hI_700_t : hI S 700 t = 1) (hI_701_t : hI S 701 t = 0) : Ct 3 yX7_clearMargins cX7_clearMargins 1 none 0 0 [.ref t] S (fun r S' => r = none ∧ S' = (sI (sI S 702 t 0) 703 t 30720)) := by
  refine ct_of (by decide) (Nat.le_of_ble_eq_true rfl) fun x hn9 C M hm9 => ?_
  have C : CB x RX7 cX7_clearMargins := C
  refine J.eq (lv' := [(0, .ref t)]) rfl rfl rfl ?_
  refine j_aload_n C dX7_clearMargins_0 rfl 0 rfl ?_
  refine j_iconst (v := 0) C dX7_clearMargins_1 (by decide) ?_
  refine j_puti (f := 702) C flX7_22 (by decide) rfl rfl dX7_clearMargins_2 m_t k_t rfl ?_
  refine j_aload_n C dX7_clearMargins_5 rfl 0 rfl ?_
  refine j_aload_n C dX7_clearMargins_6 rfl 0 rfl ?_
  refine j_callV (ci := 7) C [] [.ref t] mlX7_72 mcX7_across (c_acr1 (sI S 702 t 0) t m_t k_t (rd_sIf (S := S) (g := 702) (a := t) (v := 0) (by decide) hI_700_t) (rd_sIf (S := S) (g := 702) (a := t) (v := 0) (by decide) hI_701_t)) m_t k_t rfl (M.rm (by decide) (by decide) (Nat.le_of_ble_eq_true rfl) (Nat.le_of_ble_eq_true rfl)) rfl rfl (Nat.le_of_ble_eq_true rfl) dX7_clearMargins_7 (fun r_1 S_2 hp_3 => ?_)
  obtain ⟨rfl, e_4⟩ := hp_3
  refine J.eq (S' := (sI S 702 t 0)) (st' := [.int 30720, .ref t]) (lv' := [(0, .ref t)]) e_4 rfl rfl ?_
  refine j_puti (f := 703) C flX7_25 (by decide) rfl rfl dX7_clearMargins_10 m_t k_t rfl ?_
  exact j_vret C M dX7_clearMargins_13 (Nat.le_of_ble_eq_true rfl) (Nat.le_of_ble_eq_true rfl) ⟨rfl, rfl⟩

theorem dX7_homeY_0 : decode cX7_homeY 0 = .ok (.aload_n 0, 1) := by decide +kernel
theorem dX7_homeY_1 : decode cX7_homeY 1 = .ok (.aload_n 0, 1) := by decide +kernel
theorem dX7_homeY_2 : decode cX7_homeY 2 = .ok (.getfield 28, 3) := by decide +kernel
theorem dX7_homeY_5 : decode cX7_homeY 5 = .ok (.aload_n 0, 1) := by decide +kernel
theorem dX7_homeY_6 : decode cX7_homeY 6 = .ok (.getfield 40, 3) := by decide +kernel
theorem dX7_homeY_9 : decode cX7_homeY 9 = .ok (.iconst 3, 1) := by decide +kernel
theorem dX7_homeY_10 : decode cX7_homeY 10 = .ok (.imul, 1) := by decide +kernel
theorem dX7_homeY_11 : decode cX7_homeY 11 = .ok (.iconst 4, 1) := by decide +kernel
theorem dX7_homeY_12 : decode cX7_homeY 12 = .ok (.idiv, 1) := by decide +kernel
theorem dX7_homeY_13 : decode cX7_homeY 13 = .ok (.iadd, 1) := by decide +kernel
theorem dX7_homeY_14 : decode cX7_homeY 14 = .ok (.i2l, 1) := by decide +kernel
theorem dX7_homeY_15 : decode cX7_homeY 15 = .ok (.invokevirtual 87, 3) := by decide +kernel
theorem dX7_homeY_18 : decode cX7_homeY 18 = .ok (.return_, 1) := by decide +kernel

set_option maxRecDepth 100000 in
set_option maxHeartbeats 4000000 in
theorem c_home0 (S : Hp) (t : Nat) (m_t : t ∈ hL S) (k_t : Kd S t 7) (hI_700_t : hI S 700 t = 0) (hI_701_t : hI S 701 t = 0) (hI_704_t : hI S 704 t = 0) (hI_708_t : hI S 708 t = 1200) : Ct 3 yX7_homeY cX7_homeY 1 none 0 0 [.ref t] S (fun r S' => r = none ∧ S' = (sI S 707 t (nI 900))) := by
  refine ct_of (by decide) (Nat.le_of_ble_eq_true rfl) fun x hn9 C M hm9 => ?_
  have C : CB x RX7 cX7_homeY := C
  refine J.eq (lv' := [(0, .ref t)]) rfl rfl rfl ?_
  refine j_aload_n C dX7_homeY_0 rfl 0 rfl ?_
  refine j_aload_n C dX7_homeY_1 rfl 0 rfl ?_
  refine j_geti (f := 704) (v := 0) C flX7_28 dX7_homeY_2 m_t k_t (by decide) (by decide) rfl hI_704_t ?_
  refine j_aload_n C dX7_homeY_5 rfl 0 rfl ?_
  refine j_geti (f := 708) (v := 1200) C flX7_40 dX7_homeY_6 m_t k_t (by decide) (by decide) rfl hI_708_t ?_
  refine j_iconst (v := 3) C dX7_homeY_9 (by decide) ?_
  refine j_imul (v := 3600) C dX7_homeY_10 (by decide) ?_
  refine j_iconst (v := 4) C dX7_homeY_11 (by decide) ?_
  show J _ _ _ _ _ 12 _
  refine j_idiv (v := 900) C dX7_homeY_12 (by decide) (by decide) ?_
  refine j_iadd (v := 900) C dX7_homeY_13 (by decide) ?_
  refine j_i2l (v := 900) C dX7_homeY_14 (by decide) ?_
  refine j_callV (ci := 7) C [.long 900] [] mlX7_87 mcX7_moveY (c_mvY0 S t m_t k_t hI_700_t hI_701_t 900 (by omega)) m_t k_t rfl (M.rm (by decide) (by decide) (Nat.le_of_ble_eq_true rfl) (Nat.le_of_ble_eq_true rfl)) rfl rfl (Nat.le_of_ble_eq_true rfl) dX7_homeY_15 (fun r_1 S_2 hp_3 => ?_)
  obtain ⟨rfl, e_4⟩ := hp_3
  refine J.eq (S' := (sI S 707 t (nI 900))) (st' := []) (lv' := [(0, .ref t)]) e_4 rfl rfl ?_
  exact j_vret C M dX7_homeY_18 (Nat.le_of_ble_eq_true rfl) (Nat.le_of_ble_eq_true rfl) ⟨rfl, rfl⟩

set_option maxRecDepth 100000 in
set_option maxHeartbeats 4000000 in
theorem c_home1 (S : Hp) (t : Nat) (m_t : t ∈ hL S) (k_t : Kd S t 7) (hI_700_t : hI S 700 t = 1) (hI_701_t : hI S 701 t = 0) (hI_704_t : hI S 704 t = 0) (hI_708_t : hI S 708 t = 1200) : Ct 3 yX7_homeY cX7_homeY 1 none 0 0 [.ref t] S (fun r S' => r = none ∧ S' = (sI S 707 t (nI 900))) := by
  refine ct_of (by decide) (Nat.le_of_ble_eq_true rfl) fun x hn9 C M hm9 => ?_
  have C : CB x RX7 cX7_homeY := C
  refine J.eq (lv' := [(0, .ref t)]) rfl rfl rfl ?_
  refine j_aload_n C dX7_homeY_0 rfl 0 rfl ?_
  refine j_aload_n C dX7_homeY_1 rfl 0 rfl ?_
  refine j_geti (f := 704) (v := 0) C flX7_28 dX7_homeY_2 m_t k_t (by decide) (by decide) rfl hI_704_t ?_
  refine j_aload_n C dX7_homeY_5 rfl 0 rfl ?_
  refine j_geti (f := 708) (v := 1200) C flX7_40 dX7_homeY_6 m_t k_t (by decide) (by decide) rfl hI_708_t ?_
  refine j_iconst (v := 3) C dX7_homeY_9 (by decide) ?_
  refine j_imul (v := 3600) C dX7_homeY_10 (by decide) ?_
  refine j_iconst (v := 4) C dX7_homeY_11 (by decide) ?_
  show J _ _ _ _ _ 12 _
  refine j_idiv (v := 900) C dX7_homeY_12 (by decide) (by decide) ?_
  refine j_iadd (v := 900) C dX7_homeY_13 (by decide) ?_
  refine j_i2l (v := 900) C dX7_homeY_14 (by decide) ?_
  refine j_callV (ci := 7) C [.long 900] [] mlX7_87 mcX7_moveY (c_mvY1 S t m_t k_t hI_700_t hI_701_t 900 (by omega)) m_t k_t rfl (M.rm (by decide) (by decide) (Nat.le_of_ble_eq_true rfl) (Nat.le_of_ble_eq_true rfl)) rfl rfl (Nat.le_of_ble_eq_true rfl) dX7_homeY_15 (fun r_1 S_2 hp_3 => ?_)
  obtain ⟨rfl, e_4⟩ := hp_3
  refine J.eq (S' := (sI S 707 t (nI 900))) (st' := []) (lv' := [(0, .ref t)]) e_4 rfl rfl ?_
  exact j_vret C M dX7_homeY_18 (Nat.le_of_ble_eq_true rfl) (Nat.le_of_ble_eq_true rfl) ⟨rfl, rfl⟩

theorem dX7_turn_0 : decode cX7_turn 0 = .ok (.aload_n 0, 1) := by decide +kernel
theorem dX7_turn_1 : decode cX7_turn 1 = .ok (.iload_n 1, 1) := by decide +kernel
theorem dX7_turn_2 : decode cX7_turn 2 = .ok (.putfield 15, 3) := by decide +kernel
theorem dX7_turn_5 : decode cX7_turn 5 = .ok (.aload_n 0, 1) := by decide +kernel
theorem dX7_turn_6 : decode cX7_turn 6 = .ok (.iload_n 2, 1) := by decide +kernel
theorem dX7_turn_7 : decode cX7_turn 7 = .ok (.putfield 19, 3) := by decide +kernel
theorem dX7_turn_10 : decode cX7_turn 10 = .ok (.aload_n 0, 1) := by decide +kernel
theorem dX7_turn_11 : decode cX7_turn 11 = .ok (.iconst 0, 1) := by decide +kernel
theorem dX7_turn_12 : decode cX7_turn 12 = .ok (.putfield 28, 3) := by decide +kernel
theorem dX7_turn_15 : decode cX7_turn 15 = .ok (.aload_n 0, 1) := by decide +kernel
theorem dX7_turn_16 : decode cX7_turn 16 = .ok (.aload_n 0, 1) := by decide +kernel
theorem dX7_turn_17 : decode cX7_turn 17 = .ok (.invokevirtual 58, 3) := by decide +kernel
theorem dX7_turn_20 : decode cX7_turn 20 = .ok (.putfield 31, 3) := by decide +kernel
theorem dX7_turn_23 : decode cX7_turn 23 = .ok (.aload_n 0, 1) := by decide +kernel
theorem dX7_turn_24 : decode cX7_turn 24 = .ok (.invokevirtual 62, 3) := by decide +kernel
theorem dX7_turn_27 : decode cX7_turn 27 = .ok (.aload_n 0, 1) := by decide +kernel
theorem dX7_turn_28 : decode cX7_turn 28 = .ok (.aload_n 0, 1) := by decide +kernel
theorem dX7_turn_29 : decode cX7_turn 29 = .ok (.getfield 22, 3) := by decide +kernel
theorem dX7_turn_32 : decode cX7_turn 32 = .ok (.i2l, 1) := by decide +kernel
theorem dX7_turn_33 : decode cX7_turn 33 = .ok (.invokevirtual 65, 3) := by decide +kernel
theorem dX7_turn_36 : decode cX7_turn 36 = .ok (.aload_n 0, 1) := by decide +kernel
theorem dX7_turn_37 : decode cX7_turn 37 = .ok (.invokevirtual 69, 3) := by decide +kernel
theorem dX7_turn_40 : decode cX7_turn 40 = .ok (.return_, 1) := by decide +kernel

set_option maxRecDepth 100000 in
set_option maxHeartbeats 4000000 in
theorem c_turn0 (S : Hp) (t : Nat) (m_t : t ∈ hL S) (k_t : Kd S t 7) (hI_708_t : hI S 708 t = 1200) : Ct 4 yX7_turn cX7_turn 3 none 0 0 [.ref t, .int 0, .int 0] S (fun r S' => r = none ∧ S' = (sI (sI (sI (sI (sI (sI (sI (sI S 700 t 0) 701 t 0) 704 t 0) 705 t 23040) 702 t 0) 703 t 19200) 706 t (nI 0)) 707 t (nI 900))) := by
  refine ct_of (by decide) (Nat.le_of_ble_eq_true rfl) fun x hn9 C M hm9 => ?_
  have C : CB x RX7 cX7_turn := C
  refine J.eq (lv' := [(0, .ref t), (1, .int 0), (2, .int 0)]) rfl rfl rfl ?_
  refine j_aload_n C dX7_turn_0 rfl 0 rfl ?_
  refine j_iload_n C dX7_turn_1 rfl 1 rfl ?_
  refine j_puti (f := 700) C flX7_15 (by decide) rfl rfl dX7_turn_2 m_t k_t rfl ?_
  refine j_aload_n C dX7_turn_5 rfl 0 rfl ?_
  refine j_iload_n C dX7_turn_6 rfl 2 rfl ?_
  refine j_puti (f := 701) C flX7_19 (by decide) rfl rfl dX7_turn_7 m_t k_t rfl ?_
  refine j_aload_n C dX7_turn_10 rfl 0 rfl ?_
  refine j_iconst (v := 0) C dX7_turn_11 (by decide) ?_
  show J _ _ _ _ _ 12 _
  refine j_puti (f := 704) C flX7_28 (by decide) rfl rfl dX7_turn_12 m_t k_t rfl ?_
  refine j_aload_n C dX7_turn_15 rfl 0 rfl ?_
  refine j_aload_n C dX7_turn_16 rfl 0 rfl ?_
  refine j_callV (ci := 7) C [] [.ref t] mlX7_58 mcX7_down (c_dow0 (sI (sI (sI S 700 t 0) 701 t 0) 704 t 0) t m_t k_t (rd_sIf (S := (sI (sI S 700 t 0) 701 t 0)) (g := 704) (a := t) (v := 0) (by decide) (rd_sIf (S := (sI S 700 t 0)) (g := 701) (a := t) (v := 0) (by decide) (rd_sI (S := S) (g := 700) (a := t) (v := 0)))) (rd_sIf (S := (sI (sI S 700 t 0) 701 t 0)) (g := 704) (a := t) (v := 0) (by decide) (rd_sI (S := (sI S 700 t 0)) (g := 701) (a := t) (v := 0)))) m_t k_t rfl (M.rm (by decide) (by decide) (Nat.le_of_ble_eq_true rfl) (Nat.le_of_ble_eq_true rfl)) rfl rfl (Nat.le_of_ble_eq_true rfl) dX7_turn_17 (fun r_1 S_2 hp_3 => ?_)
  obtain ⟨rfl, e_4⟩ := hp_3
  refine J.eq (S' := (sI (sI (sI S 700 t 0) 701 t 0) 704 t 0)) (st' := [.int 23040, .ref t]) (lv' := [(0, .ref t), (1, .int 0), (2, .int 0)]) e_4 rfl rfl ?_
  refine j_puti (f := 705) C flX7_31 (by decide) rfl rfl dX7_turn_20 m_t k_t rfl ?_
  refine j_aload_n C dX7_turn_23 rfl 0 rfl ?_
  refine j_callV (ci := 7) C [] [] mlX7_62 mcX7_clearMargins (c_clm0 (sI (sI (sI (sI S 700 t 0) 701 t 0) 704 t 0) 705 t 23040) t m_t k_t (rd_sIf (S := (sI (sI (sI S 700 t 0) 701 t 0) 704 t 0)) (g := 705) (a := t) (v := 23040) (by decide) (rd_sIf (S := (sI (sI S 700 t 0) 701 t 0)) (g := 704) (a := t) (v := 0) (by decide) (rd_sIf (S := (sI S 700 t 0)) (g := 701) (a := t) (v := 0) (by decide) (rd_sI (S := S) (g := 700) (a := t) (v := 0))))) (rd_sIf (S := (sI (sI (sI S 700 t 0) 701 t 0) 704 t 0)) (g := 705) (a := t) (v := 23040) (by decide) (rd_sIf (S := (sI (sI S 700 t 0) 701 t 0)) (g := 704) (a := t) (v := 0) (by decide) (rd_sI (S := (sI S 700 t 0)) (g := 701) (a := t) (v := 0))))) m_t k_t rfl (M.rm (by decide) (by decide) (Nat.le_of_ble_eq_true rfl) (Nat.le_of_ble_eq_true rfl)) rfl rfl (Nat.le_of_ble_eq_true rfl) dX7_turn_24 (fun r_5 S_6 hp_7 => ?_)
  obtain ⟨rfl, e_8⟩ := hp_7
  refine J.eq (S' := (sI (sI (sI (sI (sI (sI S 700 t 0) 701 t 0) 704 t 0) 705 t 23040) 702 t 0) 703 t 19200)) (st' := []) (lv' := [(0, .ref t), (1, .int 0), (2, .int 0)]) e_8 rfl rfl ?_
  refine j_aload_n C dX7_turn_27 rfl 0 rfl ?_
  show J _ _ _ _ _ 28 _
  refine j_aload_n C dX7_turn_28 rfl 0 rfl ?_
  refine j_geti (f := 702) (v := 0) C flX7_22 dX7_turn_29 m_t k_t (by decide) (by decide) rfl (rd_sIf (S := (sI (sI (sI (sI (sI S 700 t 0) 701 t 0) 704 t 0) 705 t 23040) 702 t 0)) (g := 703) (a := t) (v := 19200) (by decide) (rd_sI (S := (sI (sI (sI (sI S 700 t 0) 701 t 0) 704 t 0) 705 t 23040)) (g := 702) (a := t) (v := 0))) ?_
  refine j_i2l (v := 0) C dX7_turn_32 (by decide) ?_
  obtain ⟨S_9, eS_10⟩ : ∃ S9 : Hp, S9 = (sI (sI (sI (sI (sI (sI S 700 t 0) 701 t 0) 704 t 0) 705 t 23040) 702 t 0) 703 t 19200) := ⟨_, rfl⟩
  refine J.eq (S' := S_9) eS_10.symm rfl rfl ?_
  have hm_11 : t ∈ hL S_9 := by rw [eS_10]; exact m_t
  have hk_12 : Kd S_9 t 7 := by rw [eS_10]; exact k_t
  have hv_13 : hI S_9 700 t = 0 := by rw [eS_10]; exact (rd_sIf (S := (sI (sI (sI (sI (sI S 700 t 0) 701 t 0) 704 t 0) 705 t 23040) 702 t 0)) (g := 703) (a := t) (v := 19200) (by decide) (rd_sIf (S := (sI (sI (sI (sI S 700 t 0) 701 t 0) 704 t 0) 705 t 23040)) (g := 702) (a := t) (v := 0) (by decide) (rd_sIf (S := (sI (sI (sI S 700 t 0) 701 t 0) 704 t 0)) (g := 705) (a := t) (v := 23040) (by decide) (rd_sIf (S := (sI (sI S 700 t 0) 701 t 0)) (g := 704) (a := t) (v := 0) (by decide) (rd_sIf (S := (sI S 700 t 0)) (g := 701) (a := t) (v := 0) (by decide) (rd_sI (S := S) (g := 700) (a := t) (v := 0)))))))
  have hv_14 : hI S_9 701 t = 0 := by rw [eS_10]; exact (rd_sIf (S := (sI (sI (sI (sI (sI S 700 t 0) 701 t 0) 704 t 0) 705 t 23040) 702 t 0)) (g := 703) (a := t) (v := 19200) (by decide) (rd_sIf (S := (sI (sI (sI (sI S 700 t 0) 701 t 0) 704 t 0) 705 t 23040)) (g := 702) (a := t) (v := 0) (by decide) (rd_sIf (S := (sI (sI (sI S 700 t 0) 701 t 0) 704 t 0)) (g := 705) (a := t) (v := 23040) (by decide) (rd_sIf (S := (sI (sI S 700 t 0) 701 t 0)) (g := 704) (a := t) (v := 0) (by decide) (rd_sI (S := (sI S 700 t 0)) (g := 701) (a := t) (v := 0))))))
  have hv_15 : hI S_9 702 t = 0 := by rw [eS_10]; exact (rd_sIf (S := (sI (sI (sI (sI (sI S 700 t 0) 701 t 0) 704 t 0) 705 t 23040) 702 t 0)) (g := 703) (a := t) (v := 19200) (by decide) (rd_sI (S := (sI (sI (sI (sI S 700 t 0) 701 t 0) 704 t 0) 705 t 23040)) (g := 702) (a := t) (v := 0)))
  have hv_16 : hI S_9 703 t = 19200 := by rw [eS_10]; exact (rd_sI (S := (sI (sI (sI (sI (sI S 700 t 0) 701 t 0) 704 t 0) 705 t 23040) 702 t 0)) (g := 703) (a := t) (v := 19200))
  have hv_17 : hI S_9 704 t = 0 := by rw [eS_10]; exact (rd_sIf (S := (sI (sI (sI (sI (sI S 700 t 0) 701 t 0) 704 t 0) 705 t 23040) 702 t 0)) (g := 703) (a := t) (v := 19200) (by decide) (rd_sIf (S := (sI (sI (sI (sI S 700 t 0) 701 t 0) 704 t 0) 705 t 23040)) (g := 702) (a := t) (v := 0) (by decide) (rd_sIf (S := (sI (sI (sI S 700 t 0) 701 t 0) 704 t 0)) (g := 705) (a := t) (v := 23040) (by decide) (rd_sI (S := (sI (sI S 700 t 0) 701 t 0)) (g := 704) (a := t) (v := 0)))))
  have hv_18 : hI S_9 705 t = 23040 := by rw [eS_10]; exact (rd_sIf (S := (sI (sI (sI (sI (sI S 700 t 0) 701 t 0) 704 t 0) 705 t 23040) 702 t 0)) (g := 703) (a := t) (v := 19200) (by decide) (rd_sIf (S := (sI (sI (sI (sI S 700 t 0) 701 t 0) 704 t 0) 705 t 23040)) (g := 702) (a := t) (v := 0) (by decide) (rd_sI (S := (sI (sI (sI S 700 t 0) 701 t 0) 704 t 0)) (g := 705) (a := t) (v := 23040))))
  have hv_19 : hI S_9 708 t = 1200 := by rw [eS_10]; exact (rd_sIf (S := (sI (sI (sI (sI (sI S 700 t 0) 701 t 0) 704 t 0) 705 t 23040) 702 t 0)) (g := 703) (a := t) (v := 19200) (by decide) (rd_sIf (S := (sI (sI (sI (sI S 700 t 0) 701 t 0) 704 t 0) 705 t 23040)) (g := 702) (a := t) (v := 0) (by decide) (rd_sIf (S := (sI (sI (sI S 700 t 0) 701 t 0) 704 t 0)) (g := 705) (a := t) (v := 23040) (by decide) (rd_sIf (S := (sI (sI S 700 t 0) 701 t 0)) (g := 704) (a := t) (v := 0) (by decide) (rd_sIf (S := (sI S 700 t 0)) (g := 701) (a := t) (v := 0) (by decide) (rd_sIf (S := S) (g := 700) (a := t) (v := 0) (by decide) hI_708_t))))))
  refine j_callV (ci := 7) C [.long 0] [] mlX7_65 mcX7_moveX (c_mvX0 S_9 t hm_11 hk_12 hv_13 hv_14 0 (by omega)) hm_11 hk_12 rfl (M.rm (by decide) (by decide) (Nat.le_of_ble_eq_true rfl) (Nat.le_of_ble_eq_true rfl)) rfl rfl (Nat.le_of_ble_eq_true rfl) dX7_turn_33 (fun r_20 S_21 hp_22 => ?_)
  obtain ⟨rfl, e_23⟩ := hp_22
  refine J.eq (S' := (sI S_9 706 t (nI 0))) (st' := []) (lv' := [(0, .ref t), (1, .int 0), (2, .int 0)]) e_23 rfl rfl ?_
  refine j_aload_n C dX7_turn_36 rfl 0 rfl ?_
  refine j_callV (ci := 7) C [] [] mlX7_69 mcX7_homeY (c_home0 (sI S_9 706 t (nI 0)) t hm_11 hk_12 (rd_sIf (S := S_9) (g := 706) (a := t) (v := nI 0) (by decide) hv_13) (rd_sIf (S := S_9) (g := 706) (a := t) (v := nI 0) (by decide) hv_14) (rd_sIf (S := S_9) (g := 706) (a := t) (v := nI 0) (by decide) hv_17) (rd_sIf (S := S_9) (g := 706) (a := t) (v := nI 0) (by decide) hv_19)) hm_11 hk_12 rfl (M.rm (by decide) (by decide) (Nat.le_of_ble_eq_true rfl) (Nat.le_of_ble_eq_true rfl)) rfl rfl (Nat.le_of_ble_eq_true rfl) dX7_turn_37 (fun r_24 S_25 hp_26 => ?_)
  obtain ⟨rfl, e_27⟩ := hp_26
  refine J.eq (S' := (sI (sI S_9 706 t (nI 0)) 707 t (nI 900))) (st' := []) (lv' := [(0, .ref t), (1, .int 0), (2, .int 0)]) e_27 rfl rfl ?_
  exact j_vret C M dX7_turn_40 (Nat.le_of_ble_eq_true rfl) (Nat.le_of_ble_eq_true rfl) (by subst eS_10; exact ⟨rfl, rfl⟩)

set_option maxRecDepth 100000 in
set_option maxHeartbeats 4000000 in
theorem c_turn1 (S : Hp) (t : Nat) (m_t : t ∈ hL S) (k_t : Kd S t 7) (hI_708_t : hI S 708 t = 1200) : Ct 4 yX7_turn cX7_turn 3 none 0 0 [.ref t, .int 1, .int 0] S (fun r S' => r = none ∧ S' = (sI (sI (sI (sI (sI (sI (sI (sI S 700 t 1) 701 t 0) 704 t 0) 705 t 38400) 702 t 0) 703 t 30720) 706 t (nI 0)) 707 t (nI 900))) := by
  refine ct_of (by decide) (Nat.le_of_ble_eq_true rfl) fun x hn9 C M hm9 => ?_
  have C : CB x RX7 cX7_turn := C
  refine J.eq (lv' := [(0, .ref t), (1, .int 1), (2, .int 0)]) rfl rfl rfl ?_
  refine j_aload_n C dX7_turn_0 rfl 0 rfl ?_
  refine j_iload_n C dX7_turn_1 rfl 1 rfl ?_
  refine j_puti (f := 700) C flX7_15 (by decide) rfl rfl dX7_turn_2 m_t k_t rfl ?_
  refine j_aload_n C dX7_turn_5 rfl 0 rfl ?_
  refine j_iload_n C dX7_turn_6 rfl 2 rfl ?_
  refine j_puti (f := 701) C flX7_19 (by decide) rfl rfl dX7_turn_7 m_t k_t rfl ?_
  refine j_aload_n C dX7_turn_10 rfl 0 rfl ?_
  refine j_iconst (v := 0) C dX7_turn_11 (by decide) ?_
  show J _ _ _ _ _ 12 _
  refine j_puti (f := 704) C flX7_28 (by decide) rfl rfl dX7_turn_12 m_t k_t rfl ?_
  refine j_aload_n C dX7_turn_15 rfl 0 rfl ?_
  refine j_aload_n C dX7_turn_16 rfl 0 rfl ?_
  refine j_callV (ci := 7) C [] [.ref t] mlX7_58 mcX7_down (c_dow1 (sI (sI (sI S 700 t 1) 701 t 0) 704 t 0) t m_t k_t (rd_sIf (S := (sI (sI S 700 t 1) 701 t 0)) (g := 704) (a := t) (v := 0) (by decide) (rd_sIf (S := (sI S 700 t 1)) (g := 701) (a := t) (v := 0) (by decide) (rd_sI (S := S) (g := 700) (a := t) (v := 1)))) (rd_sIf (S := (sI (sI S 700 t 1) 701 t 0)) (g := 704) (a := t) (v := 0) (by decide) (rd_sI (S := (sI S 700 t 1)) (g := 701) (a := t) (v := 0)))) m_t k_t rfl (M.rm (by decide) (by decide) (Nat.le_of_ble_eq_true rfl) (Nat.le_of_ble_eq_true rfl)) rfl rfl (Nat.le_of_ble_eq_true rfl) dX7_turn_17 (fun r_1 S_2 hp_3 => ?_)
  obtain ⟨rfl, e_4⟩ := hp_3
  refine J.eq (S' := (sI (sI (sI S 700 t 1) 701 t 0) 704 t 0)) (st' := [.int 38400, .ref t]) (lv' := [(0, .ref t), (1, .int 1), (2, .int 0)]) e_4 rfl rfl ?_
  refine j_puti (f := 705) C flX7_31 (by decide) rfl rfl dX7_turn_20 m_t k_t rfl ?_
  refine j_aload_n C dX7_turn_23 rfl 0 rfl ?_
  refine j_callV (ci := 7) C [] [] mlX7_62 mcX7_clearMargins (c_clm1 (sI (sI (sI (sI S 700 t 1) 701 t 0) 704 t 0) 705 t 38400) t m_t k_t (rd_sIf (S := (sI (sI (sI S 700 t 1) 701 t 0) 704 t 0)) (g := 705) (a := t) (v := 38400) (by decide) (rd_sIf (S := (sI (sI S 700 t 1) 701 t 0)) (g := 704) (a := t) (v := 0) (by decide) (rd_sIf (S := (sI S 700 t 1)) (g := 701) (a := t) (v := 0) (by decide) (rd_sI (S := S) (g := 700) (a := t) (v := 1))))) (rd_sIf (S := (sI (sI (sI S 700 t 1) 701 t 0) 704 t 0)) (g := 705) (a := t) (v := 38400) (by decide) (rd_sIf (S := (sI (sI S 700 t 1) 701 t 0)) (g := 704) (a := t) (v := 0) (by decide) (rd_sI (S := (sI S 700 t 1)) (g := 701) (a := t) (v := 0))))) m_t k_t rfl (M.rm (by decide) (by decide) (Nat.le_of_ble_eq_true rfl) (Nat.le_of_ble_eq_true rfl)) rfl rfl (Nat.le_of_ble_eq_true rfl) dX7_turn_24 (fun r_5 S_6 hp_7 => ?_)
  obtain ⟨rfl, e_8⟩ := hp_7
  refine J.eq (S' := (sI (sI (sI (sI (sI (sI S 700 t 1) 701 t 0) 704 t 0) 705 t 38400) 702 t 0) 703 t 30720)) (st' := []) (lv' := [(0, .ref t), (1, .int 1), (2, .int 0)]) e_8 rfl rfl ?_
  refine j_aload_n C dX7_turn_27 rfl 0 rfl ?_
  show J _ _ _ _ _ 28 _
  refine j_aload_n C dX7_turn_28 rfl 0 rfl ?_
  refine j_geti (f := 702) (v := 0) C flX7_22 dX7_turn_29 m_t k_t (by decide) (by decide) rfl (rd_sIf (S := (sI (sI (sI (sI (sI S 700 t 1) 701 t 0) 704 t 0) 705 t 38400) 702 t 0)) (g := 703) (a := t) (v := 30720) (by decide) (rd_sI (S := (sI (sI (sI (sI S 700 t 1) 701 t 0) 704 t 0) 705 t 38400)) (g := 702) (a := t) (v := 0))) ?_
  refine j_i2l (v := 0) C dX7_turn_32 (by decide) ?_
  obtain ⟨S_9, eS_10⟩ : ∃ S9 : Hp, S9 = (sI (sI (sI (sI (sI (sI S 700 t 1) 701 t 0) 704 t 0) 705 t 38400) 702 t 0) 703 t 30720) := ⟨_, rfl⟩
  refine J.eq (S' := S_9) eS_10.symm rfl rfl ?_
  have hm_11 : t ∈ hL S_9 := by rw [eS_10]; exact m_t
  have hk_12 : Kd S_9 t 7 := by rw [eS_10]; exact k_t
  have hv_13 : hI S_9 700 t = 1 := by rw [eS_10]; exact (rd_sIf (S := (sI (sI (sI (sI (sI S 700 t 1) 701 t 0) 704 t 0) 705 t 38400) 702 t 0)) (g := 703) (a := t) (v := 30720) (by decide) (rd_sIf (S := (sI (sI (sI (sI S 700 t 1) 701 t 0) 704 t 0) 705 t 38400)) (g := 702) (a := t) (v := 0) (by decide) (rd_sIf (S := (sI (sI (sI S 700 t 1) 701 t 0) 704 t 0)) (g := 705) (a := t) (v := 38400) (by decide) (rd_sIf (S := (sI (sI S 700 t 1) 701 t 0)) (g := 704) (a := t) (v := 0) (by decide) (rd_sIf (S := (sI S 700 t 1)) (g := 701) (a := t) (v := 0) (by decide) (rd_sI (S := S) (g := 700) (a := t) (v := 1)))))))
  have hv_14 : hI S_9 701 t = 0 := by rw [eS_10]; exact (rd_sIf (S := (sI (sI (sI (sI (sI S 700 t 1) 701 t 0) 704 t 0) 705 t 38400) 702 t 0)) (g := 703) (a := t) (v := 30720) (by decide) (rd_sIf (S := (sI (sI (sI (sI S 700 t 1) 701 t 0) 704 t 0) 705 t 38400)) (g := 702) (a := t) (v := 0) (by decide) (rd_sIf (S := (sI (sI (sI S 700 t 1) 701 t 0) 704 t 0)) (g := 705) (a := t) (v := 38400) (by decide) (rd_sIf (S := (sI (sI S 700 t 1) 701 t 0)) (g := 704) (a := t) (v := 0) (by decide) (rd_sI (S := (sI S 700 t 1)) (g := 701) (a := t) (v := 0))))))
  have hv_15 : hI S_9 702 t = 0 := by rw [eS_10]; exact (rd_sIf (S := (sI (sI (sI (sI (sI S 700 t 1) 701 t 0) 704 t 0) 705 t 38400) 702 t 0)) (g := 703) (a := t) (v := 30720) (by decide) (rd_sI (S := (sI (sI (sI (sI S 700 t 1) 701 t 0) 704 t 0) 705 t 38400)) (g := 702) (a := t) (v := 0)))
  have hv_16 : hI S_9 703 t = 30720 := by rw [eS_10]; exact (rd_sI (S := (sI (sI (sI (sI (sI S 700 t 1) 701 t 0) 704 t 0) 705 t 38400) 702 t 0)) (g := 703) (a := t) (v := 30720))
  have hv_17 : hI S_9 704 t = 0 := by rw [eS_10]; exact (rd_sIf (S := (sI (sI (sI (sI (sI S 700 t 1) 701 t 0) 704 t 0) 705 t 38400) 702 t 0)) (g := 703) (a := t) (v := 30720) (by decide) (rd_sIf (S := (sI (sI (sI (sI S 700 t 1) 701 t 0) 704 t 0) 705 t 38400)) (g := 702) (a := t) (v := 0) (by decide) (rd_sIf (S := (sI (sI (sI S 700 t 1) 701 t 0) 704 t 0)) (g := 705) (a := t) (v := 38400) (by decide) (rd_sI (S := (sI (sI S 700 t 1) 701 t 0)) (g := 704) (a := t) (v := 0)))))
  have hv_18 : hI S_9 705 t = 38400 := by rw [eS_10]; exact (rd_sIf (S := (sI (sI (sI (sI (sI S 700 t 1) 701 t 0) 704 t 0) 705 t 38400) 702 t 0)) (g := 703) (a := t) (v := 30720) (by decide) (rd_sIf (S := (sI (sI (sI (sI S 700 t 1) 701 t 0) 704 t 0) 705 t 38400)) (g := 702) (a := t) (v := 0) (by decide) (rd_sI (S := (sI (sI (sI S 700 t 1) 701 t 0) 704 t 0)) (g := 705) (a := t) (v := 38400))))
  have hv_19 : hI S_9 708 t = 1200 := by rw [eS_10]; exact (rd_sIf (S := (sI (sI (sI (sI (sI S 700 t 1) 701 t 0) 704 t 0) 705 t 38400) 702 t 0)) (g := 703) (a := t) (v := 30720) (by decide) (rd_sIf (S := (sI (sI (sI (sI S 700 t 1) 701 t 0) 704 t 0) 705 t 38400)) (g := 702) (a := t) (v := 0) (by decide) (rd_sIf (S := (sI (sI (sI S 700 t 1) 701 t 0) 704 t 0)) (g := 705) (a := t) (v := 38400) (by decide) (rd_sIf (S := (sI (sI S 700 t 1) 701 t 0)) (g := 704) (a := t) (v := 0) (by decide) (rd_sIf (S := (sI S 700 t 1)) (g := 701) (a := t) (v := 0) (by decide) (rd_sIf (S := S) (g := 700) (a := t) (v := 1) (by decide) hI_708_t))))))
  refine j_callV (ci := 7) C [.long 0] [] mlX7_65 mcX7_moveX (c_mvX1 S_9 t hm_11 hk_12 hv_13 hv_14 0 (by omega)) hm_11 hk_12 rfl (M.rm (by decide) (by decide) (Nat.le_of_ble_eq_true rfl) (Nat.le_of_ble_eq_true rfl)) rfl rfl (Nat.le_of_ble_eq_true rfl) dX7_turn_33 (fun r_20 S_21 hp_22 => ?_)
  obtain ⟨rfl, e_23⟩ := hp_22
  refine J.eq (S' := (sI S_9 706 t (nI 0))) (st' := []) (lv' := [(0, .ref t), (1, .int 1), (2, .int 0)]) e_23 rfl rfl ?_
  refine j_aload_n C dX7_turn_36 rfl 0 rfl ?_
  refine j_callV (ci := 7) C [] [] mlX7_69 mcX7_homeY (c_home1 (sI S_9 706 t (nI 0)) t hm_11 hk_12 (rd_sIf (S := S_9) (g := 706) (a := t) (v := nI 0) (by decide) hv_13) (rd_sIf (S := S_9) (g := 706) (a := t) (v := nI 0) (by decide) hv_14) (rd_sIf (S := S_9) (g := 706) (a := t) (v := nI 0) (by decide) hv_17) (rd_sIf (S := S_9) (g := 706) (a := t) (v := nI 0) (by decide) hv_19)) hm_11 hk_12 rfl (M.rm (by decide) (by decide) (Nat.le_of_ble_eq_true rfl) (Nat.le_of_ble_eq_true rfl)) rfl rfl (Nat.le_of_ble_eq_true rfl) dX7_turn_37 (fun r_24 S_25 hp_26 => ?_)
  obtain ⟨rfl, e_27⟩ := hp_26
  refine J.eq (S' := (sI (sI S_9 706 t (nI 0)) 707 t (nI 900))) (st' := []) (lv' := [(0, .ref t), (1, .int 1), (2, .int 0)]) e_27 rfl rfl ?_
  exact j_vret C M dX7_turn_40 (Nat.le_of_ble_eq_true rfl) (Nat.le_of_ble_eq_true rfl) (by subst eS_10; exact ⟨rfl, rfl⟩)

theorem dX7_reset_0 : decode cX7_reset 0 = .ok (.aload_n 0, 1) := by decide +kernel
theorem dX7_reset_1 : decode cX7_reset 1 = .ok (.sipush 1200, 3) := by decide +kernel
theorem dX7_reset_4 : decode cX7_reset 4 = .ok (.putfield 40, 3) := by decide +kernel
theorem dX7_reset_7 : decode cX7_reset 7 = .ok (.aload_n 0, 1) := by decide +kernel
theorem dX7_reset_8 : decode cX7_reset 8 = .ok (.sipush 720, 3) := by decide +kernel
theorem dX7_reset_11 : decode cX7_reset 11 = .ok (.putfield 43, 3) := by decide +kernel
theorem dX7_reset_14 : decode cX7_reset 14 = .ok (.aload_n 0, 1) := by decide +kernel
theorem dX7_reset_15 : decode cX7_reset 15 = .ok (.iconst 0, 1) := by decide +kernel
theorem dX7_reset_16 : decode cX7_reset 16 = .ok (.putfield 46, 3) := by decide +kernel
theorem dX7_reset_19 : decode cX7_reset 19 = .ok (.aload_n 0, 1) := by decide +kernel
theorem dX7_reset_20 : decode cX7_reset 20 = .ok (.iconst 0, 1) := by decide +kernel
theorem dX7_reset_21 : decode cX7_reset 21 = .ok (.putfield 49, 3) := by decide +kernel
theorem dX7_reset_24 : decode cX7_reset 24 = .ok (.return_, 1) := by decide +kernel

set_option maxRecDepth 100000 in
set_option maxHeartbeats 4000000 in
theorem c_X7_reset (S : Hp) (t : Nat) (m_t : t ∈ hL S) (k_t : Kd S t 7) : Ct 1 yX7_reset cX7_reset 1 none 0 0 [.ref t] S (fun r S' => r = none ∧ S' = (sI (sI (sI (sI S 708 t 1200) 709 t 720) 710 t 0) 711 t 0)) := by
  refine ct_of (by decide) (Nat.le_of_ble_eq_true rfl) fun x hn9 C M hm9 => ?_
  have C : CB x RX7 cX7_reset := C
  refine J.eq (lv' := [(0, .ref t)]) rfl rfl rfl ?_
  refine j_aload_n C dX7_reset_0 rfl 0 rfl ?_
  refine j_sipush (v := 1200) C dX7_reset_1 (by decide) ?_
  refine j_puti (f := 708) C flX7_40 (by decide) rfl rfl dX7_reset_4 m_t k_t rfl ?_
  refine j_aload_n C dX7_reset_7 rfl 0 rfl ?_
  refine j_sipush (v := 720) C dX7_reset_8 (by decide) ?_
  refine j_puti (f := 709) C flX7_43 (by decide) rfl rfl dX7_reset_11 m_t k_t rfl ?_
  refine j_aload_n C dX7_reset_14 rfl 0 rfl ?_
  refine j_iconst (v := 0) C dX7_reset_15 (by decide) ?_
  show J _ _ _ _ _ 16 _
  refine j_puti (f := 710) C flX7_46 (by decide) rfl rfl dX7_reset_16 m_t k_t rfl ?_
  refine j_aload_n C dX7_reset_19 rfl 0 rfl ?_
  refine j_iconst (v := 0) C dX7_reset_20 (by decide) ?_
  refine j_puti (f := 711) C flX7_49 (by decide) rfl rfl dX7_reset_21 m_t k_t rfl ?_
  exact j_vret C M dX7_reset_24 (by decide) (by decide) ⟨rfl, rfl⟩

theorem dX7_pageWide_0 : decode cX7_pageWide 0 = .ok (.getstatic 75, 3) := by decide +kernel
theorem dX7_pageWide_3 : decode cX7_pageWide 3 = .ok (.aload_n 0, 1) := by decide +kernel
theorem dX7_pageWide_4 : decode cX7_pageWide 4 = .ok (.getfield 15, 3) := by decide +kernel
theorem dX7_pageWide_7 : decode cX7_pageWide 7 = .ok (.iconst 3, 1) := by decide +kernel
theorem dX7_pageWide_8 : decode cX7_pageWide 8 = .ok (.iand, 1) := by decide +kernel
theorem dX7_pageWide_9 : decode cX7_pageWide 9 = .ok (.iaload, 1) := by decide +kernel
theorem dX7_pageWide_10 : decode cX7_pageWide 10 = .ok (.ireturn, 1) := by decide +kernel

set_option maxRecDepth 100000 in
set_option maxHeartbeats 4000000 in
theorem c_X7_pageWide (S : Hp) (t : Nat) (m_t : t ∈ hL S) (k_t : Kd S t 7) (hI_700_t : hI S 700 t = 0) (hI_701_t : hI S 701 t = 0) : Ct 1 yX7_pageWide cX7_pageWide 1 (some .int) 0 0 [.ref t] S (fun r S' => r = some (.int 200) ∧ S' = S) := by
  refine ct_of (by decide) (Nat.le_of_ble_eq_true rfl) fun x hn9 C M hm9 => ?_
  have C : CB x RX7 cX7_pageWide := C
  refine J.eq (lv' := [(0, .ref t)]) rfl rfl rfl ?_
  refine j_gets C 0 rfl (Or.inr ⟨_, gsX7_75⟩) dX7_pageWide_0 ?_
  refine j_aload_n C dX7_pageWide_3 rfl 0 rfl ?_
  refine j_geti (f := 700) (v := 0) C flX7_15 dX7_pageWide_4 m_t k_t (by decide) (by decide) rfl hI_700_t ?_
  refine j_iconst (v := 3) C dX7_pageWide_7 (by decide) ?_
  refine j_iand (v := 0) C dX7_pageWide_8 (by decide) ?_
  refine j_stld (v := 200) C 0 rfl dX7_pageWide_9 (vp_lit (by decide)) (by decide) ?_
  exact j_iret C M dX7_pageWide_10 (by decide) (by decide) ⟨rfl, rfl⟩

theorem dX7_pageHigh_0 : decode cX7_pageHigh 0 = .ok (.getstatic 78, 3) := by decide +kernel
theorem dX7_pageHigh_3 : decode cX7_pageHigh 3 = .ok (.aload_n 0, 1) := by decide +kernel
theorem dX7_pageHigh_4 : decode cX7_pageHigh 4 = .ok (.getfield 15, 3) := by decide +kernel
theorem dX7_pageHigh_7 : decode cX7_pageHigh 7 = .ok (.iconst 3, 1) := by decide +kernel
theorem dX7_pageHigh_8 : decode cX7_pageHigh 8 = .ok (.iand, 1) := by decide +kernel
theorem dX7_pageHigh_9 : decode cX7_pageHigh 9 = .ok (.iaload, 1) := by decide +kernel
theorem dX7_pageHigh_10 : decode cX7_pageHigh 10 = .ok (.ireturn, 1) := by decide +kernel

set_option maxRecDepth 100000 in
set_option maxHeartbeats 4000000 in
theorem c_X7_pageHigh (S : Hp) (t : Nat) (m_t : t ∈ hL S) (k_t : Kd S t 7) (hI_700_t : hI S 700 t = 0) (hI_701_t : hI S 701 t = 0) : Ct 1 yX7_pageHigh cX7_pageHigh 1 (some .int) 0 0 [.ref t] S (fun r S' => r = some (.int 240) ∧ S' = S) := by
  refine ct_of (by decide) (Nat.le_of_ble_eq_true rfl) fun x hn9 C M hm9 => ?_
  have C : CB x RX7 cX7_pageHigh := C
  refine J.eq (lv' := [(0, .ref t)]) rfl rfl rfl ?_
  refine j_gets C 1 rfl (Or.inr ⟨_, gsX7_78⟩) dX7_pageHigh_0 ?_
  refine j_aload_n C dX7_pageHigh_3 rfl 0 rfl ?_
  refine j_geti (f := 700) (v := 0) C flX7_15 dX7_pageHigh_4 m_t k_t (by decide) (by decide) rfl hI_700_t ?_
  refine j_iconst (v := 3) C dX7_pageHigh_7 (by decide) ?_
  refine j_iand (v := 0) C dX7_pageHigh_8 (by decide) ?_
  refine j_stld (v := 240) C 1 rfl dX7_pageHigh_9 (vp_lit (by decide)) (by decide) ?_
  exact j_iret C M dX7_pageHigh_10 (by decide) (by decide) ⟨rfl, rfl⟩

theorem dX4_clearRow_0 : decode cX4_clearRow 0 = .ok (.aload_n 0, 1) := by decide +kernel
theorem dX4_clearRow_1 : decode cX4_clearRow 1 = .ok (.getfield 9, 3) := by decide +kernel
theorem dX4_clearRow_4 : decode cX4_clearRow 4 = .ok (.iconst 0, 1) := by decide +kernel
theorem dX4_clearRow_5 : decode cX4_clearRow 5 = .ok (.invokestatic 49, 3) := by decide +kernel
theorem dX4_clearRow_8 : decode cX4_clearRow 8 = .ok (.return_, 1) := by decide +kernel

set_option maxRecDepth 100000 in
set_option maxHeartbeats 4000000 in
theorem c_X4_clearRow (S : Hp) (t : Nat) (m_t : t ∈ hL S) (k_t : Kd S t 4) (q : Nat) (hR_407_t : hR S 407 t = some q) (m_q : q ∈ hL S) (k_q : Kd S q 14) (l_q : Ln S q 20) : Ct 2 yX4_clearRow cX4_clearRow 1 none 0 0 [.ref t] S (fun r S' => r = none ∧ S' = (rI S q (fillN (aI S q) 20 0))) := by
  refine ct_of (by decide) (Nat.le_of_ble_eq_true rfl) fun x hn9 C M hm9 => ?_
  have C : CB x RX4 cX4_clearRow := C
  refine J.eq (lv' := [(0, .ref t)]) rfl rfl rfl ?_
  refine j_aload_n C dX4_clearRow_0 rfl 0 rfl ?_
  refine j_getr (f := 407) (v := q) C flX4_9 dX4_clearRow_1 m_t k_t (by decide) rfl hR_407_t ?_
  refine j_iconst (v := 0) C dX4_clearRow_4 (by decide) ?_
  refine j_callS C [.ref q, .int 0] [] mlX4_49 mcJ7_fill_53178 (c_J7_fill_53178 S q 20 0 m_q k_q l_q (by omega)) (M.rm (by decide) (by decide) (Nat.le_of_ble_eq_true rfl) (Nat.le_of_ble_eq_true rfl)) rfl rfl (Nat.le_of_ble_eq_true rfl) dX4_clearRow_5 (fun r_1 S_2 hp_3 => ?_)
  obtain ⟨rfl, e_4⟩ := hp_3
  refine J.eq (S' := (rI S q (fillN (aI S q) 20 0))) (st' := []) (lv' := [(0, .ref t)]) e_4 rfl rfl ?_
  exact j_vret C M dX4_clearRow_8 (Nat.le_of_ble_eq_true rfl) (Nat.le_of_ble_eq_true rfl) ⟨rfl, rfl⟩

theorem dX4_end_0 : decode cX4_end 0 = .ok (.aload_n 0, 1) := by decide +kernel
theorem dX4_end_1 : decode cX4_end 1 = .ok (.iconst 0, 1) := by decide +kernel
theorem dX4_end_2 : decode cX4_end 2 = .ok (.putfield 26, 3) := by decide +kernel
theorem dX4_end_5 : decode cX4_end 5 = .ok (.iload_n 1, 1) := by decide +kernel
theorem dX4_end_6 : decode cX4_end 6 = .ok (.ifCond .eq 18, 3) := by decide +kernel
theorem dX4_end_9 : decode cX4_end 9 = .ok (.aload_n 0, 1) := by decide +kernel
theorem dX4_end_10 : decode cX4_end 10 = .ok (.iconst 0, 1) := by decide +kernel
theorem dX4_end_11 : decode cX4_end 11 = .ok (.putfield 17, 3) := by decide +kernel
theorem dX4_end_14 : decode cX4_end 14 = .ok (.aload_n 0, 1) := by decide +kernel
theorem dX4_end_15 : decode cX4_end 15 = .ok (.iconst 0, 1) := by decide +kernel
theorem dX4_end_16 : decode cX4_end 16 = .ok (.putfield 20, 3) := by decide +kernel
theorem dX4_end_19 : decode cX4_end 19 = .ok (.aload_n 0, 1) := by decide +kernel
theorem dX4_end_20 : decode cX4_end 20 = .ok (.iconst 0, 1) := by decide +kernel
theorem dX4_end_21 : decode cX4_end 21 = .ok (.putfield 23, 3) := by decide +kernel
theorem dX4_end_24 : decode cX4_end 24 = .ok (.return_, 1) := by decide +kernel

set_option maxRecDepth 100000 in
set_option maxHeartbeats 4000000 in
theorem c_X4_end (S : Hp) (t : Nat) (m_t : t ∈ hL S) (k_t : Kd S t 4) : Ct 2 yX4_end cX4_end 2 none 0 0 [.ref t, .int 1] S (fun r S' => r = none ∧ S' = (sI (sI (sI (sI S 404 t 0) 401 t 0) 402 t 0) 403 t 0)) := by
  refine ct_of (by decide) (Nat.le_of_ble_eq_true rfl) fun x hn9 C M hm9 => ?_
  have C : CB x RX4 cX4_end := C
  refine J.eq (lv' := [(0, .ref t), (1, .int 1)]) rfl rfl rfl ?_
  refine j_aload_n C dX4_end_0 rfl 0 rfl ?_
  refine j_iconst (v := 0) C dX4_end_1 (by decide) ?_
  refine j_putz (f := 404) C flX4_26 (by decide) rfl rfl (by decide) dX4_end_2 m_t k_t rfl ?_
  refine j_iload_n C dX4_end_5 rfl 1 rfl ?_
  refine j_if_eq (tgt := 24) C dX4_end_6 (by decide) (fun c9 => absurd c9 (by decide)) (fun c9 => ?_)
  refine j_aload_n C dX4_end_9 rfl 0 rfl ?_
  refine j_iconst (v := 0) C dX4_end_10 (by decide) ?_
  refine j_puti (f := 401) C flX4_17 (by decide) rfl rfl dX4_end_11 m_t k_t rfl ?_
  show J _ _ _ _ _ 14 _
  refine j_aload_n C dX4_end_14 rfl 0 rfl ?_
  refine j_iconst (v := 0) C dX4_end_15 (by decide) ?_
  refine j_puti (f := 402) C flX4_20 (by decide) rfl rfl dX4_end_16 m_t k_t rfl ?_
  refine j_aload_n C dX4_end_19 rfl 0 rfl ?_
  refine j_iconst (v := 0) C dX4_end_20 (by decide) ?_
  refine j_puti (f := 403) C flX4_23 (by decide) rfl rfl dX4_end_21 m_t k_t rfl ?_
  exact j_vret C M dX4_end_24 (by decide) (by decide) ⟨rfl, rfl⟩

theorem dX4_reset_0 : decode cX4_reset 0 = .ok (.aload_n 0, 1) := by decide +kernel
theorem dX4_reset_1 : decode cX4_reset 1 = .ok (.iconst 1, 1) := by decide +kernel
theorem dX4_reset_2 : decode cX4_reset 2 = .ok (.putfield 13, 3) := by decide +kernel
theorem dX4_reset_5 : decode cX4_reset 5 = .ok (.aload_n 0, 1) := by decide +kernel
theorem dX4_reset_6 : decode cX4_reset 6 = .ok (.iconst 0, 1) := by decide +kernel
theorem dX4_reset_7 : decode cX4_reset 7 = .ok (.putfield 30, 3) := by decide +kernel
theorem dX4_reset_10 : decode cX4_reset 10 = .ok (.aload_n 0, 1) := by decide +kernel
theorem dX4_reset_11 : decode cX4_reset 11 = .ok (.iconst 0, 1) := by decide +kernel
theorem dX4_reset_12 : decode cX4_reset 12 = .ok (.putfield 33, 3) := by decide +kernel
theorem dX4_reset_15 : decode cX4_reset 15 = .ok (.aload_n 0, 1) := by decide +kernel
theorem dX4_reset_16 : decode cX4_reset 16 = .ok (.invokevirtual 42, 3) := by decide +kernel
theorem dX4_reset_19 : decode cX4_reset 19 = .ok (.aload_n 0, 1) := by decide +kernel
theorem dX4_reset_20 : decode cX4_reset 20 = .ok (.iconst 1, 1) := by decide +kernel
theorem dX4_reset_21 : decode cX4_reset 21 = .ok (.invokevirtual 45, 3) := by decide +kernel
theorem dX4_reset_24 : decode cX4_reset 24 = .ok (.return_, 1) := by decide +kernel

set_option maxRecDepth 100000 in
set_option maxHeartbeats 4000000 in
theorem c_X4_reset (S : Hp) (t : Nat) (m_t : t ∈ hL S) (k_t : Kd S t 4) (q : Nat) (hR_407_t : hR S 407 t = some q) (m_q : q ∈ hL S) (k_q : Kd S q 14) (l_q : Ln S q 20) : Ct 3 yX4_reset cX4_reset 1 none 0 0 [.ref t] S (fun r S' => r = none ∧ S' = (sI (sI (sI (sI (rI (sI (sI (sI S 400 t 1) 405 t 0) 406 t 0) q (fillN (aI (sI (sI (sI S 400 t 1) 405 t 0) 406 t 0) q) 20 0)) 404 t 0) 401 t 0) 402 t 0) 403 t 0)) := by
  refine ct_of (by decide) (Nat.le_of_ble_eq_true rfl) fun x hn9 C M hm9 => ?_
  have C : CB x RX4 cX4_reset := C
  refine J.eq (lv' := [(0, .ref t)]) rfl rfl rfl ?_
  refine j_aload_n C dX4_reset_0 rfl 0 rfl ?_
  refine j_iconst (v := 1) C dX4_reset_1 (by decide) ?_
  refine j_puti (f := 400) C flX4_13 (by decide) rfl rfl dX4_reset_2 m_t k_t rfl ?_
  refine j_aload_n C dX4_reset_5 rfl 0 rfl ?_
  refine j_iconst (v := 0) C dX4_reset_6 (by decide) ?_
  refine j_puti (f := 405) C flX4_30 (by decide) rfl rfl dX4_reset_7 m_t k_t rfl ?_
  refine j_aload_n C dX4_reset_10 rfl 0 rfl ?_
  refine j_iconst (v := 0) C dX4_reset_11 (by decide) ?_
  show J _ _ _ _ _ 12 _
  refine j_puti (f := 406) C flX4_33 (by decide) rfl rfl dX4_reset_12 m_t k_t rfl ?_
  refine j_aload_n C dX4_reset_15 rfl 0 rfl ?_
  refine j_callV (ci := 4) C [] [] mlX4_42 mcX4_clearRow (c_X4_clearRow (sI (sI (sI S 400 t 1) 405 t 0) 406 t 0) t m_t k_t q hR_407_t m_q k_q l_q) m_t k_t rfl (M.rm (by decide) (by decide) (Nat.le_of_ble_eq_true rfl) (Nat.le_of_ble_eq_true rfl)) rfl rfl (Nat.le_of_ble_eq_true rfl) dX4_reset_16 (fun r_1 S_2 hp_3 => ?_)
  obtain ⟨rfl, e_4⟩ := hp_3
  refine J.eq (S' := (rI (sI (sI (sI S 400 t 1) 405 t 0) 406 t 0) q (fillN (aI (sI (sI (sI S 400 t 1) 405 t 0) 406 t 0) q) 20 0))) (st' := []) (lv' := [(0, .ref t)]) e_4 rfl rfl ?_
  refine j_aload_n C dX4_reset_19 rfl 0 rfl ?_
  refine j_iconst (v := 1) C dX4_reset_20 (by decide) ?_
  refine j_callV (ci := 4) C [.int 1] [] mlX4_45 mcX4_end (c_X4_end (rI (sI (sI (sI S 400 t 1) 405 t 0) 406 t 0) q (fillN (aI (sI (sI (sI S 400 t 1) 405 t 0) 406 t 0) q) 20 0)) t m_t k_t) m_t k_t rfl (M.rm (by decide) (by decide) (Nat.le_of_ble_eq_true rfl) (Nat.le_of_ble_eq_true rfl)) rfl rfl (Nat.le_of_ble_eq_true rfl) dX4_reset_21 (fun r_5 S_6 hp_7 => ?_)
  obtain ⟨rfl, e_8⟩ := hp_7
  refine J.eq (S' := (sI (sI (sI (sI (rI (sI (sI (sI S 400 t 1) 405 t 0) 406 t 0) q (fillN (aI (sI (sI (sI S 400 t 1) 405 t 0) 406 t 0) q) 20 0)) 404 t 0) 401 t 0) 402 t 0) 403 t 0)) (st' := []) (lv' := [(0, .ref t)]) e_8 rfl rfl ?_
  obtain ⟨S_9, eS_10⟩ : ∃ S9 : Hp, S9 = (sI (sI (sI (sI (rI (sI (sI (sI S 400 t 1) 405 t 0) 406 t 0) q (fillN (aI (sI (sI (sI S 400 t 1) 405 t 0) 406 t 0) q) 20 0)) 404 t 0) 401 t 0) 402 t 0) 403 t 0) := ⟨_, rfl⟩
  refine J.eq (S' := S_9) eS_10.symm rfl rfl ?_
  have hm_11 : q ∈ hL S_9 := by rw [eS_10]; exact m_q
  have hk_12 : Kd S_9 q 14 := by rw [eS_10]; exact k_q
  have hn_13 : Ln S_9 q 20 := by rw [eS_10]; exact l_q
  have hm_14 : t ∈ hL S_9 := by rw [eS_10]; exact m_t
  have hk_15 : Kd S_9 t 4 := by rw [eS_10]; exact k_t
  have hv_16 : hI S_9 400 t = 1 := by rw [eS_10]; exact (rd_sIf (S := (sI (sI (sI (rI (sI (sI (sI S 400 t 1) 405 t 0) 406 t 0) q (fillN (aI (sI (sI (sI S 400 t 1) 405 t 0) 406 t 0) q) 20 0)) 404 t 0) 401 t 0) 402 t 0)) (g := 403) (a := t) (v := 0) (by decide) (rd_sIf (S := (sI (sI (rI (sI (sI (sI S 400 t 1) 405 t 0) 406 t 0) q (fillN (aI (sI (sI (sI S 400 t 1) 405 t 0) 406 t 0) q) 20 0)) 404 t 0) 401 t 0)) (g := 402) (a := t) (v := 0) (by decide) (rd_sIf (S := (sI (rI (sI (sI (sI S 400 t 1) 405 t 0) 406 t 0) q (fillN (aI (sI (sI (sI S 400 t 1) 405 t 0) 406 t 0) q) 20 0)) 404 t 0)) (g := 401) (a := t) (v := 0) (by decide) (rd_sIf (S := (rI (sI (sI (sI S 400 t 1) 405 t 0) 406 t 0) q (fillN (aI (sI (sI (sI S 400 t 1) 405 t 0) 406 t 0) q) 20 0))) (g := 404) (a := t) (v := 0) (by decide) (rd_sIf (S := (sI (sI S 400 t 1) 405 t 0)) (g := 406) (a := t) (v := 0) (by decide) (rd_sIf (S := (sI S 400 t 1)) (g := 405) (a := t) (v := 0) (by decide) (rd_sI (S := S) (g := 400) (a := t) (v := 1))))))))
  have hv_17 : hI S_9 401 t = 0 := by rw [eS_10]; exact (rd_sIf (S := (sI (sI (sI (rI (sI (sI (sI S 400 t 1) 405 t 0) 406 t 0) q (fillN (aI (sI (sI (sI S 400 t 1) 405 t 0) 406 t 0) q) 20 0)) 404 t 0) 401 t 0) 402 t 0)) (g := 403) (a := t) (v := 0) (by decide) (rd_sIf (S := (sI (sI (rI (sI (sI (sI S 400 t 1) 405 t 0) 406 t 0) q (fillN (aI (sI (sI (sI S 400 t 1) 405 t 0) 406 t 0) q) 20 0)) 404 t 0) 401 t 0)) (g := 402) (a := t) (v := 0) (by decide) (rd_sI (S := (sI (rI (sI (sI (sI S 400 t 1) 405 t 0) 406 t 0) q (fillN (aI (sI (sI (sI S 400 t 1) 405 t 0) 406 t 0) q) 20 0)) 404 t 0)) (g := 401) (a := t) (v := 0))))
  have hv_18 : hI S_9 402 t = 0 := by rw [eS_10]; exact (rd_sIf (S := (sI (sI (sI (rI (sI (sI (sI S 400 t 1) 405 t 0) 406 t 0) q (fillN (aI (sI (sI (sI S 400 t 1) 405 t 0) 406 t 0) q) 20 0)) 404 t 0) 401 t 0) 402 t 0)) (g := 403) (a := t) (v := 0) (by decide) (rd_sI (S := (sI (sI (rI (sI (sI (sI S 400 t 1) 405 t 0) 406 t 0) q (fillN (aI (sI (sI (sI S 400 t 1) 405 t 0) 406 t 0) q) 20 0)) 404 t 0) 401 t 0)) (g := 402) (a := t) (v := 0)))
  have hv_19 : hI S_9 403 t = 0 := by rw [eS_10]; exact (rd_sI (S := (sI (sI (sI (rI (sI (sI (sI S 400 t 1) 405 t 0) 406 t 0) q (fillN (aI (sI (sI (sI S 400 t 1) 405 t 0) 406 t 0) q) 20 0)) 404 t 0) 401 t 0) 402 t 0)) (g := 403) (a := t) (v := 0))
  have hv_20 : hI S_9 404 t = 0 := by rw [eS_10]; exact (rd_sIf (S := (sI (sI (sI (rI (sI (sI (sI S 400 t 1) 405 t 0) 406 t 0) q (fillN (aI (sI (sI (sI S 400 t 1) 405 t 0) 406 t 0) q) 20 0)) 404 t 0) 401 t 0) 402 t 0)) (g := 403) (a := t) (v := 0) (by decide) (rd_sIf (S := (sI (sI (rI (sI (sI (sI S 400 t 1) 405 t 0) 406 t 0) q (fillN (aI (sI (sI (sI S 400 t 1) 405 t 0) 406 t 0) q) 20 0)) 404 t 0) 401 t 0)) (g := 402) (a := t) (v := 0) (by decide) (rd_sIf (S := (sI (rI (sI (sI (sI S 400 t 1) 405 t 0) 406 t 0) q (fillN (aI (sI (sI (sI S 400 t 1) 405 t 0) 406 t 0) q) 20 0)) 404 t 0)) (g := 401) (a := t) (v := 0) (by decide) (rd_sI (S := (rI (sI (sI (sI S 400 t 1) 405 t 0) 406 t 0) q (fillN (aI (sI (sI (sI S 400 t 1) 405 t 0) 406 t 0) q) 20 0))) (g := 404) (a := t) (v := 0)))))
  have hv_21 : hI S_9 405 t = 0 := by rw [eS_10]; exact (rd_sIf (S := (sI (sI (sI (rI (sI (sI (sI S 400 t 1) 405 t 0) 406 t 0) q (fillN (aI (sI (sI (sI S 400 t 1) 405 t 0) 406 t 0) q) 20 0)) 404 t 0) 401 t 0) 402 t 0)) (g := 403) (a := t) (v := 0) (by decide) (rd_sIf (S := (sI (sI (rI (sI (sI (sI S 400 t 1) 405 t 0) 406 t 0) q (fillN (aI (sI (sI (sI S 400 t 1) 405 t 0) 406 t 0) q) 20 0)) 404 t 0) 401 t 0)) (g := 402) (a := t) (v := 0) (by decide) (rd_sIf (S := (sI (rI (sI (sI (sI S 400 t 1) 405 t 0) 406 t 0) q (fillN (aI (sI (sI (sI S 400 t 1) 405 t 0) 406 t 0) q) 20 0)) 404 t 0)) (g := 401) (a := t) (v := 0) (by decide) (rd_sIf (S := (rI (sI (sI (sI S 400 t 1) 405 t 0) 406 t 0) q (fillN (aI (sI (sI (sI S 400 t 1) 405 t 0) 406 t 0) q) 20 0))) (g := 404) (a := t) (v := 0) (by decide) (rd_sIf (S := (sI (sI S 400 t 1) 405 t 0)) (g := 406) (a := t) (v := 0) (by decide) (rd_sI (S := (sI S 400 t 1)) (g := 405) (a := t) (v := 0)))))))
  have hv_22 : hI S_9 406 t = 0 := by rw [eS_10]; exact (rd_sIf (S := (sI (sI (sI (rI (sI (sI (sI S 400 t 1) 405 t 0) 406 t 0) q (fillN (aI (sI (sI (sI S 400 t 1) 405 t 0) 406 t 0) q) 20 0)) 404 t 0) 401 t 0) 402 t 0)) (g := 403) (a := t) (v := 0) (by decide) (rd_sIf (S := (sI (sI (rI (sI (sI (sI S 400 t 1) 405 t 0) 406 t 0) q (fillN (aI (sI (sI (sI S 400 t 1) 405 t 0) 406 t 0) q) 20 0)) 404 t 0) 401 t 0)) (g := 402) (a := t) (v := 0) (by decide) (rd_sIf (S := (sI (rI (sI (sI (sI S 400 t 1) 405 t 0) 406 t 0) q (fillN (aI (sI (sI (sI S 400 t 1) 405 t 0) 406 t 0) q) 20 0)) 404 t 0)) (g := 401) (a := t) (v := 0) (by decide) (rd_sIf (S := (rI (sI (sI (sI S 400 t 1) 405 t 0) 406 t 0) q (fillN (aI (sI (sI (sI S 400 t 1) 405 t 0) 406 t 0) q) 20 0))) (g := 404) (a := t) (v := 0) (by decide) (rd_sI (S := (sI (sI S 400 t 1) 405 t 0)) (g := 406) (a := t) (v := 0))))))
  have hv_23 : hR S_9 407 t = (some q) := by rw [eS_10]; exact hR_407_t
  exact j_vret C M dX4_reset_24 (Nat.le_of_ble_eq_true rfl) (Nat.le_of_ble_eq_true rfl) (by subst eS_10; exact ⟨rfl, rfl⟩)

theorem dX2_firstWishes_0 : decode cX2_firstWishes 0 = .ok (.aload_n 0, 1) := by decide +kernel
theorem dX2_firstWishes_1 : decode cX2_firstWishes 1 = .ok (.iconst 0, 1) := by decide +kernel
theorem dX2_firstWishes_2 : decode cX2_firstWishes 2 = .ok (.invokestatic 52, 3) := by decide +kernel
theorem dX2_firstWishes_5 : decode cX2_firstWishes 5 = .ok (.aload_n 0, 1) := by decide +kernel
theorem dX2_firstWishes_6 : decode cX2_firstWishes 6 = .ok (.arraylength, 1) := by decide +kernel
theorem dX2_firstWishes_7 : decode cX2_firstWishes 7 = .ok (.bipush 8, 2) := by decide +kernel
theorem dX2_firstWishes_9 : decode cX2_firstWishes 9 = .ok (.if_icmp .lt 19, 3) := by decide +kernel
theorem dX2_firstWishes_12 : decode cX2_firstWishes 12 = .ok (.aload_n 0, 1) := by decide +kernel
theorem dX2_firstWishes_13 : decode cX2_firstWishes 13 = .ok (.iconst 2, 1) := by decide +kernel
theorem dX2_firstWishes_14 : decode cX2_firstWishes 14 = .ok (.sipush 720, 3) := by decide +kernel
theorem dX2_firstWishes_17 : decode cX2_firstWishes 17 = .ok (.iastore, 1) := by decide +kernel
theorem dX2_firstWishes_18 : decode cX2_firstWishes 18 = .ok (.aload_n 0, 1) := by decide +kernel
theorem dX2_firstWishes_19 : decode cX2_firstWishes 19 = .ok (.iconst 3, 1) := by decide +kernel
theorem dX2_firstWishes_20 : decode cX2_firstWishes 20 = .ok (.bipush 8, 2) := by decide +kernel
theorem dX2_firstWishes_22 : decode cX2_firstWishes 22 = .ok (.iastore, 1) := by decide +kernel
theorem dX2_firstWishes_23 : decode cX2_firstWishes 23 = .ok (.aload_n 0, 1) := by decide +kernel
theorem dX2_firstWishes_24 : decode cX2_firstWishes 24 = .ok (.bipush 7, 2) := by decide +kernel
theorem dX2_firstWishes_26 : decode cX2_firstWishes 26 = .ok (.iconst (-1), 1) := by decide +kernel
theorem dX2_firstWishes_27 : decode cX2_firstWishes 27 = .ok (.iastore, 1) := by decide +kernel
theorem dX2_firstWishes_28 : decode cX2_firstWishes 28 = .ok (.return_, 1) := by decide +kernel

set_option maxRecDepth 100000 in
set_option maxHeartbeats 4000000 in
theorem c_X2_firstWishes (S : Hp) (a : Nat) (m_a : a ∈ hL S) (k_a : Kd S a 14) (l_a : Ln S a 8) : Ct 2 yX2_firstWishes cX2_firstWishes 1 none 0 0 [.ref a] S (fun r S' => r = none ∧ S' = (tI (tI (tI (rI S a (fillN (aI S a) 8 0)) a 2 (720 : Int32)) a 3 (8 : Int32)) a 7 ((-1) : Int32))) := by
  refine ct_of (by decide) (Nat.le_of_ble_eq_true rfl) fun x hn9 C M hm9 => ?_
  have C : CB x RX2 cX2_firstWishes := C
  refine J.eq (lv' := [(0, .ref a)]) rfl rfl rfl ?_
  refine j_aload_n C dX2_firstWishes_0 rfl 0 rfl ?_
  refine j_iconst (v := 0) C dX2_firstWishes_1 (by decide) ?_
  refine j_callS C [.ref a, .int 0] [] mlX2_52 mcJ7_fill_53178 (c_J7_fill_53178 S a 8 0 m_a k_a l_a (by omega)) (M.rm (by decide) (by decide) (Nat.le_of_ble_eq_true rfl) (Nat.le_of_ble_eq_true rfl)) rfl rfl (Nat.le_of_ble_eq_true rfl) dX2_firstWishes_2 (fun r_1 S_2 hp_3 => ?_)
  obtain ⟨rfl, e_4⟩ := hp_3
  refine J.eq (S' := (rI S a (fillN (aI S a) 8 0))) (st' := []) (lv' := [(0, .ref a)]) e_4 rfl rfl ?_
  refine j_aload_n C dX2_firstWishes_5 rfl 0 rfl ?_
  refine j_alen (v := 8) C dX2_firstWishes_6 m_a k_a (by decide) (by decide) (len_of (n := 8) l_a (by decide)) ?_
  refine j_bipush (v := 8) C dX2_firstWishes_7 (by decide) ?_
  refine j_ic_lt (tgt := 28) C dX2_firstWishes_9 (by decide) (fun c9 => absurd c9 (by decide)) (fun c9 => ?_)
  refine j_aload_n C dX2_firstWishes_12 rfl 0 rfl ?_
  show J _ _ _ _ _ 13 _
  refine j_iconst (v := 2) C dX2_firstWishes_13 (by decide) ?_
  refine j_sipush (v := 720) C dX2_firstWishes_14 (by decide) ?_
  refine j_iast (j := 2) C dX2_firstWishes_17 m_a k_a (inr_of (n := 8) l_a (vp_lit (by decide))) (by decide) ?_
  refine j_aload_n C dX2_firstWishes_18 rfl 0 rfl ?_
  refine j_iconst (v := 3) C dX2_firstWishes_19 (by decide) ?_
  refine j_bipush (v := 8) C dX2_firstWishes_20 (by decide) ?_
  refine j_iast (j := 3) C dX2_firstWishes_22 m_a k_a (inr_of (n := 8) l_a (vp_lit (by decide))) (by decide) ?_
  refine j_aload_n C dX2_firstWishes_23 rfl 0 rfl ?_
  show J _ _ _ _ _ 24 _
  refine j_bipush (v := 7) C dX2_firstWishes_24 (by decide) ?_
  refine j_iconst (v := (-1)) C dX2_firstWishes_26 (by decide) ?_
  refine j_iast (j := 7) C dX2_firstWishes_27 m_a k_a (inr_of (n := 8) l_a (vp_lit (by decide))) (by decide) ?_
  exact j_vret C M dX2_firstWishes_28 (Nat.le_of_ble_eq_true rfl) (Nat.le_of_ble_eq_true rfl) ⟨rfl, rfl⟩
