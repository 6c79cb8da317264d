theorem dX2_remove_0 : decode cX2_remove 0 = .ok (.aload_n 0, 1) := by decide +kernel
theorem dX2_remove_1 : decode cX2_remove 1 = .ok (.iconst 0, 1) := by decide +kernel
theorem dX2_remove_2 : decode cX2_remove 2 = .ok (.putfield 94, 3) := by decide +kernel
theorem dX2_remove_5 : decode cX2_remove 5 = .ok (.aload_n 0, 1) := by decide +kernel
theorem dX2_remove_6 : decode cX2_remove 6 = .ok (.getfield 14, 3) := by decide +kernel
theorem dX2_remove_9 : decode cX2_remove 9 = .ok (.iload_n 1, 1) := by decide +kernel
theorem dX2_remove_10 : decode cX2_remove 10 = .ok (.invokevirtual 58, 3) := by decide +kernel
theorem dX2_remove_13 : decode cX2_remove 13 = .ok (.ifCond .eq 32, 3) := by decide +kernel
theorem dX2_remove_16 : decode cX2_remove 16 = .ok (.iconst 0, 1) := by decide +kernel
theorem dX2_remove_17 : decode cX2_remove 17 = .ok (.istore_n 2, 1) := by decide +kernel
theorem dX2_remove_18 : decode cX2_remove 18 = .ok (.iload_n 2, 1) := by decide +kernel
theorem dX2_remove_19 : decode cX2_remove 19 = .ok (.sipush 256, 3) := by decide +kernel
theorem dX2_remove_22 : decode cX2_remove 22 = .ok (.if_icmp .ge 15, 3) := by decide +kernel
theorem dX2_remove_25 : decode cX2_remove 25 = .ok (.aload_n 0, 1) := by decide +kernel
theorem dX2_remove_26 : decode cX2_remove 26 = .ok (.iload_n 1, 1) := by decide +kernel
theorem dX2_remove_27 : decode cX2_remove 27 = .ok (.iload_n 2, 1) := by decide +kernel
theorem dX2_remove_28 : decode cX2_remove 28 = .ok (.invokevirtual 98, 3) := by decide +kernel
theorem dX2_remove_31 : decode cX2_remove 31 = .ok (.iinc 2 1, 3) := by decide +kernel
theorem dX2_remove_34 : decode cX2_remove 34 = .ok (.goto (-16), 3) := by decide +kernel
theorem dX2_remove_37 : decode cX2_remove 37 = .ok (.aload_n 0, 1) := by decide +kernel
theorem dX2_remove_38 : decode cX2_remove 38 = .ok (.getfield 14, 3) := by decide +kernel
theorem dX2_remove_41 : decode cX2_remove 41 = .ok (.iload_n 1, 1) := by decide +kernel
theorem dX2_remove_42 : decode cX2_remove 42 = .ok (.invokevirtual 102, 3) := by decide +kernel
theorem dX2_remove_45 : decode cX2_remove 45 = .ok (.return_, 1) := by decide +kernel
set_option maxRecDepth 100000 in
set_option maxHeartbeats 4000000 in
theorem c_X2_remove (S : Hp) (h : Nat) (hm : h ∈ hL S) (hk : hK S h = 2) (s : Nat) (rs : hR S 200 h = some s) (ms : s ∈ hL S) (ks : Kd S s 8) (q : Nat) (rq : hR S 800 s = some q) (mq : q ∈ hL S) (kq : Kd S q 14) (lq : Ln S q 16) (zq : ∀ j, aI S q j = 0) (f0 : Int32) : Ct 2 yX2_remove cX2_remove 3 none 0 0 [.ref h, .int f0] S (fun r S' => r = none ∧ Fm (fun f9 b9 => (f9 = 209 ∧ b9 = h)) (fun _ _ => False) (fun _ => False) S S') := by
  refine ct_of (by decide) (Nat.le_of_ble_eq_true rfl) fun x hn9 C M hm9 => ?_
  have C : CB x RX2 cX2_remove := C
  refine J.eq (lv' := [(0, .ref h), (1, .int f0)]) rfl rfl rfl ?_
  refine j_aload_n C dX2_remove_0 rfl 0 rfl ?_
  refine j_iconst (v := 0) C dX2_remove_1 (by decide) ?_
  refine j_putz (f := 209) C flX2_94 (by decide) rfl rfl (by decide) dX2_remove_2 hm hk rfl ?_
  refine j_aload_n C dX2_remove_5 rfl 0 rfl ?_
  refine j_getr (f := 200) (v := s) C flX2_14 dX2_remove_6 hm hk (by decide) rfl rs ?_
  refine j_iload_n C dX2_remove_9 rfl 1 rfl ?_
  have hf_1 : Fm (fun f9 b9 => (f9 = 209 ∧ b9 = h)) (fun _ _ => False) (fun _ => False) S (sI S 209 h 0) := ((Fm.refl (WI := (fun f9 b9 => (f9 = 209 ∧ b9 = h))) (WR := (fun _ _ => False)) (WA := (fun _ => False))).sI _ (fun _ => ⟨rfl, rfl⟩))
  refine j_callV (ci := 8) C [.int f0] [] mlX2_58 mcX8_has (c_X8_has (sI S 209 h 0) s ms ks q rq mq kq lq zq f0) ms ks rfl (M.rm (by decide) (by decide) (Nat.le_of_ble_eq_true rfl) (Nat.le_of_ble_eq_true rfl)) rfl rfl (Nat.le_of_ble_eq_true rfl) dX2_remove_10 (fun r_2 S_3 hp_4 => ?_)
  obtain ⟨rfl, hf_5⟩ := hp_4
  refine J.eq (st' := [.int 0]) rfl rfl rfl ?_
  have hz_6 : ∀ j, aI S_3 q j = 0 := fun j9 => (hf_5.ai mq (fun h9 => h9) j9).trans (zq j9)
  have hm_7 : h ∈ hL S_3 := hf_5.mem hm
  have hk_8 : Kd S_3 h 2 := hf_5.kd hm hk
  have hm_9 : q ∈ hL S_3 := hf_5.mem mq
  have hk_10 : Kd S_3 q 14 := hf_5.kd mq kq
  have hn_11 : Ln S_3 q 16 := hf_5.ln mq lq
  have hm_12 : s ∈ hL S_3 := hf_5.mem ms
  have hk_13 : Kd S_3 s 8 := hf_5.kd ms ks
  have hv_14 : hI S_3 209 h = 0 := hf_5.fi hm (fun h9 => h9) (rd_sI (S := S) (g := 209) (a := h) (v := 0))
  have hv_15 : hR S_3 200 h = (some s) := hf_5.fr hm (fun h9 => h9) rs
  have hv_16 : hR S_3 800 s = (some q) := hf_5.fr ms (fun h9 => h9) rq
  have hf_17 : Fm (fun f9 b9 => (f9 = 209 ∧ b9 = h)) (fun _ _ => False) (fun _ => False) S S_3 := hf_1.then hf_5 (fun a9 ha9 => ⟨(fun f9 h9 => h9.elim), (fun f9 h9 => h9.elim), (fun h9 => h9.elim)⟩)
  refine j_if_eq (tgt := 45) C dX2_remove_13 (by decide) (fun c9 => ?_) (fun c9 => absurd (by decide) c9)
  show J _ _ _ _ _ 45 _
  exact j_vret C M dX2_remove_45 (Nat.le_of_ble_eq_true rfl) (Nat.le_of_ble_eq_true rfl) ⟨rfl, hf_17⟩

theorem dX2_removeMany_0 : decode cX2_removeMany 0 = .ok (.iconst 0, 1) := by decide +kernel
theorem dX2_removeMany_1 : decode cX2_removeMany 1 = .ok (.istore_n 2, 1) := by decide +kernel
theorem dX2_removeMany_2 : decode cX2_removeMany 2 = .ok (.iload_n 2, 1) := by decide +kernel
theorem dX2_removeMany_3 : decode cX2_removeMany 3 = .ok (.bipush 16, 2) := by decide +kernel
theorem dX2_removeMany_5 : decode cX2_removeMany 5 = .ok (.if_icmp .ge 29, 3) := by decide +kernel
theorem dX2_removeMany_8 : decode cX2_removeMany 8 = .ok (.iload_n 1, 1) := by decide +kernel
theorem dX2_removeMany_9 : decode cX2_removeMany 9 = .ok (.ifCond .eq 14, 3) := by decide +kernel
theorem dX2_removeMany_12 : decode cX2_removeMany 12 = .ok (.aload_n 0, 1) := by decide +kernel
theorem dX2_removeMany_13 : decode cX2_removeMany 13 = .ok (.getfield 14, 3) := by decide +kernel
theorem dX2_removeMany_16 : decode cX2_removeMany 16 = .ok (.iload_n 2, 1) := by decide +kernel
theorem dX2_removeMany_17 : decode cX2_removeMany 17 = .ok (.invokevirtual 103, 3) := by decide +kernel
theorem dX2_removeMany_20 : decode cX2_removeMany 20 = .ok (.ifCond .eq 8, 3) := by decide +kernel
theorem dX2_removeMany_23 : decode cX2_removeMany 23 = .ok (.aload_n 0, 1) := by decide +kernel
theorem dX2_removeMany_24 : decode cX2_removeMany 24 = .ok (.iload_n 2, 1) := by decide +kernel
theorem dX2_removeMany_25 : decode cX2_removeMany 25 = .ok (.invokevirtual 73, 3) := by decide +kernel
theorem dX2_removeMany_28 : decode cX2_removeMany 28 = .ok (.iinc 2 1, 3) := by decide +kernel
theorem dX2_removeMany_31 : decode cX2_removeMany 31 = .ok (.goto (-29), 3) := by decide +kernel
theorem dX2_removeMany_34 : decode cX2_removeMany 34 = .ok (.return_, 1) := by decide +kernel
set_option maxRecDepth 100000 in
set_option maxHeartbeats 4000000 in
theorem c_X2_removeMany (S : Hp) (h : Nat) (hm : h ∈ hL S) (hk : hK S h = 2) (s : Nat) (rs : hR S 200 h = some s) (ms : s ∈ hL S) (ks : Kd S s 8) (q : Nat) (rq : hR S 800 s = some q) (mq : q ∈ hL S) (kq : Kd S q 14) (lq : Ln S q 16) (zq : ∀ j, aI S q j = 0) : Ct 3 yX2_removeMany cX2_removeMany 3 none 0 0 [.ref h, .int 0] S (fun r S' => r = none ∧ Fm (fun f9 b9 => (f9 = 209 ∧ b9 = h)) (fun _ _ => False) (fun _ => False) S S') := by
  refine ct_of (by decide) (Nat.le_of_ble_eq_true rfl) fun x hn9 C M hm9 => ?_
  have C : CB x RX2 cX2_removeMany := C
  refine J.eq (lv' := [(0, .ref h), (1, .int 0)]) rfl rfl rfl ?_
  refine j_iconst (v := 0) C dX2_removeMany_0 (by decide) ?_
  refine j_istore_n (lv' := [(2, .int 0), (0, .ref h), (1, .int 0)]) C dX2_removeMany_1 rfl (by rw [hn9]; decide) rfl ?_
  refine j_iload_n C dX2_removeMany_2 rfl 0 rfl ?_
  refine j_bipush (v := 16) C dX2_removeMany_3 (by decide) ?_
  refine j_ic_ge (tgt := 34) C dX2_removeMany_5 (by decide) (fun c9 => absurd c9 (by decide)) (fun c9 => ?_)
  refine j_iload_n C dX2_removeMany_8 rfl 2 rfl ?_
  refine j_if_eq (tgt := 23) C dX2_removeMany_9 (by decide) (fun c9 => ?_) (fun c9 => absurd (by decide) c9)
  refine j_aload_n C dX2_removeMany_23 rfl 1 rfl ?_
  show J _ _ _ _ _ 24 _
  refine j_iload_n C dX2_removeMany_24 rfl 0 rfl ?_
  refine j_callV (ci := 2) C [.int 0] [] mlX2_73 mcX2_remove (c_X2_remove S h hm hk s rs ms ks q rq mq kq lq zq 0) hm hk rfl (M.rm (by decide) (by decide) (Nat.le_of_ble_eq_true rfl) (Nat.le_of_ble_eq_true rfl)) rfl rfl (Nat.le_of_ble_eq_true rfl) dX2_removeMany_25 (fun r_1 S_2 hp_3 => ?_)
  obtain ⟨rfl, hf_4⟩ := hp_3
  refine J.eq (st' := []) rfl rfl rfl ?_
  have hz_5 : ∀ j, aI S_2 q j = 0 := fun j9 => (hf_4.ai mq (fun h9 => h9) j9).trans (zq j9)
  have hm_6 : h ∈ hL S_2 := hf_4.mem hm
  have hk_7 : Kd S_2 h 2 := hf_4.kd hm hk
  have hm_8 : q ∈ hL S_2 := hf_4.mem mq
  have hk_9 : Kd S_2 q 14 := hf_4.kd mq kq
  have hn_10 : Ln S_2 q 16 := hf_4.ln mq lq
  have hm_11 : s ∈ hL S_2 := hf_4.mem ms
  have hk_12 : Kd S_2 s 8 := hf_4.kd ms ks
  have hv_13 : hR S_2 200 h = (some s) := hf_4.fr hm (fun h9 => h9) rs
  have hv_14 : hR S_2 800 s = (some q) := hf_4.fr ms (fun h9 => h9) rq
  have hf_15 : Fm (fun f9 b9 => (f9 = 209 ∧ b9 = h)) (fun _ _ => False) (fun _ => False) S S_2 := (Fm.refl (WI := (fun f9 b9 => (f9 = 209 ∧ b9 = h))) (WR := (fun _ _ => False)) (WA := (fun _ => False))).then hf_4 (fun a9 ha9 => ⟨(fun f9 h9 => (fun h8 => h8) h9), (fun f9 h9 => h9.elim), (fun h9 => h9.elim)⟩)
  refine j_iinc (q := 0) (v := 1) (lv' := [(2, .int 1), (0, .ref h), (1, .int 0)]) C dX2_removeMany_28 rfl (by decide) (by rw [hn9]; decide) rfl ?_
  refine j_goto (tgt := 2) C dX2_removeMany_31 (by decide) ?_
  refine j_iload_n C dX2_removeMany_2 rfl 0 rfl ?_
  refine j_bipush (v := 16) C dX2_removeMany_3 (by decide) ?_
  refine j_ic_ge (tgt := 34) C dX2_removeMany_5 (by decide) (fun c9 => absurd c9 (by decide)) (fun c9 => ?_)
  refine j_iload_n C dX2_removeMany_8 rfl 2 rfl ?_
  show J _ _ _ _ _ 9 _
  refine j_if_eq (tgt := 23) C dX2_removeMany_9 (by decide) (fun c9 => ?_) (fun c9 => absurd (by decide) c9)
  refine j_aload_n C dX2_removeMany_23 rfl 1 rfl ?_
  refine j_iload_n C dX2_removeMany_24 rfl 0 rfl ?_
  refine j_callV (ci := 2) C [.int 1] [] mlX2_73 mcX2_remove (c_X2_remove S_2 h hm_6 hk_7 s hv_13 hm_11 hk_12 q hv_14 hm_8 hk_9 hn_10 hz_5 1) hm_6 hk_7 rfl (M.rm (by decide) (by decide) (Nat.le_of_ble_eq_true rfl) (Nat.le_of_ble_eq_true rfl)) rfl rfl (Nat.le_of_ble_eq_true rfl) dX2_removeMany_25 (fun r_16 S_17 hp_18 => ?_)
  obtain ⟨rfl, hf_19⟩ := hp_18
  refine J.eq (st' := []) rfl rfl rfl ?_
  have hz_20 : ∀ j, aI S_17 q j = 0 := fun j9 => (hf_19.ai hm_8 (fun h9 => h9) j9).trans (hz_5 j9)
  have hm_21 : h ∈ hL S_17 := hf_19.mem hm_6
  have hk_22 : Kd S_17 h 2 := hf_19.kd hm_6 hk_7
  have hm_23 : q ∈ hL S_17 := hf_19.mem hm_8
  have hk_24 : Kd S_17 q 14 := hf_19.kd hm_8 hk_9
  have hn_25 : Ln S_17 q 16 := hf_19.ln hm_8 hn_10
  have hm_26 : s ∈ hL S_17 := hf_19.mem hm_11
  have hk_27 : Kd S_17 s 8 := hf_19.kd hm_11 hk_12
  have hv_28 : hR S_17 200 h = (some s) := hf_19.fr hm_6 (fun h9 => h9) hv_13
  have hv_29 : hR S_17 800 s = (some q) := hf_19.fr hm_11 (fun h9 => h9) hv_14
  have hf_30 : Fm (fun f9 b9 => (f9 = 209 ∧ b9 = h)) (fun _ _ => False) (fun _ => False) S S_17 := hf_15.then hf_19 (fun a9 ha9 => ⟨(fun f9 h9 => (fun h8 => h8) h9), (fun f9 h9 => h9.elim), (fun h9 => h9.elim)⟩)
  refine j_iinc (q := 0) (v := 2) (lv' := [(2, .int 2), (0, .ref h), (1, .int 0)]) C dX2_removeMany_28 rfl (by decide) (by rw [hn9]; decide) rfl ?_
  refine j_goto (tgt := 2) C dX2_removeMany_31 (by decide) ?_
  refine j_iload_n C dX2_removeMany_2 rfl 0 rfl ?_
  refine j_bipush (v := 16) C dX2_removeMany_3 (by decide) ?_
  show J _ _ _ _ _ 5 _
  refine j_ic_ge (tgt := 34) C dX2_removeMany_5 (by decide) (fun c9 => absurd c9 (by decide)) (fun c9 => ?_)
  refine j_iload_n C dX2_removeMany_8 rfl 2 rfl ?_
  refine j_if_eq (tgt := 23) C dX2_removeMany_9 (by decide) (fun c9 => ?_) (fun c9 => absurd (by decide) c9)
  refine j_aload_n C dX2_removeMany_23 rfl 1 rfl ?_
  refine j_iload_n C dX2_removeMany_24 rfl 0 rfl ?_
  refine j_callV (ci := 2) C [.int 2] [] mlX2_73 mcX2_remove (c_X2_remove S_17 h hm_21 hk_22 s hv_28 hm_26 hk_27 q hv_29 hm_23 hk_24 hn_25 hz_20 2) hm_21 hk_22 rfl (M.rm (by decide) (by decide) (Nat.le_of_ble_eq_true rfl) (Nat.le_of_ble_eq_true rfl)) rfl rfl (Nat.le_of_ble_eq_true rfl) dX2_removeMany_25 (fun r_31 S_32 hp_33 => ?_)
  obtain ⟨rfl, hf_34⟩ := hp_33
  refine J.eq (st' := []) rfl rfl rfl ?_
  have hz_35 : ∀ j, aI S_32 q j = 0 := fun j9 => (hf_34.ai hm_23 (fun h9 => h9) j9).trans (hz_20 j9)
  have hm_36 : h ∈ hL S_32 := hf_34.mem hm_21
  have hk_37 : Kd S_32 h 2 := hf_34.kd hm_21 hk_22
  have hm_38 : q ∈ hL S_32 := hf_34.mem hm_23
  have hk_39 : Kd S_32 q 14 := hf_34.kd hm_23 hk_24
  have hn_40 : Ln S_32 q 16 := hf_34.ln hm_23 hn_25
  have hm_41 : s ∈ hL S_32 := hf_34.mem hm_26
  have hk_42 : Kd S_32 s 8 := hf_34.kd hm_26 hk_27
  have hv_43 : hR S_32 200 h = (some s) := hf_34.fr hm_21 (fun h9 => h9) hv_28
  have hv_44 : hR S_32 800 s = (some q) := hf_34.fr hm_26 (fun h9 => h9) hv_29
  have hf_45 : Fm (fun f9 b9 => (f9 = 209 ∧ b9 = h)) (fun _ _ => False) (fun _ => False) S S_32 := hf_30.then hf_34 (fun a9 ha9 => ⟨(fun f9 h9 => (fun h8 => h8) h9), (fun f9 h9 => h9.elim), (fun h9 => h9.elim)⟩)
  refine j_iinc (q := 0) (v := 3) (lv' := [(2, .int 3), (0, .ref h), (1, .int 0)]) C dX2_removeMany_28 rfl (by decide) (by rw [hn9]; decide) rfl ?_
  refine j_goto (tgt := 2) C dX2_removeMany_31 (by decide) ?_
  show J _ _ _ _ _ 2 _
  refine j_iload_n C dX2_removeMany_2 rfl 0 rfl ?_
  refine j_bipush (v := 16) C dX2_removeMany_3 (by decide) ?_
  refine j_ic_ge (tgt := 34) C dX2_removeMany_5 (by decide) (fun c9 => absurd c9 (by decide)) (fun c9 => ?_)
  refine j_iload_n C dX2_removeMany_8 rfl 2 rfl ?_
  refine j_if_eq (tgt := 23) C dX2_removeMany_9 (by decide) (fun c9 => ?_) (fun c9 => absurd (by decide) c9)
  refine j_aload_n C dX2_removeMany_23 rfl 1 rfl ?_
  refine j_iload_n C dX2_removeMany_24 rfl 0 rfl ?_
  refine j_callV (ci := 2) C [.int 3] [] mlX2_73 mcX2_remove (c_X2_remove S_32 h hm_36 hk_37 s hv_43 hm_41 hk_42 q hv_44 hm_38 hk_39 hn_40 hz_35 3) hm_36 hk_37 rfl (M.rm (by decide) (by decide) (Nat.le_of_ble_eq_true rfl) (Nat.le_of_ble_eq_true rfl)) rfl rfl (Nat.le_of_ble_eq_true rfl) dX2_removeMany_25 (fun r_46 S_47 hp_48 => ?_)
  obtain ⟨rfl, hf_49⟩ := hp_48
  refine J.eq (st' := []) rfl rfl rfl ?_
  have hz_50 : ∀ j, aI S_47 q j = 0 := fun j9 => (hf_49.ai hm_38 (fun h9 => h9) j9).trans (hz_35 j9)
  have hm_51 : h ∈ hL S_47 := hf_49.mem hm_36
  have hk_52 : Kd S_47 h 2 := hf_49.kd hm_36 hk_37
  have hm_53 : q ∈ hL S_47 := hf_49.mem hm_38
  have hk_54 : Kd S_47 q 14 := hf_49.kd hm_38 hk_39
  have hn_55 : Ln S_47 q 16 := hf_49.ln hm_38 hn_40
  have hm_56 : s ∈ hL S_47 := hf_49.mem hm_41
  have hk_57 : Kd S_47 s 8 := hf_49.kd hm_41 hk_42
  have hv_58 : hR S_47 200 h = (some s) := hf_49.fr hm_36 (fun h9 => h9) hv_43
  have hv_59 : hR S_47 800 s = (some q) := hf_49.fr hm_41 (fun h9 => h9) hv_44
  have hf_60 : Fm (fun f9 b9 => (f9 = 209 ∧ b9 = h)) (fun _ _ => False) (fun _ => False) S S_47 := hf_45.then hf_49 (fun a9 ha9 => ⟨(fun f9 h9 => (fun h8 => h8) h9), (fun f9 h9 => h9.elim), (fun h9 => h9.elim)⟩)
  show J _ _ _ _ _ 28 _
  refine j_iinc (q := 0) (v := 4) (lv' := [(2, .int 4), (0, .ref h), (1, .int 0)]) C dX2_removeMany_28 rfl (by decide) (by rw [hn9]; decide) rfl ?_
  refine j_goto (tgt := 2) C dX2_removeMany_31 (by decide) ?_
  refine j_iload_n C dX2_removeMany_2 rfl 0 rfl ?_
  refine j_bipush (v := 16) C dX2_removeMany_3 (by decide) ?_
  refine j_ic_ge (tgt := 34) C dX2_removeMany_5 (by decide) (fun c9 => absurd c9 (by decide)) (fun c9 => ?_)
  refine j_iload_n C dX2_removeMany_8 rfl 2 rfl ?_
  refine j_if_eq (tgt := 23) C dX2_removeMany_9 (by decide) (fun c9 => ?_) (fun c9 => absurd (by decide) c9)
  refine j_aload_n C dX2_removeMany_23 rfl 1 rfl ?_
  show J _ _ _ _ _ 24 _
  refine j_iload_n C dX2_removeMany_24 rfl 0 rfl ?_
  refine j_callV (ci := 2) C [.int 4] [] mlX2_73 mcX2_remove (c_X2_remove S_47 h hm_51 hk_52 s hv_58 hm_56 hk_57 q hv_59 hm_53 hk_54 hn_55 hz_50 4) hm_51 hk_52 rfl (M.rm (by decide) (by decide) (Nat.le_of_ble_eq_true rfl) (Nat.le_of_ble_eq_true rfl)) rfl rfl (Nat.le_of_ble_eq_true rfl) dX2_removeMany_25 (fun r_61 S_62 hp_63 => ?_)
  obtain ⟨rfl, hf_64⟩ := hp_63
  refine J.eq (st' := []) rfl rfl rfl ?_
  have hz_65 : ∀ j, aI S_62 q j = 0 := fun j9 => (hf_64.ai hm_53 (fun h9 => h9) j9).trans (hz_50 j9)
  have hm_66 : h ∈ hL S_62 := hf_64.mem hm_51
  have hk_67 : Kd S_62 h 2 := hf_64.kd hm_51 hk_52
  have hm_68 : q ∈ hL S_62 := hf_64.mem hm_53
  have hk_69 : Kd S_62 q 14 := hf_64.kd hm_53 hk_54
  have hn_70 : Ln S_62 q 16 := hf_64.ln hm_53 hn_55
  have hm_71 : s ∈ hL S_62 := hf_64.mem hm_56
  have hk_72 : Kd S_62 s 8 := hf_64.kd hm_56 hk_57
  have hv_73 : hR S_62 200 h = (some s) := hf_64.fr hm_51 (fun h9 => h9) hv_58
  have hv_74 : hR S_62 800 s = (some q) := hf_64.fr hm_56 (fun h9 => h9) hv_59
  have hf_75 : Fm (fun f9 b9 => (f9 = 209 ∧ b9 = h)) (fun _ _ => False) (fun _ => False) S S_62 := hf_60.then hf_64 (fun a9 ha9 => ⟨(fun f9 h9 => (fun h8 => h8) h9), (fun f9 h9 => h9.elim), (fun h9 => h9.elim)⟩)
  refine j_iinc (q := 0) (v := 5) (lv' := [(2, .int 5), (0, .ref h), (1, .int 0)]) C dX2_removeMany_28 rfl (by decide) (by rw [hn9]; decide) rfl ?_
  refine j_goto (tgt := 2) C dX2_removeMany_31 (by decide) ?_
  refine j_iload_n C dX2_removeMany_2 rfl 0 rfl ?_
  refine j_bipush (v := 16) C dX2_removeMany_3 (by decide) ?_
  refine j_ic_ge (tgt := 34) C dX2_removeMany_5 (by decide) (fun c9 => absurd c9 (by decide)) (fun c9 => ?_)
  refine j_iload_n C dX2_removeMany_8 rfl 2 rfl ?_
  show J _ _ _ _ _ 9 _
  refine j_if_eq (tgt := 23) C dX2_removeMany_9 (by decide) (fun c9 => ?_) (fun c9 => absurd (by decide) c9)
  refine j_aload_n C dX2_removeMany_23 rfl 1 rfl ?_
  refine j_iload_n C dX2_removeMany_24 rfl 0 rfl ?_
  refine j_callV (ci := 2) C [.int 5] [] mlX2_73 mcX2_remove (c_X2_remove S_62 h hm_66 hk_67 s hv_73 hm_71 hk_72 q hv_74 hm_68 hk_69 hn_70 hz_65 5) hm_66 hk_67 rfl (M.rm (by decide) (by decide) (Nat.le_of_ble_eq_true rfl) (Nat.le_of_ble_eq_true rfl)) rfl rfl (Nat.le_of_ble_eq_true rfl) dX2_removeMany_25 (fun r_76 S_77 hp_78 => ?_)
  obtain ⟨rfl, hf_79⟩ := hp_78
  refine J.eq (st' := []) rfl rfl rfl ?_
  have hz_80 : ∀ j, aI S_77 q j = 0 := fun j9 => (hf_79.ai hm_68 (fun h9 => h9) j9).trans (hz_65 j9)
  have hm_81 : h ∈ hL S_77 := hf_79.mem hm_66
  have hk_82 : Kd S_77 h 2 := hf_79.kd hm_66 hk_67
  have hm_83 : q ∈ hL S_77 := hf_79.mem hm_68
  have hk_84 : Kd S_77 q 14 := hf_79.kd hm_68 hk_69
  have hn_85 : Ln S_77 q 16 := hf_79.ln hm_68 hn_70
  have hm_86 : s ∈ hL S_77 := hf_79.mem hm_71
  have hk_87 : Kd S_77 s 8 := hf_79.kd hm_71 hk_72
  have hv_88 : hR S_77 200 h = (some s) := hf_79.fr hm_66 (fun h9 => h9) hv_73
  have hv_89 : hR S_77 800 s = (some q) := hf_79.fr hm_71 (fun h9 => h9) hv_74
  have hf_90 : Fm (fun f9 b9 => (f9 = 209 ∧ b9 = h)) (fun _ _ => False) (fun _ => False) S S_77 := hf_75.then hf_79 (fun a9 ha9 => ⟨(fun f9 h9 => (fun h8 => h8) h9), (fun f9 h9 => h9.elim), (fun h9 => h9.elim)⟩)
  refine j_iinc (q := 0) (v := 6) (lv' := [(2, .int 6), (0, .ref h), (1, .int 0)]) C dX2_removeMany_28 rfl (by decide) (by rw [hn9]; decide) rfl ?_
  refine j_goto (tgt := 2) C dX2_removeMany_31 (by decide) ?_
  refine j_iload_n C dX2_removeMany_2 rfl 0 rfl ?_
  refine j_bipush (v := 16) C dX2_removeMany_3 (by decide) ?_
  show J _ _ _ _ _ 5 _
  refine j_ic_ge (tgt := 34) C dX2_removeMany_5 (by decide) (fun c9 => absurd c9 (by decide)) (fun c9 => ?_)
  refine j_iload_n C dX2_removeMany_8 rfl 2 rfl ?_
  refine j_if_eq (tgt := 23) C dX2_removeMany_9 (by decide) (fun c9 => ?_) (fun c9 => absurd (by decide) c9)
  refine j_aload_n C dX2_removeMany_23 rfl 1 rfl ?_
  refine j_iload_n C dX2_removeMany_24 rfl 0 rfl ?_
  refine j_callV (ci := 2) C [.int 6] [] mlX2_73 mcX2_remove (c_X2_remove S_77 h hm_81 hk_82 s hv_88 hm_86 hk_87 q hv_89 hm_83 hk_84 hn_85 hz_80 6) hm_81 hk_82 rfl (M.rm (by decide) (by decide) (Nat.le_of_ble_eq_true rfl) (Nat.le_of_ble_eq_true rfl)) rfl rfl (Nat.le_of_ble_eq_true rfl) dX2_removeMany_25 (fun r_91 S_92 hp_93 => ?_)
  obtain ⟨rfl, hf_94⟩ := hp_93
  refine J.eq (st' := []) rfl rfl rfl ?_
  have hz_95 : ∀ j, aI S_92 q j = 0 := fun j9 => (hf_94.ai hm_83 (fun h9 => h9) j9).trans (hz_80 j9)
  have hm_96 : h ∈ hL S_92 := hf_94.mem hm_81
  have hk_97 : Kd S_92 h 2 := hf_94.kd hm_81 hk_82
  have hm_98 : q ∈ hL S_92 := hf_94.mem hm_83
  have hk_99 : Kd S_92 q 14 := hf_94.kd hm_83 hk_84
  have hn_100 : Ln S_92 q 16 := hf_94.ln hm_83 hn_85
  have hm_101 : s ∈ hL S_92 := hf_94.mem hm_86
  have hk_102 : Kd S_92 s 8 := hf_94.kd hm_86 hk_87
  have hv_103 : hR S_92 200 h = (some s) := hf_94.fr hm_81 (fun h9 => h9) hv_88
  have hv_104 : hR S_92 800 s = (some q) := hf_94.fr hm_86 (fun h9 => h9) hv_89
  have hf_105 : Fm (fun f9 b9 => (f9 = 209 ∧ b9 = h)) (fun _ _ => False) (fun _ => False) S S_92 := hf_90.then hf_94 (fun a9 ha9 => ⟨(fun f9 h9 => (fun h8 => h8) h9), (fun f9 h9 => h9.elim), (fun h9 => h9.elim)⟩)
  refine j_iinc (q := 0) (v := 7) (lv' := [(2, .int 7), (0, .ref h), (1, .int 0)]) C dX2_removeMany_28 rfl (by decide) (by rw [hn9]; decide) rfl ?_
  refine j_goto (tgt := 2) C dX2_removeMany_31 (by decide) ?_
  show J _ _ _ _ _ 2 _
  refine j_iload_n C dX2_removeMany_2 rfl 0 rfl ?_
  refine j_bipush (v := 16) C dX2_removeMany_3 (by decide) ?_
  refine j_ic_ge (tgt := 34) C dX2_removeMany_5 (by decide) (fun c9 => absurd c9 (by decide)) (fun c9 => ?_)
  refine j_iload_n C dX2_removeMany_8 rfl 2 rfl ?_
  refine j_if_eq (tgt := 23) C dX2_removeMany_9 (by decide) (fun c9 => ?_) (fun c9 => absurd (by decide) c9)
  refine j_aload_n C dX2_removeMany_23 rfl 1 rfl ?_
  refine j_iload_n C dX2_removeMany_24 rfl 0 rfl ?_
  refine j_callV (ci := 2) C [.int 7] [] mlX2_73 mcX2_remove (c_X2_remove S_92 h hm_96 hk_97 s hv_103 hm_101 hk_102 q hv_104 hm_98 hk_99 hn_100 hz_95 7) hm_96 hk_97 rfl (M.rm (by decide) (by decide) (Nat.le_of_ble_eq_true rfl) (Nat.le_of_ble_eq_true rfl)) rfl rfl (Nat.le_of_ble_eq_true rfl) dX2_removeMany_25 (fun r_106 S_107 hp_108 => ?_)
  obtain ⟨rfl, hf_109⟩ := hp_108
  refine J.eq (st' := []) rfl rfl rfl ?_
  have hz_110 : ∀ j, aI S_107 q j = 0 := fun j9 => (hf_109.ai hm_98 (fun h9 => h9) j9).trans (hz_95 j9)
  have hm_111 : h ∈ hL S_107 := hf_109.mem hm_96
  have hk_112 : Kd S_107 h 2 := hf_109.kd hm_96 hk_97
  have hm_113 : q ∈ hL S_107 := hf_109.mem hm_98
  have hk_114 : Kd S_107 q 14 := hf_109.kd hm_98 hk_99
  have hn_115 : Ln S_107 q 16 := hf_109.ln hm_98 hn_100
  have hm_116 : s ∈ hL S_107 := hf_109.mem hm_101
  have hk_117 : Kd S_107 s 8 := hf_109.kd hm_101 hk_102
  have hv_118 : hR S_107 200 h = (some s) := hf_109.fr hm_96 (fun h9 => h9) hv_103
  have hv_119 : hR S_107 800 s = (some q) := hf_109.fr hm_101 (fun h9 => h9) hv_104
  have hf_120 : Fm (fun f9 b9 => (f9 = 209 ∧ b9 = h)) (fun _ _ => False) (fun _ => False) S S_107 := hf_105.then hf_109 (fun a9 ha9 => ⟨(fun f9 h9 => (fun h8 => h8) h9), (fun f9 h9 => h9.elim), (fun h9 => h9.elim)⟩)
  show J _ _ _ _ _ 28 _
  refine j_iinc (q := 0) (v := 8) (lv' := [(2, .int 8), (0, .ref h), (1, .int 0)]) C dX2_removeMany_28 rfl (by decide) (by rw [hn9]; decide) rfl ?_
  refine j_goto (tgt := 2) C dX2_removeMany_31 (by decide) ?_
  refine j_iload_n C dX2_removeMany_2 rfl 0 rfl ?_
  refine j_bipush (v := 16) C dX2_removeMany_3 (by decide) ?_
  refine j_ic_ge (tgt := 34) C dX2_removeMany_5 (by decide) (fun c9 => absurd c9 (by decide)) (fun c9 => ?_)
  refine j_iload_n C dX2_removeMany_8 rfl 2 rfl ?_
  refine j_if_eq (tgt := 23) C dX2_removeMany_9 (by decide) (fun c9 => ?_) (fun c9 => absurd (by decide) c9)
  refine j_aload_n C dX2_removeMany_23 rfl 1 rfl ?_
  show J _ _ _ _ _ 24 _
  refine j_iload_n C dX2_removeMany_24 rfl 0 rfl ?_
  refine j_callV (ci := 2) C [.int 8] [] mlX2_73 mcX2_remove (c_X2_remove S_107 h hm_111 hk_112 s hv_118 hm_116 hk_117 q hv_119 hm_113 hk_114 hn_115 hz_110 8) hm_111 hk_112 rfl (M.rm (by decide) (by decide) (Nat.le_of_ble_eq_true rfl) (Nat.le_of_ble_eq_true rfl)) rfl rfl (Nat.le_of_ble_eq_true rfl) dX2_removeMany_25 (fun r_121 S_122 hp_123 => ?_)
  obtain ⟨rfl, hf_124⟩ := hp_123
  refine J.eq (st' := []) rfl rfl rfl ?_
  have hz_125 : ∀ j, aI S_122 q j = 0 := fun j9 => (hf_124.ai hm_113 (fun h9 => h9) j9).trans (hz_110 j9)
  have hm_126 : h ∈ hL S_122 := hf_124.mem hm_111
  have hk_127 : Kd S_122 h 2 := hf_124.kd hm_111 hk_112
  have hm_128 : q ∈ hL S_122 := hf_124.mem hm_113
  have hk_129 : Kd S_122 q 14 := hf_124.kd hm_113 hk_114
  have hn_130 : Ln S_122 q 16 := hf_124.ln hm_113 hn_115
  have hm_131 : s ∈ hL S_122 := hf_124.mem hm_116
  have hk_132 : Kd S_122 s 8 := hf_124.kd hm_116 hk_117
  have hv_133 : hR S_122 200 h = (some s) := hf_124.fr hm_111 (fun h9 => h9) hv_118
  have hv_134 : hR S_122 800 s = (some q) := hf_124.fr hm_116 (fun h9 => h9) hv_119
  have hf_135 : Fm (fun f9 b9 => (f9 = 209 ∧ b9 = h)) (fun _ _ => False) (fun _ => False) S S_122 := hf_120.then hf_124 (fun a9 ha9 => ⟨(fun f9 h9 => (fun h8 => h8) h9), (fun f9 h9 => h9.elim), (fun h9 => h9.elim)⟩)
  refine j_iinc (q := 0) (v := 9) (lv' := [(2, .int 9), (0, .ref h), (1, .int 0)]) C dX2_removeMany_28 rfl (by decide) (by rw [hn9]; decide) rfl ?_
  refine j_goto (tgt := 2) C dX2_removeMany_31 (by decide) ?_
  refine j_iload_n C dX2_removeMany_2 rfl 0 rfl ?_
  refine j_bipush (v := 16) C dX2_removeMany_3 (by decide) ?_
  refine j_ic_ge (tgt := 34) C dX2_removeMany_5 (by decide) (fun c9 => absurd c9 (by decide)) (fun c9 => ?_)
  refine j_iload_n C dX2_removeMany_8 rfl 2 rfl ?_
  show J _ _ _ _ _ 9 _
  refine j_if_eq (tgt := 23) C dX2_removeMany_9 (by decide) (fun c9 => ?_) (fun c9 => absurd (by decide) c9)
  refine j_aload_n C dX2_removeMany_23 rfl 1 rfl ?_
  refine j_iload_n C dX2_removeMany_24 rfl 0 rfl ?_
  refine j_callV (ci := 2) C [.int 9] [] mlX2_73 mcX2_remove (c_X2_remove S_122 h hm_126 hk_127 s hv_133 hm_131 hk_132 q hv_134 hm_128 hk_129 hn_130 hz_125 9) hm_126 hk_127 rfl (M.rm (by decide) (by decide) (Nat.le_of_ble_eq_true rfl) (Nat.le_of_ble_eq_true rfl)) rfl rfl (Nat.le_of_ble_eq_true rfl) dX2_removeMany_25 (fun r_136 S_137 hp_138 => ?_)
  obtain ⟨rfl, hf_139⟩ := hp_138
  refine J.eq (st' := []) rfl rfl rfl ?_
  have hz_140 : ∀ j, aI S_137 q j = 0 := fun j9 => (hf_139.ai hm_128 (fun h9 => h9) j9).trans (hz_125 j9)
  have hm_141 : h ∈ hL S_137 := hf_139.mem hm_126
  have hk_142 : Kd S_137 h 2 := hf_139.kd hm_126 hk_127
  have hm_143 : q ∈ hL S_137 := hf_139.mem hm_128
  have hk_144 : Kd S_137 q 14 := hf_139.kd hm_128 hk_129
  have hn_145 : Ln S_137 q 16 := hf_139.ln hm_128 hn_130
  have hm_146 : s ∈ hL S_137 := hf_139.mem hm_131
  have hk_147 : Kd S_137 s 8 := hf_139.kd hm_131 hk_132
  have hv_148 : hR S_137 200 h = (some s) := hf_139.fr hm_126 (fun h9 => h9) hv_133
  have hv_149 : hR S_137 800 s = (some q) := hf_139.fr hm_131 (fun h9 => h9) hv_134
  have hf_150 : Fm (fun f9 b9 => (f9 = 209 ∧ b9 = h)) (fun _ _ => False) (fun _ => False) S S_137 := hf_135.then hf_139 (fun a9 ha9 => ⟨(fun f9 h9 => (fun h8 => h8) h9), (fun f9 h9 => h9.elim), (fun h9 => h9.elim)⟩)
  refine j_iinc (q := 0) (v := 10) (lv' := [(2, .int 10), (0, .ref h), (1, .int 0)]) C dX2_removeMany_28 rfl (by decide) (by rw [hn9]; decide) rfl ?_
  refine j_goto (tgt := 2) C dX2_removeMany_31 (by decide) ?_
  refine j_iload_n C dX2_removeMany_2 rfl 0 rfl ?_
  refine j_bipush (v := 16) C dX2_removeMany_3 (by decide) ?_
  show J _ _ _ _ _ 5 _
  refine j_ic_ge (tgt := 34) C dX2_removeMany_5 (by decide) (fun c9 => absurd c9 (by decide)) (fun c9 => ?_)
  refine j_iload_n C dX2_removeMany_8 rfl 2 rfl ?_
  refine j_if_eq (tgt := 23) C dX2_removeMany_9 (by decide) (fun c9 => ?_) (fun c9 => absurd (by decide) c9)
  refine j_aload_n C dX2_removeMany_23 rfl 1 rfl ?_
  refine j_iload_n C dX2_removeMany_24 rfl 0 rfl ?_
  refine j_callV (ci := 2) C [.int 10] [] mlX2_73 mcX2_remove (c_X2_remove S_137 h hm_141 hk_142 s hv_148 hm_146 hk_147 q hv_149 hm_143 hk_144 hn_145 hz_140 10) hm_141 hk_142 rfl (M.rm (by decide) (by decide) (Nat.le_of_ble_eq_true rfl) (Nat.le_of_ble_eq_true rfl)) rfl rfl (Nat.le_of_ble_eq_true rfl) dX2_removeMany_25 (fun r_151 S_152 hp_153 => ?_)
  obtain ⟨rfl, hf_154⟩ := hp_153
  refine J.eq (st' := []) rfl rfl rfl ?_
  have hz_155 : ∀ j, aI S_152 q j = 0 := fun j9 => (hf_154.ai hm_143 (fun h9 => h9) j9).trans (hz_140 j9)
  have hm_156 : h ∈ hL S_152 := hf_154.mem hm_141
  have hk_157 : Kd S_152 h 2 := hf_154.kd hm_141 hk_142
  have hm_158 : q ∈ hL S_152 := hf_154.mem hm_143
  have hk_159 : Kd S_152 q 14 := hf_154.kd hm_143 hk_144
  have hn_160 : Ln S_152 q 16 := hf_154.ln hm_143 hn_145
  have hm_161 : s ∈ hL S_152 := hf_154.mem hm_146
  have hk_162 : Kd S_152 s 8 := hf_154.kd hm_146 hk_147
  have hv_163 : hR S_152 200 h = (some s) := hf_154.fr hm_141 (fun h9 => h9) hv_148
  have hv_164 : hR S_152 800 s = (some q) := hf_154.fr hm_146 (fun h9 => h9) hv_149
  have hf_165 : Fm (fun f9 b9 => (f9 = 209 ∧ b9 = h)) (fun _ _ => False) (fun _ => False) S S_152 := hf_150.then hf_154 (fun a9 ha9 => ⟨(fun f9 h9 => (fun h8 => h8) h9), (fun f9 h9 => h9.elim), (fun h9 => h9.elim)⟩)
  refine j_iinc (q := 0) (v := 11) (lv' := [(2, .int 11), (0, .ref h), (1, .int 0)]) C dX2_removeMany_28 rfl (by decide) (by rw [hn9]; decide) rfl ?_
  refine j_goto (tgt := 2) C dX2_removeMany_31 (by decide) ?_
  show J _ _ _ _ _ 2 _
  refine j_iload_n C dX2_removeMany_2 rfl 0 rfl ?_
  refine j_bipush (v := 16) C dX2_removeMany_3 (by decide) ?_
  refine j_ic_ge (tgt := 34) C dX2_removeMany_5 (by decide) (fun c9 => absurd c9 (by decide)) (fun c9 => ?_)
  refine j_iload_n C dX2_removeMany_8 rfl 2 rfl ?_
  refine j_if_eq (tgt := 23) C dX2_removeMany_9 (by decide) (fun c9 => ?_) (fun c9 => absurd (by decide) c9)
  refine j_aload_n C dX2_removeMany_23 rfl 1 rfl ?_
  refine j_iload_n C dX2_removeMany_24 rfl 0 rfl ?_
  refine j_callV (ci := 2) C [.int 11] [] mlX2_73 mcX2_remove (c_X2_remove S_152 h hm_156 hk_157 s hv_163 hm_161 hk_162 q hv_164 hm_158 hk_159 hn_160 hz_155 11) hm_156 hk_157 rfl (M.rm (by decide) (by decide) (Nat.le_of_ble_eq_true rfl) (Nat.le_of_ble_eq_true rfl)) rfl rfl (Nat.le_of_ble_eq_true rfl) dX2_removeMany_25 (fun r_166 S_167 hp_168 => ?_)
  obtain ⟨rfl, hf_169⟩ := hp_168
  refine J.eq (st' := []) rfl rfl rfl ?_
  have hz_170 : ∀ j, aI S_167 q j = 0 := fun j9 => (hf_169.ai hm_158 (fun h9 => h9) j9).trans (hz_155 j9)
  have hm_171 : h ∈ hL S_167 := hf_169.mem hm_156
  have hk_172 : Kd S_167 h 2 := hf_169.kd hm_156 hk_157
  have hm_173 : q ∈ hL S_167 := hf_169.mem hm_158
  have hk_174 : Kd S_167 q 14 := hf_169.kd hm_158 hk_159
  have hn_175 : Ln S_167 q 16 := hf_169.ln hm_158 hn_160
  have hm_176 : s ∈ hL S_167 := hf_169.mem hm_161
  have hk_177 : Kd S_167 s 8 := hf_169.kd hm_161 hk_162
  have hv_178 : hR S_167 200 h = (some s) := hf_169.fr hm_156 (fun h9 => h9) hv_163
  have hv_179 : hR S_167 800 s = (some q) := hf_169.fr hm_161 (fun h9 => h9) hv_164
  have hf_180 : Fm (fun f9 b9 => (f9 = 209 ∧ b9 = h)) (fun _ _ => False) (fun _ => False) S S_167 := hf_165.then hf_169 (fun a9 ha9 => ⟨(fun f9 h9 => (fun h8 => h8) h9), (fun f9 h9 => h9.elim), (fun h9 => h9.elim)⟩)
  show J _ _ _ _ _ 28 _
  refine j_iinc (q := 0) (v := 12) (lv' := [(2, .int 12), (0, .ref h), (1, .int 0)]) C dX2_removeMany_28 rfl (by decide) (by rw [hn9]; decide) rfl ?_
  refine j_goto (tgt := 2) C dX2_removeMany_31 (by decide) ?_
  refine j_iload_n C dX2_removeMany_2 rfl 0 rfl ?_
  refine j_bipush (v := 16) C dX2_removeMany_3 (by decide) ?_
  refine j_ic_ge (tgt := 34) C dX2_removeMany_5 (by decide) (fun c9 => absurd c9 (by decide)) (fun c9 => ?_)
  refine j_iload_n C dX2_removeMany_8 rfl 2 rfl ?_
  refine j_if_eq (tgt := 23) C dX2_removeMany_9 (by decide) (fun c9 => ?_) (fun c9 => absurd (by decide) c9)
  refine j_aload_n C dX2_removeMany_23 rfl 1 rfl ?_
  show J _ _ _ _ _ 24 _
  refine j_iload_n C dX2_removeMany_24 rfl 0 rfl ?_
  refine j_callV (ci := 2) C [.int 12] [] mlX2_73 mcX2_remove (c_X2_remove S_167 h hm_171 hk_172 s hv_178 hm_176 hk_177 q hv_179 hm_173 hk_174 hn_175 hz_170 12) hm_171 hk_172 rfl (M.rm (by decide) (by decide) (Nat.le_of_ble_eq_true rfl) (Nat.le_of_ble_eq_true rfl)) rfl rfl (Nat.le_of_ble_eq_true rfl) dX2_removeMany_25 (fun r_181 S_182 hp_183 => ?_)
  obtain ⟨rfl, hf_184⟩ := hp_183
  refine J.eq (st' := []) rfl rfl rfl ?_
  have hz_185 : ∀ j, aI S_182 q j = 0 := fun j9 => (hf_184.ai hm_173 (fun h9 => h9) j9).trans (hz_170 j9)
  have hm_186 : h ∈ hL S_182 := hf_184.mem hm_171
  have hk_187 : Kd S_182 h 2 := hf_184.kd hm_171 hk_172
  have hm_188 : q ∈ hL S_182 := hf_184.mem hm_173
  have hk_189 : Kd S_182 q 14 := hf_184.kd hm_173 hk_174
  have hn_190 : Ln S_182 q 16 := hf_184.ln hm_173 hn_175
  have hm_191 : s ∈ hL S_182 := hf_184.mem hm_176
  have hk_192 : Kd S_182 s 8 := hf_184.kd hm_176 hk_177
  have hv_193 : hR S_182 200 h = (some s) := hf_184.fr hm_171 (fun h9 => h9) hv_178
  have hv_194 : hR S_182 800 s = (some q) := hf_184.fr hm_176 (fun h9 => h9) hv_179
  have hf_195 : Fm (fun f9 b9 => (f9 = 209 ∧ b9 = h)) (fun _ _ => False) (fun _ => False) S S_182 := hf_180.then hf_184 (fun a9 ha9 => ⟨(fun f9 h9 => (fun h8 => h8) h9), (fun f9 h9 => h9.elim), (fun h9 => h9.elim)⟩)
  refine j_iinc (q := 0) (v := 13) (lv' := [(2, .int 13), (0, .ref h), (1, .int 0)]) C dX2_removeMany_28 rfl (by decide) (by rw [hn9]; decide) rfl ?_
  refine j_goto (tgt := 2) C dX2_removeMany_31 (by decide) ?_
  refine j_iload_n C dX2_removeMany_2 rfl 0 rfl ?_
  refine j_bipush (v := 16) C dX2_removeMany_3 (by decide) ?_
  refine j_ic_ge (tgt := 34) C dX2_removeMany_5 (by decide) (fun c9 => absurd c9 (by decide)) (fun c9 => ?_)
  refine j_iload_n C dX2_removeMany_8 rfl 2 rfl ?_
  show J _ _ _ _ _ 9 _
  refine j_if_eq (tgt := 23) C dX2_removeMany_9 (by decide) (fun c9 => ?_) (fun c9 => absurd (by decide) c9)
  refine j_aload_n C dX2_removeMany_23 rfl 1 rfl ?_
  refine j_iload_n C dX2_removeMany_24 rfl 0 rfl ?_
  refine j_callV (ci := 2) C [.int 13] [] mlX2_73 mcX2_remove (c_X2_remove S_182 h hm_186 hk_187 s hv_193 hm_191 hk_192 q hv_194 hm_188 hk_189 hn_190 hz_185 13) hm_186 hk_187 rfl (M.rm (by decide) (by decide) (Nat.le_of_ble_eq_true rfl) (Nat.le_of_ble_eq_true rfl)) rfl rfl (Nat.le_of_ble_eq_true rfl) dX2_removeMany_25 (fun r_196 S_197 hp_198 => ?_)
  obtain ⟨rfl, hf_199⟩ := hp_198
  refine J.eq (st' := []) rfl rfl rfl ?_
  have hz_200 : ∀ j, aI S_197 q j = 0 := fun j9 => (hf_199.ai hm_188 (fun h9 => h9) j9).trans (hz_185 j9)
  have hm_201 : h ∈ hL S_197 := hf_199.mem hm_186
  have hk_202 : Kd S_197 h 2 := hf_199.kd hm_186 hk_187
  have hm_203 : q ∈ hL S_197 := hf_199.mem hm_188
  have hk_204 : Kd S_197 q 14 := hf_199.kd hm_188 hk_189
  have hn_205 : Ln S_197 q 16 := hf_199.ln hm_188 hn_190
  have hm_206 : s ∈ hL S_197 := hf_199.mem hm_191
  have hk_207 : Kd S_197 s 8 := hf_199.kd hm_191 hk_192
  have hv_208 : hR S_197 200 h = (some s) := hf_199.fr hm_186 (fun h9 => h9) hv_193
  have hv_209 : hR S_197 800 s = (some q) := hf_199.fr hm_191 (fun h9 => h9) hv_194
  have hf_210 : Fm (fun f9 b9 => (f9 = 209 ∧ b9 = h)) (fun _ _ => False) (fun _ => False) S S_197 := hf_195.then hf_199 (fun a9 ha9 => ⟨(fun f9 h9 => (fun h8 => h8) h9), (fun f9 h9 => h9.elim), (fun h9 => h9.elim)⟩)
  refine j_iinc (q := 0) (v := 14) (lv' := [(2, .int 14), (0, .ref h), (1, .int 0)]) C dX2_removeMany_28 rfl (by decide) (by rw [hn9]; decide) rfl ?_
  refine j_goto (tgt := 2) C dX2_removeMany_31 (by decide) ?_
  refine j_iload_n C dX2_removeMany_2 rfl 0 rfl ?_
  refine j_bipush (v := 16) C dX2_removeMany_3 (by decide) ?_
  show J _ _ _ _ _ 5 _
  refine j_ic_ge (tgt := 34) C dX2_removeMany_5 (by decide) (fun c9 => absurd c9 (by decide)) (fun c9 => ?_)
  refine j_iload_n C dX2_removeMany_8 rfl 2 rfl ?_
  refine j_if_eq (tgt := 23) C dX2_removeMany_9 (by decide) (fun c9 => ?_) (fun c9 => absurd (by decide) c9)
  refine j_aload_n C dX2_removeMany_23 rfl 1 rfl ?_
  refine j_iload_n C dX2_removeMany_24 rfl 0 rfl ?_
  refine j_callV (ci := 2) C [.int 14] [] mlX2_73 mcX2_remove (c_X2_remove S_197 h hm_201 hk_202 s hv_208 hm_206 hk_207 q hv_209 hm_203 hk_204 hn_205 hz_200 14) hm_201 hk_202 rfl (M.rm (by decide) (by decide) (Nat.le_of_ble_eq_true rfl) (Nat.le_of_ble_eq_true rfl)) rfl rfl (Nat.le_of_ble_eq_true rfl) dX2_removeMany_25 (fun r_211 S_212 hp_213 => ?_)
  obtain ⟨rfl, hf_214⟩ := hp_213
  refine J.eq (st' := []) rfl rfl rfl ?_
  have hz_215 : ∀ j, aI S_212 q j = 0 := fun j9 => (hf_214.ai hm_203 (fun h9 => h9) j9).trans (hz_200 j9)
  have hm_216 : h ∈ hL S_212 := hf_214.mem hm_201
  have hk_217 : Kd S_212 h 2 := hf_214.kd hm_201 hk_202
  have hm_218 : q ∈ hL S_212 := hf_214.mem hm_203
  have hk_219 : Kd S_212 q 14 := hf_214.kd hm_203 hk_204
  have hn_220 : Ln S_212 q 16 := hf_214.ln hm_203 hn_205
  have hm_221 : s ∈ hL S_212 := hf_214.mem hm_206
  have hk_222 : Kd S_212 s 8 := hf_214.kd hm_206 hk_207
  have hv_223 : hR S_212 200 h = (some s) := hf_214.fr hm_201 (fun h9 => h9) hv_208
  have hv_224 : hR S_212 800 s = (some q) := hf_214.fr hm_206 (fun h9 => h9) hv_209
  have hf_225 : Fm (fun f9 b9 => (f9 = 209 ∧ b9 = h)) (fun _ _ => False) (fun _ => False) S S_212 := hf_210.then hf_214 (fun a9 ha9 => ⟨(fun f9 h9 => (fun h8 => h8) h9), (fun f9 h9 => h9.elim), (fun h9 => h9.elim)⟩)
  refine j_iinc (q := 0) (v := 15) (lv' := [(2, .int 15), (0, .ref h), (1, .int 0)]) C dX2_removeMany_28 rfl (by decide) (by rw [hn9]; decide) rfl ?_
  refine j_goto (tgt := 2) C dX2_removeMany_31 (by decide) ?_
  show J _ _ _ _ _ 2 _
  refine j_iload_n C dX2_removeMany_2 rfl 0 rfl ?_
  refine j_bipush (v := 16) C dX2_removeMany_3 (by decide) ?_
  refine j_ic_ge (tgt := 34) C dX2_removeMany_5 (by decide) (fun c9 => absurd c9 (by decide)) (fun c9 => ?_)
  refine j_iload_n C dX2_removeMany_8 rfl 2 rfl ?_
  refine j_if_eq (tgt := 23) C dX2_removeMany_9 (by decide) (fun c9 => ?_) (fun c9 => absurd (by decide) c9)
  refine j_aload_n C dX2_removeMany_23 rfl 1 rfl ?_
  refine j_iload_n C dX2_removeMany_24 rfl 0 rfl ?_
  refine j_callV (ci := 2) C [.int 15] [] mlX2_73 mcX2_remove (c_X2_remove S_212 h hm_216 hk_217 s hv_223 hm_221 hk_222 q hv_224 hm_218 hk_219 hn_220 hz_215 15) hm_216 hk_217 rfl (M.rm (by decide) (by decide) (Nat.le_of_ble_eq_true rfl) (Nat.le_of_ble_eq_true rfl)) rfl rfl (Nat.le_of_ble_eq_true rfl) dX2_removeMany_25 (fun r_226 S_227 hp_228 => ?_)
  obtain ⟨rfl, hf_229⟩ := hp_228
  refine J.eq (st' := []) rfl rfl rfl ?_
  have hz_230 : ∀ j, aI S_227 q j = 0 := fun j9 => (hf_229.ai hm_218 (fun h9 => h9) j9).trans (hz_215 j9)
  have hm_231 : h ∈ hL S_227 := hf_229.mem hm_216
  have hk_232 : Kd S_227 h 2 := hf_229.kd hm_216 hk_217
  have hm_233 : q ∈ hL S_227 := hf_229.mem hm_218
  have hk_234 : Kd S_227 q 14 := hf_229.kd hm_218 hk_219
  have hn_235 : Ln S_227 q 16 := hf_229.ln hm_218 hn_220
  have hm_236 : s ∈ hL S_227 := hf_229.mem hm_221
  have hk_237 : Kd S_227 s 8 := hf_229.kd hm_221 hk_222
  have hv_238 : hR S_227 200 h = (some s) := hf_229.fr hm_216 (fun h9 => h9) hv_223
  have hv_239 : hR S_227 800 s = (some q) := hf_229.fr hm_221 (fun h9 => h9) hv_224
  have hf_240 : Fm (fun f9 b9 => (f9 = 209 ∧ b9 = h)) (fun _ _ => False) (fun _ => False) S S_227 := hf_225.then hf_229 (fun a9 ha9 => ⟨(fun f9 h9 => (fun h8 => h8) h9), (fun f9 h9 => h9.elim), (fun h9 => h9.elim)⟩)
  show J _ _ _ _ _ 28 _
  refine j_iinc (q := 0) (v := 16) (lv' := [(2, .int 16), (0, .ref h), (1, .int 0)]) C dX2_removeMany_28 rfl (by decide) (by rw [hn9]; decide) rfl ?_
  refine j_goto (tgt := 2) C dX2_removeMany_31 (by decide) ?_
  refine j_iload_n C dX2_removeMany_2 rfl 0 rfl ?_
  refine j_bipush (v := 16) C dX2_removeMany_3 (by decide) ?_
  refine j_ic_ge (tgt := 34) C dX2_removeMany_5 (by decide) (fun c9 => ?_) (fun c9 => absurd (by decide) c9)
  exact j_vret C M dX2_removeMany_34 (Nat.le_of_ble_eq_true rfl) (Nat.le_of_ble_eq_true rfl) ⟨rfl, hf_240⟩

theorem dX0_clear_0 : decode cX0_clear 0 = .ok (.aload_n 0, 1) := by decide +kernel
theorem dX0_clear_1 : decode cX0_clear 1 = .ok (.iconst 0, 1) := by decide +kernel
theorem dX0_clear_2 : decode cX0_clear 2 = .ok (.putfield 39, 3) := by decide +kernel
theorem dX0_clear_5 : decode cX0_clear 5 = .ok (.aload_n 0, 1) := by decide +kernel
theorem dX0_clear_6 : decode cX0_clear 6 = .ok (.getfield 11, 3) := by decide +kernel
theorem dX0_clear_9 : decode cX0_clear 9 = .ok (.iconst 0, 1) := by decide +kernel
theorem dX0_clear_10 : decode cX0_clear 10 = .ok (.invokestatic 42, 3) := by decide +kernel
theorem dX0_clear_13 : decode cX0_clear 13 = .ok (.return_, 1) := by decide +kernel
set_option maxRecDepth 100000 in
set_option maxHeartbeats 4000000 in
theorem c_X0_clear (S : Hp) (h : Nat) (hm : h ∈ hL S) (hk : hK S h = 0) (d0 : Nat) (rd0 : hR S 0 h = some d0) (md0 : d0 ∈ hL S) (kd0 : Kd S d0 14) (ld0 : Ln S d0 20000) : Ct 2 yX0_clear cX0_clear 1 none 0 0 [.ref h] S (fun r S' => r = none ∧ Fm (fun f9 b9 => (f9 = 2 ∧ b9 = h)) (fun _ _ => False) (fun b9 => b9 = d0) S S') := by
  refine ct_of (by decide) (Nat.le_of_ble_eq_true rfl) fun x hn9 C M hm9 => ?_
  have C : CB x RX0 cX0_clear := C
  refine J.eq (lv' := [(0, .ref h)]) rfl rfl rfl ?_
  refine j_aload_n C dX0_clear_0 rfl 0 rfl ?_
  refine j_iconst (v := 0) C dX0_clear_1 (by decide) ?_
  refine j_puti (f := 2) C flX0_39 (by decide) rfl rfl dX0_clear_2 hm hk rfl ?_
  refine j_aload_n C dX0_clear_5 rfl 0 rfl ?_
  refine j_getr (f := 0) (v := d0) C flX0_11 dX0_clear_6 hm hk (by decide) rfl rd0 ?_
  refine j_iconst (v := 0) C dX0_clear_9 (by decide) ?_
  have hf_1 : Fm (fun f9 b9 => (f9 = 2 ∧ b9 = h)) (fun _ _ => False) (fun b9 => b9 = d0) S (sI S 2 h 0) := ((Fm.refl (WI := (fun f9 b9 => (f9 = 2 ∧ b9 = h))) (WR := (fun _ _ => False)) (WA := (fun b9 => b9 = d0))).sI _ (fun _ => ⟨rfl, rfl⟩))
  refine j_callS C [.ref d0, .int 0] [] mlX0_42 mcJ7_fill_53178 (c_J7_fill (sI S 2 h 0) d0 20000 0 md0 kd0 ld0 (by omega)) (M.rm (by decide) (by decide) (Nat.le_of_ble_eq_true rfl) (Nat.le_of_ble_eq_true rfl)) rfl rfl (Nat.le_of_ble_eq_true rfl) dX0_clear_10 (fun r_3 S_4 hp_5 => ?_)
  obtain ⟨rfl, hf_6, hz_2⟩ := hp_5
  refine J.eq (st' := []) rfl rfl rfl ?_
  have hm_7 : d0 ∈ hL S_4 := hf_6.mem md0
  have hk_8 : Kd S_4 d0 14 := hf_6.kd md0 kd0
  have hn_9 : Ln S_4 d0 20000 := hf_6.ln md0 ld0
  have hm_10 : h ∈ hL S_4 := hf_6.mem hm
  have hk_11 : Kd S_4 h 0 := hf_6.kd hm hk
  have hv_12 : hI S_4 2 h = 0 := hf_6.fi hm (fun h9 => h9) (rd_sI (S := S) (g := 2) (a := h) (v := 0))
  have hv_13 : hR S_4 0 h = (some d0) := hf_6.fr hm (fun h9 => h9) rd0
  have hf_14 : Fm (fun f9 b9 => (f9 = 2 ∧ b9 = h)) (fun _ _ => False) (fun b9 => b9 = d0) S S_4 := hf_1.then hf_6 (fun a9 ha9 => ⟨(fun f9 h9 => h9.elim), (fun f9 h9 => h9.elim), (fun h9 => (fun h8 => h8) h9)⟩)
  exact j_vret C M dX0_clear_13 (Nat.le_of_ble_eq_true rfl) (Nat.le_of_ble_eq_true rfl) ⟨rfl, hf_14⟩

theorem dX0_startJob_0 : decode cX0_startJob 0 = .ok (.aload_n 0, 1) := by decide +kernel
theorem dX0_startJob_1 : decode cX0_startJob 1 = .ok (.iconst 0, 1) := by decide +kernel
theorem dX0_startJob_2 : decode cX0_startJob 2 = .ok (.putfield 25, 3) := by decide +kernel
theorem dX0_startJob_5 : decode cX0_startJob 5 = .ok (.aload_n 0, 1) := by decide +kernel
theorem dX0_startJob_6 : decode cX0_startJob 6 = .ok (.iconst 0, 1) := by decide +kernel
theorem dX0_startJob_7 : decode cX0_startJob 7 = .ok (.putfield 29, 3) := by decide +kernel
theorem dX0_startJob_10 : decode cX0_startJob 10 = .ok (.aload_n 0, 1) := by decide +kernel
theorem dX0_startJob_11 : decode cX0_startJob 11 = .ok (.iconst 0, 1) := by decide +kernel
theorem dX0_startJob_12 : decode cX0_startJob 12 = .ok (.putfield 32, 3) := by decide +kernel
theorem dX0_startJob_15 : decode cX0_startJob 15 = .ok (.aload_n 0, 1) := by decide +kernel
theorem dX0_startJob_16 : decode cX0_startJob 16 = .ok (.invokevirtual 36, 3) := by decide +kernel
theorem dX0_startJob_19 : decode cX0_startJob 19 = .ok (.return_, 1) := by decide +kernel
set_option maxRecDepth 100000 in
set_option maxHeartbeats 4000000 in
theorem c_X0_startJob (S : Hp) (h : Nat) (hm : h ∈ hL S) (hk : hK S h = 0) (d0 : Nat) (rd0 : hR S 0 h = some d0) (md0 : d0 ∈ hL S) (kd0 : Kd S d0 14) (ld0 : Ln S d0 20000) : Ct 3 yX0_startJob cX0_startJob 1 none 0 0 [.ref h] S (fun r S' => r = none ∧ Fm (fun f9 b9 => (f9 = 2 ∧ b9 = h) ∨ (f9 = 3 ∧ b9 = h) ∨ (f9 = 4 ∧ b9 = h) ∨ (f9 = 5 ∧ b9 = h)) (fun _ _ => False) (fun b9 => b9 = d0) S S') := by
  refine ct_of (by decide) (Nat.le_of_ble_eq_true rfl) fun x hn9 C M hm9 => ?_
  have C : CB x RX0 cX0_startJob := C
  refine J.eq (lv' := [(0, .ref h)]) rfl rfl rfl ?_
  refine j_aload_n C dX0_startJob_0 rfl 0 rfl ?_
  refine j_iconst (v := 0) C dX0_startJob_1 (by decide) ?_
  refine j_puti (f := 3) C flX0_25 (by decide) rfl rfl dX0_startJob_2 hm hk rfl ?_
  refine j_aload_n C dX0_startJob_5 rfl 0 rfl ?_
  refine j_iconst (v := 0) C dX0_startJob_6 (by decide) ?_
  refine j_puti (f := 4) C flX0_29 (by decide) rfl rfl dX0_startJob_7 hm hk rfl ?_
  have hf_3 : Fm (fun f9 b9 => (f9 = 2 ∧ b9 = h) ∨ (f9 = 3 ∧ b9 = h) ∨ (f9 = 4 ∧ b9 = h) ∨ (f9 = 5 ∧ b9 = h)) (fun _ _ => False) (fun b9 => b9 = d0) S (sI (sI S 3 h 0) 4 h 0) := (((Fm.refl (WI := (fun f9 b9 => (f9 = 2 ∧ b9 = h) ∨ (f9 = 3 ∧ b9 = h) ∨ (f9 = 4 ∧ b9 = h) ∨ (f9 = 5 ∧ b9 = h))) (WR := (fun _ _ => False)) (WA := (fun b9 => b9 = d0))).sI _ (fun _ => (Or.inr (Or.inl ⟨rfl, rfl⟩)))).sI _ (fun _ => (Or.inr (Or.inr (Or.inl ⟨rfl, rfl⟩)))))
  obtain ⟨S_1, eS_2⟩ : ∃ S9 : Hp, S9 = (sI (sI S 3 h 0) 4 h 0) := ⟨_, rfl⟩
  refine J.eq (S' := S_1) eS_2.symm rfl rfl ?_
  have hm_4 : d0 ∈ hL S_1 := by rw [eS_2]; exact md0
  have hk_5 : Kd S_1 d0 14 := by rw [eS_2]; exact kd0
  have hn_6 : Ln S_1 d0 20000 := by rw [eS_2]; exact ld0
  have hm_7 : h ∈ hL S_1 := by rw [eS_2]; exact hm
  have hk_8 : Kd S_1 h 0 := by rw [eS_2]; exact hk
  have hv_9 : hI S_1 3 h = 0 := by rw [eS_2]; exact (rd_sIf (S := (sI S 3 h 0)) (g := 4) (a := h) (v := 0) (by decide) (rd_sI (S := S) (g := 3) (a := h) (v := 0)))
  have hv_10 : hI S_1 4 h = 0 := by rw [eS_2]; exact (rd_sI (S := (sI S 3 h 0)) (g := 4) (a := h) (v := 0))
  have hv_11 : hR S_1 0 h = (some d0) := by rw [eS_2]; exact rd0
  have hf_12 : Fm (fun f9 b9 => (f9 = 2 ∧ b9 = h) ∨ (f9 = 3 ∧ b9 = h) ∨ (f9 = 4 ∧ b9 = h) ∨ (f9 = 5 ∧ b9 = h)) (fun _ _ => False) (fun b9 => b9 = d0) S S_1 := by rw [eS_2]; exact hf_3
  refine j_aload_n C dX0_startJob_10 rfl 0 rfl ?_
  refine j_iconst (v := 0) C dX0_startJob_11 (by decide) ?_
  show J _ _ _ _ _ 12 _
  refine j_putz (f := 5) C flX0_32 (by decide) rfl rfl (by decide) dX0_startJob_12 hm_7 hk_8 rfl ?_
  refine j_aload_n C dX0_startJob_15 rfl 0 rfl ?_
  have hf_13 : Fm (fun f9 b9 => (f9 = 2 ∧ b9 = h) ∨ (f9 = 3 ∧ b9 = h) ∨ (f9 = 4 ∧ b9 = h) ∨ (f9 = 5 ∧ b9 = h)) (fun _ _ => False) (fun b9 => b9 = d0) S (sI S_1 5 h 0) := (hf_12.sI _ (fun _ => (Or.inr (Or.inr (Or.inr ⟨rfl, rfl⟩)))))
  refine j_callV (ci := 0) C [] [] mlX0_36 mcX0_clear (c_X0_clear (sI S_1 5 h 0) h hm_7 hk_8 d0 hv_11 hm_4 hk_5 hn_6) hm_7 hk_8 rfl (M.rm (by decide) (by decide) (Nat.le_of_ble_eq_true rfl) (Nat.le_of_ble_eq_true rfl)) rfl rfl (Nat.le_of_ble_eq_true rfl) dX0_startJob_16 (fun r_14 S_15 hp_16 => ?_)
  obtain ⟨rfl, hf_17⟩ := hp_16
  refine J.eq (st' := []) rfl rfl rfl ?_
  have hm_18 : d0 ∈ hL S_15 := hf_17.mem hm_4
  have hk_19 : Kd S_15 d0 14 := hf_17.kd hm_4 hk_5
  have hn_20 : Ln S_15 d0 20000 := hf_17.ln hm_4 hn_6
  have hm_21 : h ∈ hL S_15 := hf_17.mem hm_7
  have hk_22 : Kd S_15 h 0 := hf_17.kd hm_7 hk_8
  have hv_23 : hI S_15 3 h = 0 := hf_17.fi hm_7 (fun q9 => absurd q9.1 (by decide)) (rd_sIf (S := S_1) (g := 5) (a := h) (v := 0) (by decide) hv_9)
  have hv_24 : hI S_15 4 h = 0 := hf_17.fi hm_7 (fun q9 => absurd q9.1 (by decide)) (rd_sIf (S := S_1) (g := 5) (a := h) (v := 0) (by decide) hv_10)
  have hv_25 : hI S_15 5 h = 0 := hf_17.fi hm_7 (fun q9 => absurd q9.1 (by decide)) (rd_sI (S := S_1) (g := 5) (a := h) (v := 0))
  have hv_26 : hR S_15 0 h = (some d0) := hf_17.fr hm_7 (fun h9 => h9) hv_11
  have hf_27 : Fm (fun f9 b9 => (f9 = 2 ∧ b9 = h) ∨ (f9 = 3 ∧ b9 = h) ∨ (f9 = 4 ∧ b9 = h) ∨ (f9 = 5 ∧ b9 = h)) (fun _ _ => False) (fun b9 => b9 = d0) S S_15 := hf_13.then hf_17 (fun a9 ha9 => ⟨(fun f9 h9 => (fun h8 => (Or.inl h8)) h9), (fun f9 h9 => h9.elim), (fun h9 => (fun h8 => h8) h9)⟩)
  exact j_vret C M dX0_startJob_19 (Nat.le_of_ble_eq_true rfl) (Nat.le_of_ble_eq_true rfl) ⟨rfl, hf_27⟩

theorem dX9_startJob_0 : decode cX9_startJob 0 = .ok (.aload_n 0, 1) := by decide +kernel
theorem dX9_startJob_1 : decode cX9_startJob 1 = .ok (.iconst 0, 1) := by decide +kernel
theorem dX9_startJob_2 : decode cX9_startJob 2 = .ok (.putfield 86, 3) := by decide +kernel
theorem dX9_startJob_5 : decode cX9_startJob 5 = .ok (.aload_n 0, 1) := by decide +kernel
theorem dX9_startJob_6 : decode cX9_startJob 6 = .ok (.getfield 12, 3) := by decide +kernel
theorem dX9_startJob_9 : decode cX9_startJob 9 = .ok (.invokevirtual 98, 3) := by decide +kernel
theorem dX9_startJob_12 : decode cX9_startJob 12 = .ok (.return_, 1) := by decide +kernel
set_option maxRecDepth 100000 in
set_option maxHeartbeats 4000000 in
theorem c_X9_startJob (S : Hp) (h : Nat) (hm : h ∈ hL S) (hk : hK S h = 9) (c0 : Nat) (rc0 : hR S 901 h = some c0) (mc0 : c0 ∈ hL S) (kc0 : Kd S c0 0) (d0 : Nat) (rd0 : hR S 0 c0 = some d0) (md0 : d0 ∈ hL S) (kd0 : Kd S d0 14) (ld0 : Ln S d0 20000) : Ct 4 yX9_startJob cX9_startJob 1 none 0 0 [.ref h] S (fun r S' => r = none ∧ Fm (fun f9 b9 => (f9 = 916 ∧ b9 = h) ∨ (f9 = 2 ∧ b9 = c0) ∨ (f9 = 3 ∧ b9 = c0) ∨ (f9 = 4 ∧ b9 = c0) ∨ (f9 = 5 ∧ b9 = c0)) (fun _ _ => False) (fun b9 => b9 = d0) S S') := by
  refine ct_of (by decide) (Nat.le_of_ble_eq_true rfl) fun x hn9 C M hm9 => ?_
  have C : CB x RX9 cX9_startJob := C
  refine J.eq (lv' := [(0, .ref h)]) rfl rfl rfl ?_
  refine j_aload_n C dX9_startJob_0 rfl 0 rfl ?_
  refine j_iconst (v := 0) C dX9_startJob_1 (by decide) ?_
  refine j_puti (f := 916) C flX9_86 (by decide) rfl rfl dX9_startJob_2 hm hk rfl ?_
  refine j_aload_n C dX9_startJob_5 rfl 0 rfl ?_
  refine j_getr (f := 901) (v := c0) C flX9_12 dX9_startJob_6 hm hk (by decide) rfl rc0 ?_
  have hf_1 : Fm (fun f9 b9 => (f9 = 916 ∧ b9 = h) ∨ (f9 = 2 ∧ b9 = c0) ∨ (f9 = 3 ∧ b9 = c0) ∨ (f9 = 4 ∧ b9 = c0) ∨ (f9 = 5 ∧ b9 = c0)) (fun _ _ => False) (fun b9 => b9 = d0) S (sI S 916 h 0) := ((Fm.refl (WI := (fun f9 b9 => (f9 = 916 ∧ b9 = h) ∨ (f9 = 2 ∧ b9 = c0) ∨ (f9 = 3 ∧ b9 = c0) ∨ (f9 = 4 ∧ b9 = c0) ∨ (f9 = 5 ∧ b9 = c0))) (WR := (fun _ _ => False)) (WA := (fun b9 => b9 = d0))).sI _ (fun _ => (Or.inl ⟨rfl, rfl⟩)))
  refine j_callV (ci := 0) C [] [] mlX9_98 mcX0_startJob (c_X0_startJob (sI S 916 h 0) c0 mc0 kc0 d0 rd0 md0 kd0 ld0) mc0 kc0 rfl (M.rm (by decide) (by decide) (Nat.le_of_ble_eq_true rfl) (Nat.le_of_ble_eq_true rfl)) rfl rfl (Nat.le_of_ble_eq_true rfl) dX9_startJob_9 (fun r_2 S_3 hp_4 => ?_)
  obtain ⟨rfl, hf_5⟩ := hp_4
  refine J.eq (st' := []) rfl rfl rfl ?_
  have hm_6 : c0 ∈ hL S_3 := hf_5.mem mc0
  have hk_7 : Kd S_3 c0 0 := hf_5.kd mc0 kc0
  have hm_8 : d0 ∈ hL S_3 := hf_5.mem md0
  have hk_9 : Kd S_3 d0 14 := hf_5.kd md0 kd0
  have hn_10 : Ln S_3 d0 20000 := hf_5.ln md0 ld0
  have hm_11 : h ∈ hL S_3 := hf_5.mem hm
  have hk_12 : Kd S_3 h 9 := hf_5.kd hm hk
  have hv_13 : hI S_3 916 h = 0 := hf_5.fi hm (fun h9 => h9.elim (fun q9 => absurd q9.1 (by decide)) (fun h9 => h9.elim (fun q9 => absurd q9.1 (by decide)) (fun h9 => h9.elim (fun q9 => absurd q9.1 (by decide)) (fun q9 => absurd q9.1 (by decide))))) (rd_sI (S := S) (g := 916) (a := h) (v := 0))
  have hv_14 : hR S_3 0 c0 = (some d0) := hf_5.fr mc0 (fun h9 => h9) rd0
  have hv_15 : hR S_3 901 h = (some c0) := hf_5.fr hm (fun h9 => h9) rc0
  have hf_16 : Fm (fun f9 b9 => (f9 = 916 ∧ b9 = h) ∨ (f9 = 2 ∧ b9 = c0) ∨ (f9 = 3 ∧ b9 = c0) ∨ (f9 = 4 ∧ b9 = c0) ∨ (f9 = 5 ∧ b9 = c0)) (fun _ _ => False) (fun b9 => b9 = d0) S S_3 := hf_1.then hf_5 (fun a9 ha9 => ⟨(fun f9 h9 => (fun h9 => h9.elim (fun h8 => (Or.inr (Or.inl h8))) (fun h9 => h9.elim (fun h8 => (Or.inr (Or.inr (Or.inl h8)))) (fun h9 => h9.elim (fun h8 => (Or.inr (Or.inr (Or.inr (Or.inl h8))))) (fun h8 => (Or.inr (Or.inr (Or.inr (Or.inr h8)))))))) h9), (fun f9 h9 => h9.elim), (fun h9 => (fun h8 => h8) h9)⟩)
  exact j_vret C M dX9_startJob_12 (Nat.le_of_ble_eq_true rfl) (Nat.le_of_ble_eq_true rfl) ⟨rfl, hf_16⟩

theorem dX9_bytesOfMacros_0 : decode cX9_bytesOfMacros 0 = .ok (.iconst 0, 1) := by decide +kernel
theorem dX9_bytesOfMacros_1 : decode cX9_bytesOfMacros 1 = .ok (.istore_n 1, 1) := by decide +kernel
theorem dX9_bytesOfMacros_2 : decode cX9_bytesOfMacros 2 = .ok (.iconst 0, 1) := by decide +kernel
theorem dX9_bytesOfMacros_3 : decode cX9_bytesOfMacros 3 = .ok (.istore_n 2, 1) := by decide +kernel
theorem dX9_bytesOfMacros_4 : decode cX9_bytesOfMacros 4 = .ok (.iload_n 2, 1) := by decide +kernel
theorem dX9_bytesOfMacros_5 : decode cX9_bytesOfMacros 5 = .ok (.aload_n 0, 1) := by decide +kernel
theorem dX9_bytesOfMacros_6 : decode cX9_bytesOfMacros 6 = .ok (.getfield 50, 3) := by decide +kernel
theorem dX9_bytesOfMacros_9 : decode cX9_bytesOfMacros 9 = .ok (.arraylength, 1) := by decide +kernel
theorem dX9_bytesOfMacros_10 : decode cX9_bytesOfMacros 10 = .ok (.if_icmp .ge 33, 3) := by decide +kernel
theorem dX9_bytesOfMacros_13 : decode cX9_bytesOfMacros 13 = .ok (.iload_n 1, 1) := by decide +kernel
theorem dX9_bytesOfMacros_14 : decode cX9_bytesOfMacros 14 = .ok (.aload_n 0, 1) := by decide +kernel
theorem dX9_bytesOfMacros_15 : decode cX9_bytesOfMacros 15 = .ok (.getfield 43, 3) := by decide +kernel
theorem dX9_bytesOfMacros_18 : decode cX9_bytesOfMacros 18 = .ok (.iload_n 2, 1) := by decide +kernel
theorem dX9_bytesOfMacros_19 : decode cX9_bytesOfMacros 19 = .ok (.invokevirtual 192, 3) := by decide +kernel
theorem dX9_bytesOfMacros_22 : decode cX9_bytesOfMacros 22 = .ok (.ifCond .eq 12, 3) := by decide +kernel
theorem dX9_bytesOfMacros_25 : decode cX9_bytesOfMacros 25 = .ok (.aload_n 0, 1) := by decide +kernel
theorem dX9_bytesOfMacros_26 : decode cX9_bytesOfMacros 26 = .ok (.getfield 50, 3) := by decide +kernel
theorem dX9_bytesOfMacros_29 : decode cX9_bytesOfMacros 29 = .ok (.iload_n 2, 1) := by decide +kernel
theorem dX9_bytesOfMacros_30 : decode cX9_bytesOfMacros 30 = .ok (.iaload, 1) := by decide +kernel
theorem dX9_bytesOfMacros_31 : decode cX9_bytesOfMacros 31 = .ok (.goto 4, 3) := by decide +kernel
theorem dX9_bytesOfMacros_34 : decode cX9_bytesOfMacros 34 = .ok (.iconst 0, 1) := by decide +kernel
theorem dX9_bytesOfMacros_35 : decode cX9_bytesOfMacros 35 = .ok (.iadd, 1) := by decide +kernel
theorem dX9_bytesOfMacros_36 : decode cX9_bytesOfMacros 36 = .ok (.istore_n 1, 1) := by decide +kernel
theorem dX9_bytesOfMacros_37 : decode cX9_bytesOfMacros 37 = .ok (.iinc 2 1, 3) := by decide +kernel
theorem dX9_bytesOfMacros_40 : decode cX9_bytesOfMacros 40 = .ok (.goto (-36), 3) := by decide +kernel
theorem dX9_bytesOfMacros_43 : decode cX9_bytesOfMacros 43 = .ok (.iload_n 1, 1) := by decide +kernel
theorem dX9_bytesOfMacros_44 : decode cX9_bytesOfMacros 44 = .ok (.ireturn, 1) := by decide +kernel
set_option maxRecDepth 100000 in
set_option maxHeartbeats 4000000 in
theorem c_X9_bytesOfMacros (S : Hp) (h : Nat) (hm : h ∈ hL S) (hk : hK S h = 9) (s : Nat) (rs : hR S 906 h = some s) (ms : s ∈ hL S) (ks : Kd S s 8) (q : Nat) (rq : hR S 800 s = some q) (mq : q ∈ hL S) (kq : Kd S q 14) (lq : Ln S q 16) (zq : ∀ j, aI S q j = 0) (z : Nat) (rz : hR S 908 h = some z) (mz : z ∈ hL S) (kz : Kd S z 14) (lz : Ln S z 16) : Ct 2 yX9_bytesOfMacros cX9_bytesOfMacros 3 (some .int) 0 0 [.ref h] S (fun r S' => r = some (.int 0) ∧ Fm (fun _ _ => False) (fun _ _ => False) (fun _ => False) S S') := by
  refine ct_of (by decide) (Nat.le_of_ble_eq_true rfl) fun x hn9 C M hm9 => ?_
  have C : CB x RX9 cX9_bytesOfMacros := C
  refine J.eq (lv' := [(0, .ref h)]) rfl rfl rfl ?_
  refine j_iconst (v := 0) C dX9_bytesOfMacros_0 (by decide) ?_
  refine j_istore_n (lv' := [(1, .int 0), (0, .ref h)]) C dX9_bytesOfMacros_1 rfl (by rw [hn9]; decide) rfl ?_
  refine j_iconst (v := 0) C dX9_bytesOfMacros_2 (by decide) ?_
  refine j_istore_n (lv' := [(2, .int 0), (1, .int 0), (0, .ref h)]) C dX9_bytesOfMacros_3 rfl (by rw [hn9]; decide) rfl ?_
  refine j_iload_n C dX9_bytesOfMacros_4 rfl 0 rfl ?_
  refine j_aload_n C dX9_bytesOfMacros_5 rfl 2 rfl ?_
  refine j_getr (f := 908) (v := z) C flX9_50 dX9_bytesOfMacros_6 hm hk (by decide) rfl rz ?_
  refine j_alen (v := 16) C dX9_bytesOfMacros_9 mz kz (by decide) (by decide) (len_of (n := 16) lz (by decide)) ?_
  show J _ _ _ _ _ 10 _
  refine j_ic_ge (tgt := 43) C dX9_bytesOfMacros_10 (by decide) (fun c9 => absurd c9 (by decide)) (fun c9 => ?_)
  refine j_iload_n C dX9_bytesOfMacros_13 rfl 1 rfl ?_
  refine j_aload_n C dX9_bytesOfMacros_14 rfl 2 rfl ?_
  refine j_getr (f := 906) (v := s) C flX9_43 dX9_bytesOfMacros_15 hm hk (by decide) rfl rs ?_
  refine j_iload_n C dX9_bytesOfMacros_18 rfl 0 rfl ?_
  refine j_callV (ci := 8) C [.int 0] [.int 0] mlX9_192 mcX8_has (c_X8_has S s ms ks q rq mq kq lq zq 0) ms ks rfl (M.rm (by decide) (by decide) (Nat.le_of_ble_eq_true rfl) (Nat.le_of_ble_eq_true rfl)) rfl rfl (Nat.le_of_ble_eq_true rfl) dX9_bytesOfMacros_19 (fun r_1 S_2 hp_3 => ?_)
  obtain ⟨rfl, hf_4⟩ := hp_3
  refine J.eq (st' := [.int 0, .int 0]) rfl rfl rfl ?_
  have hz_5 : ∀ j, aI S_2 q j = 0 := fun j9 => (hf_4.ai mq (fun h9 => h9) j9).trans (zq j9)
  have hm_6 : h ∈ hL S_2 := hf_4.mem hm
  have hk_7 : Kd S_2 h 9 := hf_4.kd hm hk
  have hm_8 : q ∈ hL S_2 := hf_4.mem mq
  have hk_9 : Kd S_2 q 14 := hf_4.kd mq kq
  have hn_10 : Ln S_2 q 16 := hf_4.ln mq lq
  have hm_11 : s ∈ hL S_2 := hf_4.mem ms
  have hk_12 : Kd S_2 s 8 := hf_4.kd ms ks
  have hm_13 : z ∈ hL S_2 := hf_4.mem mz
  have hk_14 : Kd S_2 z 14 := hf_4.kd mz kz
  have hn_15 : Ln S_2 z 16 := hf_4.ln mz lz
  have hv_16 : hR S_2 800 s = (some q) := hf_4.fr ms (fun h9 => h9) rq
  have hv_17 : hR S_2 906 h = (some s) := hf_4.fr hm (fun h9 => h9) rs
  have hv_18 : hR S_2 908 h = (some z) := hf_4.fr hm (fun h9 => h9) rz
  have hf_19 : Fm (fun _ _ => False) (fun _ _ => False) (fun _ => False) S S_2 := (Fm.refl (WI := (fun _ _ => False)) (WR := (fun _ _ => False)) (WA := (fun _ => False))).then hf_4 (fun a9 ha9 => ⟨(fun f9 h9 => h9.elim), (fun f9 h9 => h9.elim), (fun h9 => h9.elim)⟩)
  refine j_if_eq (tgt := 34) C dX9_bytesOfMacros_22 (by decide) (fun c9 => ?_) (fun c9 => absurd (by decide) c9)
  refine j_iconst (v := 0) C dX9_bytesOfMacros_34 (by decide) ?_
  show J _ _ _ _ _ 35 _
  refine j_iadd (v := 0) C dX9_bytesOfMacros_35 (by decide) ?_
  refine j_istore_n (lv' := [(1, .int 0), (2, .int 0), (0, .ref h)]) C dX9_bytesOfMacros_36 rfl (by rw [hn9]; decide) rfl ?_
  refine j_iinc (q := 1) (v := 1) (lv' := [(2, .int 1), (1, .int 0), (0, .ref h)]) C dX9_bytesOfMacros_37 rfl (by decide) (by rw [hn9]; decide) rfl ?_
  refine j_goto (tgt := 4) C dX9_bytesOfMacros_40 (by decide) ?_
  refine j_iload_n C dX9_bytesOfMacros_4 rfl 0 rfl ?_
  refine j_aload_n C dX9_bytesOfMacros_5 rfl 2 rfl ?_
  refine j_getr (f := 908) (v := z) C flX9_50 dX9_bytesOfMacros_6 hm_6 hk_7 (by decide) rfl hv_18 ?_
  refine j_alen (v := 16) C dX9_bytesOfMacros_9 hm_13 hk_14 (by decide) (by decide) (len_of (n := 16) hn_15 (by decide)) ?_
  show J _ _ _ _ _ 10 _
  refine j_ic_ge (tgt := 43) C dX9_bytesOfMacros_10 (by decide) (fun c9 => absurd c9 (by decide)) (fun c9 => ?_)
  refine j_iload_n C dX9_bytesOfMacros_13 rfl 1 rfl ?_
  refine j_aload_n C dX9_bytesOfMacros_14 rfl 2 rfl ?_
  refine j_getr (f := 906) (v := s) C flX9_43 dX9_bytesOfMacros_15 hm_6 hk_7 (by decide) rfl hv_17 ?_
  refine j_iload_n C dX9_bytesOfMacros_18 rfl 0 rfl ?_
  refine j_callV (ci := 8) C [.int 1] [.int 0] mlX9_192 mcX8_has (c_X8_has S_2 s hm_11 hk_12 q hv_16 hm_8 hk_9 hn_10 hz_5 1) hm_11 hk_12 rfl (M.rm (by decide) (by decide) (Nat.le_of_ble_eq_true rfl) (Nat.le_of_ble_eq_true rfl)) rfl rfl (Nat.le_of_ble_eq_true rfl) dX9_bytesOfMacros_19 (fun r_20 S_21 hp_22 => ?_)
  obtain ⟨rfl, hf_23⟩ := hp_22
  refine J.eq (st' := [.int 0, .int 0]) rfl rfl rfl ?_
  have hz_24 : ∀ j, aI S_21 q j = 0 := fun j9 => (hf_23.ai hm_8 (fun h9 => h9) j9).trans (hz_5 j9)
  have hm_25 : h ∈ hL S_21 := hf_23.mem hm_6
  have hk_26 : Kd S_21 h 9 := hf_23.kd hm_6 hk_7
  have hm_27 : q ∈ hL S_21 := hf_23.mem hm_8
  have hk_28 : Kd S_21 q 14 := hf_23.kd hm_8 hk_9
  have hn_29 : Ln S_21 q 16 := hf_23.ln hm_8 hn_10
  have hm_30 : s ∈ hL S_21 := hf_23.mem hm_11
  have hk_31 : Kd S_21 s 8 := hf_23.kd hm_11 hk_12
  have hm_32 : z ∈ hL S_21 := hf_23.mem hm_13
  have hk_33 : Kd S_21 z 14 := hf_23.kd hm_13 hk_14
  have hn_34 : Ln S_21 z 16 := hf_23.ln hm_13 hn_15
  have hv_35 : hR S_21 800 s = (some q) := hf_23.fr hm_11 (fun h9 => h9) hv_16
  have hv_36 : hR S_21 906 h = (some s) := hf_23.fr hm_6 (fun h9 => h9) hv_17
  have hv_37 : hR S_21 908 h = (some z) := hf_23.fr hm_6 (fun h9 => h9) hv_18
  have hf_38 : Fm (fun _ _ => False) (fun _ _ => False) (fun _ => False) S S_21 := hf_19.then hf_23 (fun a9 ha9 => ⟨(fun f9 h9 => h9.elim), (fun f9 h9 => h9.elim), (fun h9 => h9.elim)⟩)
  refine j_if_eq (tgt := 34) C dX9_bytesOfMacros_22 (by decide) (fun c9 => ?_) (fun c9 => absurd (by decide) c9)
  refine j_iconst (v := 0) C dX9_bytesOfMacros_34 (by decide) ?_
  show J _ _ _ _ _ 35 _
  refine j_iadd (v := 0) C dX9_bytesOfMacros_35 (by decide) ?_
  refine j_istore_n (lv' := [(1, .int 0), (2, .int 1), (0, .ref h)]) C dX9_bytesOfMacros_36 rfl (by rw [hn9]; decide) rfl ?_
  refine j_iinc (q := 1) (v := 2) (lv' := [(2, .int 2), (1, .int 0), (0, .ref h)]) C dX9_bytesOfMacros_37 rfl (by decide) (by rw [hn9]; decide) rfl ?_
  refine j_goto (tgt := 4) C dX9_bytesOfMacros_40 (by decide) ?_
  refine j_iload_n C dX9_bytesOfMacros_4 rfl 0 rfl ?_
  refine j_aload_n C dX9_bytesOfMacros_5 rfl 2 rfl ?_
  refine j_getr (f := 908) (v := z) C flX9_50 dX9_bytesOfMacros_6 hm_25 hk_26 (by decide) rfl hv_37 ?_
  refine j_alen (v := 16) C dX9_bytesOfMacros_9 hm_32 hk_33 (by decide) (by decide) (len_of (n := 16) hn_34 (by decide)) ?_
  show J _ _ _ _ _ 10 _
  refine j_ic_ge (tgt := 43) C dX9_bytesOfMacros_10 (by decide) (fun c9 => absurd c9 (by decide)) (fun c9 => ?_)
  refine j_iload_n C dX9_bytesOfMacros_13 rfl 1 rfl ?_
  refine j_aload_n C dX9_bytesOfMacros_14 rfl 2 rfl ?_
  refine j_getr (f := 906) (v := s) C flX9_43 dX9_bytesOfMacros_15 hm_25 hk_26 (by decide) rfl hv_36 ?_
  refine j_iload_n C dX9_bytesOfMacros_18 rfl 0 rfl ?_
  refine j_callV (ci := 8) C [.int 2] [.int 0] mlX9_192 mcX8_has (c_X8_has S_21 s hm_30 hk_31 q hv_35 hm_27 hk_28 hn_29 hz_24 2) hm_30 hk_31 rfl (M.rm (by decide) (by decide) (Nat.le_of_ble_eq_true rfl) (Nat.le_of_ble_eq_true rfl)) rfl rfl (Nat.le_of_ble_eq_true rfl) dX9_bytesOfMacros_19 (fun r_39 S_40 hp_41 => ?_)
  obtain ⟨rfl, hf_42⟩ := hp_41
  refine J.eq (st' := [.int 0, .int 0]) rfl rfl rfl ?_
  have hz_43 : ∀ j, aI S_40 q j = 0 := fun j9 => (hf_42.ai hm_27 (fun h9 => h9) j9).trans (hz_24 j9)
  have hm_44 : h ∈ hL S_40 := hf_42.mem hm_25
  have hk_45 : Kd S_40 h 9 := hf_42.kd hm_25 hk_26
  have hm_46 : q ∈ hL S_40 := hf_42.mem hm_27
  have hk_47 : Kd S_40 q 14 := hf_42.kd hm_27 hk_28
  have hn_48 : Ln S_40 q 16 := hf_42.ln hm_27 hn_29
  have hm_49 : s ∈ hL S_40 := hf_42.mem hm_30
  have hk_50 : Kd S_40 s 8 := hf_42.kd hm_30 hk_31
  have hm_51 : z ∈ hL S_40 := hf_42.mem hm_32
  have hk_52 : Kd S_40 z 14 := hf_42.kd hm_32 hk_33
  have hn_53 : Ln S_40 z 16 := hf_42.ln hm_32 hn_34
  have hv_54 : hR S_40 800 s = (some q) := hf_42.fr hm_30 (fun h9 => h9) hv_35
  have hv_55 : hR S_40 906 h = (some s) := hf_42.fr hm_25 (fun h9 => h9) hv_36
  have hv_56 : hR S_40 908 h = (some z) := hf_42.fr hm_25 (fun h9 => h9) hv_37
  have hf_57 : Fm (fun _ _ => False) (fun _ _ => False) (fun _ => False) S S_40 := hf_38.then hf_42 (fun a9 ha9 => ⟨(fun f9 h9 => h9.elim), (fun f9 h9 => h9.elim), (fun h9 => h9.elim)⟩)
  refine j_if_eq (tgt := 34) C dX9_bytesOfMacros_22 (by decide) (fun c9 => ?_) (fun c9 => absurd (by decide) c9)
  refine j_iconst (v := 0) C dX9_bytesOfMacros_34 (by decide) ?_
  show J _ _ _ _ _ 35 _
  refine j_iadd (v := 0) C dX9_bytesOfMacros_35 (by decide) ?_
  refine j_istore_n (lv' := [(1, .int 0), (2, .int 2), (0, .ref h)]) C dX9_bytesOfMacros_36 rfl (by rw [hn9]; decide) rfl ?_
  refine j_iinc (q := 1) (v := 3) (lv' := [(2, .int 3), (1, .int 0), (0, .ref h)]) C dX9_bytesOfMacros_37 rfl (by decide) (by rw [hn9]; decide) rfl ?_
  refine j_goto (tgt := 4) C dX9_bytesOfMacros_40 (by decide) ?_
  refine j_iload_n C dX9_bytesOfMacros_4 rfl 0 rfl ?_
  refine j_aload_n C dX9_bytesOfMacros_5 rfl 2 rfl ?_
  refine j_getr (f := 908) (v := z) C flX9_50 dX9_bytesOfMacros_6 hm_44 hk_45 (by decide) rfl hv_56 ?_
  refine j_alen (v := 16) C dX9_bytesOfMacros_9 hm_51 hk_52 (by decide) (by decide) (len_of (n := 16) hn_53 (by decide)) ?_
  show J _ _ _ _ _ 10 _
  refine j_ic_ge (tgt := 43) C dX9_bytesOfMacros_10 (by decide) (fun c9 => absurd c9 (by decide)) (fun c9 => ?_)
  refine j_iload_n C dX9_bytesOfMacros_13 rfl 1 rfl ?_
  refine j_aload_n C dX9_bytesOfMacros_14 rfl 2 rfl ?_
  refine j_getr (f := 906) (v := s) C flX9_43 dX9_bytesOfMacros_15 hm_44 hk_45 (by decide) rfl hv_55 ?_
  refine j_iload_n C dX9_bytesOfMacros_18 rfl 0 rfl ?_
  refine j_callV (ci := 8) C [.int 3] [.int 0] mlX9_192 mcX8_has (c_X8_has S_40 s hm_49 hk_50 q hv_54 hm_46 hk_47 hn_48 hz_43 3) hm_49 hk_50 rfl (M.rm (by decide) (by decide) (Nat.le_of_ble_eq_true rfl) (Nat.le_of_ble_eq_true rfl)) rfl rfl (Nat.le_of_ble_eq_true rfl) dX9_bytesOfMacros_19 (fun r_58 S_59 hp_60 => ?_)
  obtain ⟨rfl, hf_61⟩ := hp_60
  refine J.eq (st' := [.int 0, .int 0]) rfl rfl rfl ?_
  have hz_62 : ∀ j, aI S_59 q j = 0 := fun j9 => (hf_61.ai hm_46 (fun h9 => h9) j9).trans (hz_43 j9)
  have hm_63 : h ∈ hL S_59 := hf_61.mem hm_44
  have hk_64 : Kd S_59 h 9 := hf_61.kd hm_44 hk_45
  have hm_65 : q ∈ hL S_59 := hf_61.mem hm_46
  have hk_66 : Kd S_59 q 14 := hf_61.kd hm_46 hk_47
  have hn_67 : Ln S_59 q 16 := hf_61.ln hm_46 hn_48
  have hm_68 : s ∈ hL S_59 := hf_61.mem hm_49
  have hk_69 : Kd S_59 s 8 := hf_61.kd hm_49 hk_50
  have hm_70 : z ∈ hL S_59 := hf_61.mem hm_51
  have hk_71 : Kd S_59 z 14 := hf_61.kd hm_51 hk_52
  have hn_72 : Ln S_59 z 16 := hf_61.ln hm_51 hn_53
  have hv_73 : hR S_59 800 s = (some q) := hf_61.fr hm_49 (fun h9 => h9) hv_54
  have hv_74 : hR S_59 906 h = (some s) := hf_61.fr hm_44 (fun h9 => h9) hv_55
  have hv_75 : hR S_59 908 h = (some z) := hf_61.fr hm_44 (fun h9 => h9) hv_56
  have hf_76 : Fm (fun _ _ => False) (fun _ _ => False) (fun _ => False) S S_59 := hf_57.then hf_61 (fun a9 ha9 => ⟨(fun f9 h9 => h9.elim), (fun f9 h9 => h9.elim), (fun h9 => h9.elim)⟩)
  refine j_if_eq (tgt := 34) C dX9_bytesOfMacros_22 (by decide) (fun c9 => ?_) (fun c9 => absurd (by decide) c9)
  refine j_iconst (v := 0) C dX9_bytesOfMacros_34 (by decide) ?_
  show J _ _ _ _ _ 35 _
  refine j_iadd (v := 0) C dX9_bytesOfMacros_35 (by decide) ?_
  refine j_istore_n (lv' := [(1, .int 0), (2, .int 3), (0, .ref h)]) C dX9_bytesOfMacros_36 rfl (by rw [hn9]; decide) rfl ?_
  refine j_iinc (q := 1) (v := 4) (lv' := [(2, .int 4), (1, .int 0), (0, .ref h)]) C dX9_bytesOfMacros_37 rfl (by decide) (by rw [hn9]; decide) rfl ?_
  refine j_goto (tgt := 4) C dX9_bytesOfMacros_40 (by decide) ?_
  refine j_iload_n C dX9_bytesOfMacros_4 rfl 0 rfl ?_
  refine j_aload_n C dX9_bytesOfMacros_5 rfl 2 rfl ?_
  refine j_getr (f := 908) (v := z) C flX9_50 dX9_bytesOfMacros_6 hm_63 hk_64 (by decide) rfl hv_75 ?_
  refine j_alen (v := 16) C dX9_bytesOfMacros_9 hm_70 hk_71 (by decide) (by decide) (len_of (n := 16) hn_72 (by decide)) ?_
  show J _ _ _ _ _ 10 _
  refine j_ic_ge (tgt := 43) C dX9_bytesOfMacros_10 (by decide) (fun c9 => absurd c9 (by decide)) (fun c9 => ?_)
  refine j_iload_n C dX9_bytesOfMacros_13 rfl 1 rfl ?_
  refine j_aload_n C dX9_bytesOfMacros_14 rfl 2 rfl ?_
  refine j_getr (f := 906) (v := s) C flX9_43 dX9_bytesOfMacros_15 hm_63 hk_64 (by decide) rfl hv_74 ?_
  refine j_iload_n C dX9_bytesOfMacros_18 rfl 0 rfl ?_
  refine j_callV (ci := 8) C [.int 4] [.int 0] mlX9_192 mcX8_has (c_X8_has S_59 s hm_68 hk_69 q hv_73 hm_65 hk_66 hn_67 hz_62 4) hm_68 hk_69 rfl (M.rm (by decide) (by decide) (Nat.le_of_ble_eq_true rfl) (Nat.le_of_ble_eq_true rfl)) rfl rfl (Nat.le_of_ble_eq_true rfl) dX9_bytesOfMacros_19 (fun r_77 S_78 hp_79 => ?_)
  obtain ⟨rfl, hf_80⟩ := hp_79
  refine J.eq (st' := [.int 0, .int 0]) rfl rfl rfl ?_
  have hz_81 : ∀ j, aI S_78 q j = 0 := fun j9 => (hf_80.ai hm_65 (fun h9 => h9) j9).trans (hz_62 j9)
  have hm_82 : h ∈ hL S_78 := hf_80.mem hm_63
  have hk_83 : Kd S_78 h 9 := hf_80.kd hm_63 hk_64
  have hm_84 : q ∈ hL S_78 := hf_80.mem hm_65
  have hk_85 : Kd S_78 q 14 := hf_80.kd hm_65 hk_66
  have hn_86 : Ln S_78 q 16 := hf_80.ln hm_65 hn_67
  have hm_87 : s ∈ hL S_78 := hf_80.mem hm_68
  have hk_88 : Kd S_78 s 8 := hf_80.kd hm_68 hk_69
  have hm_89 : z ∈ hL S_78 := hf_80.mem hm_70
  have hk_90 : Kd S_78 z 14 := hf_80.kd hm_70 hk_71
  have hn_91 : Ln S_78 z 16 := hf_80.ln hm_70 hn_72
  have hv_92 : hR S_78 800 s = (some q) := hf_80.fr hm_68 (fun h9 => h9) hv_73
  have hv_93 : hR S_78 906 h = (some s) := hf_80.fr hm_63 (fun h9 => h9) hv_74
  have hv_94 : hR S_78 908 h = (some z) := hf_80.fr hm_63 (fun h9 => h9) hv_75
  have hf_95 : Fm (fun _ _ => False) (fun _ _ => False) (fun _ => False) S S_78 := hf_76.then hf_80 (fun a9 ha9 => ⟨(fun f9 h9 => h9.elim), (fun f9 h9 => h9.elim), (fun h9 => h9.elim)⟩)
  refine j_if_eq (tgt := 34) C dX9_bytesOfMacros_22 (by decide) (fun c9 => ?_) (fun c9 => absurd (by decide) c9)
  refine j_iconst (v := 0) C dX9_bytesOfMacros_34 (by decide) ?_
  show J _ _ _ _ _ 35 _
  refine j_iadd (v := 0) C dX9_bytesOfMacros_35 (by decide) ?_
  refine j_istore_n (lv' := [(1, .int 0), (2, .int 4), (0, .ref h)]) C dX9_bytesOfMacros_36 rfl (by rw [hn9]; decide) rfl ?_
  refine j_iinc (q := 1) (v := 5) (lv' := [(2, .int 5), (1, .int 0), (0, .ref h)]) C dX9_bytesOfMacros_37 rfl (by decide) (by rw [hn9]; decide) rfl ?_
  refine j_goto (tgt := 4) C dX9_bytesOfMacros_40 (by decide) ?_
  refine j_iload_n C dX9_bytesOfMacros_4 rfl 0 rfl ?_
  refine j_aload_n C dX9_bytesOfMacros_5 rfl 2 rfl ?_
  refine j_getr (f := 908) (v := z) C flX9_50 dX9_bytesOfMacros_6 hm_82 hk_83 (by decide) rfl hv_94 ?_
  refine j_alen (v := 16) C dX9_bytesOfMacros_9 hm_89 hk_90 (by decide) (by decide) (len_of (n := 16) hn_91 (by decide)) ?_
  show J _ _ _ _ _ 10 _
  refine j_ic_ge (tgt := 43) C dX9_bytesOfMacros_10 (by decide) (fun c9 => absurd c9 (by decide)) (fun c9 => ?_)
  refine j_iload_n C dX9_bytesOfMacros_13 rfl 1 rfl ?_
  refine j_aload_n C dX9_bytesOfMacros_14 rfl 2 rfl ?_
  refine j_getr (f := 906) (v := s) C flX9_43 dX9_bytesOfMacros_15 hm_82 hk_83 (by decide) rfl hv_93 ?_
  refine j_iload_n C dX9_bytesOfMacros_18 rfl 0 rfl ?_
  refine j_callV (ci := 8) C [.int 5] [.int 0] mlX9_192 mcX8_has (c_X8_has S_78 s hm_87 hk_88 q hv_92 hm_84 hk_85 hn_86 hz_81 5) hm_87 hk_88 rfl (M.rm (by decide) (by decide) (Nat.le_of_ble_eq_true rfl) (Nat.le_of_ble_eq_true rfl)) rfl rfl (Nat.le_of_ble_eq_true rfl) dX9_bytesOfMacros_19 (fun r_96 S_97 hp_98 => ?_)
  obtain ⟨rfl, hf_99⟩ := hp_98
  refine J.eq (st' := [.int 0, .int 0]) rfl rfl rfl ?_
  have hz_100 : ∀ j, aI S_97 q j = 0 := fun j9 => (hf_99.ai hm_84 (fun h9 => h9) j9).trans (hz_81 j9)
  have hm_101 : h ∈ hL S_97 := hf_99.mem hm_82
  have hk_102 : Kd S_97 h 9 := hf_99.kd hm_82 hk_83
  have hm_103 : q ∈ hL S_97 := hf_99.mem hm_84
  have hk_104 : Kd S_97 q 14 := hf_99.kd hm_84 hk_85
  have hn_105 : Ln S_97 q 16 := hf_99.ln hm_84 hn_86
  have hm_106 : s ∈ hL S_97 := hf_99.mem hm_87
  have hk_107 : Kd S_97 s 8 := hf_99.kd hm_87 hk_88
  have hm_108 : z ∈ hL S_97 := hf_99.mem hm_89
  have hk_109 : Kd S_97 z 14 := hf_99.kd hm_89 hk_90
  have hn_110 : Ln S_97 z 16 := hf_99.ln hm_89 hn_91
  have hv_111 : hR S_97 800 s = (some q) := hf_99.fr hm_87 (fun h9 => h9) hv_92
  have hv_112 : hR S_97 906 h = (some s) := hf_99.fr hm_82 (fun h9 => h9) hv_93
  have hv_113 : hR S_97 908 h = (some z) := hf_99.fr hm_82 (fun h9 => h9) hv_94
  have hf_114 : Fm (fun _ _ => False) (fun _ _ => False) (fun _ => False) S S_97 := hf_95.then hf_99 (fun a9 ha9 => ⟨(fun f9 h9 => h9.elim), (fun f9 h9 => h9.elim), (fun h9 => h9.elim)⟩)
  refine j_if_eq (tgt := 34) C dX9_bytesOfMacros_22 (by decide) (fun c9 => ?_) (fun c9 => absurd (by decide) c9)
  refine j_iconst (v := 0) C dX9_bytesOfMacros_34 (by decide) ?_
  show J _ _ _ _ _ 35 _
  refine j_iadd (v := 0) C dX9_bytesOfMacros_35 (by decide) ?_
  refine j_istore_n (lv' := [(1, .int 0), (2, .int 5), (0, .ref h)]) C dX9_bytesOfMacros_36 rfl (by rw [hn9]; decide) rfl ?_
  refine j_iinc (q := 1) (v := 6) (lv' := [(2, .int 6), (1, .int 0), (0, .ref h)]) C dX9_bytesOfMacros_37 rfl (by decide) (by rw [hn9]; decide) rfl ?_
  refine j_goto (tgt := 4) C dX9_bytesOfMacros_40 (by decide) ?_
  refine j_iload_n C dX9_bytesOfMacros_4 rfl 0 rfl ?_
  refine j_aload_n C dX9_bytesOfMacros_5 rfl 2 rfl ?_
  refine j_getr (f := 908) (v := z) C flX9_50 dX9_bytesOfMacros_6 hm_101 hk_102 (by decide) rfl hv_113 ?_
  refine j_alen (v := 16) C dX9_bytesOfMacros_9 hm_108 hk_109 (by decide) (by decide) (len_of (n := 16) hn_110 (by decide)) ?_
  show J _ _ _ _ _ 10 _
  refine j_ic_ge (tgt := 43) C dX9_bytesOfMacros_10 (by decide) (fun c9 => absurd c9 (by decide)) (fun c9 => ?_)
  refine j_iload_n C dX9_bytesOfMacros_13 rfl 1 rfl ?_
  refine j_aload_n C dX9_bytesOfMacros_14 rfl 2 rfl ?_
  refine j_getr (f := 906) (v := s) C flX9_43 dX9_bytesOfMacros_15 hm_101 hk_102 (by decide) rfl hv_112 ?_
  refine j_iload_n C dX9_bytesOfMacros_18 rfl 0 rfl ?_
  refine j_callV (ci := 8) C [.int 6] [.int 0] mlX9_192 mcX8_has (c_X8_has S_97 s hm_106 hk_107 q hv_111 hm_103 hk_104 hn_105 hz_100 6) hm_106 hk_107 rfl (M.rm (by decide) (by decide) (Nat.le_of_ble_eq_true rfl) (Nat.le_of_ble_eq_true rfl)) rfl rfl (Nat.le_of_ble_eq_true rfl) dX9_bytesOfMacros_19 (fun r_115 S_116 hp_117 => ?_)
  obtain ⟨rfl, hf_118⟩ := hp_117
  refine J.eq (st' := [.int 0, .int 0]) rfl rfl rfl ?_
  have hz_119 : ∀ j, aI S_116 q j = 0 := fun j9 => (hf_118.ai hm_103 (fun h9 => h9) j9).trans (hz_100 j9)
  have hm_120 : h ∈ hL S_116 := hf_118.mem hm_101
  have hk_121 : Kd S_116 h 9 := hf_118.kd hm_101 hk_102
  have hm_122 : q ∈ hL S_116 := hf_118.mem hm_103
  have hk_123 : Kd S_116 q 14 := hf_118.kd hm_103 hk_104
  have hn_124 : Ln S_116 q 16 := hf_118.ln hm_103 hn_105
  have hm_125 : s ∈ hL S_116 := hf_118.mem hm_106
  have hk_126 : Kd S_116 s 8 := hf_118.kd hm_106 hk_107
  have hm_127 : z ∈ hL S_116 := hf_118.mem hm_108
  have hk_128 : Kd S_116 z 14 := hf_118.kd hm_108 hk_109
  have hn_129 : Ln S_116 z 16 := hf_118.ln hm_108 hn_110
  have hv_130 : hR S_116 800 s = (some q) := hf_118.fr hm_106 (fun h9 => h9) hv_111
  have hv_131 : hR S_116 906 h = (some s) := hf_118.fr hm_101 (fun h9 => h9) hv_112
  have hv_132 : hR S_116 908 h = (some z) := hf_118.fr hm_101 (fun h9 => h9) hv_113
  have hf_133 : Fm (fun _ _ => False) (fun _ _ => False) (fun _ => False) S S_116 := hf_114.then hf_118 (fun a9 ha9 => ⟨(fun f9 h9 => h9.elim), (fun f9 h9 => h9.elim), (fun h9 => h9.elim)⟩)
  refine j_if_eq (tgt := 34) C dX9_bytesOfMacros_22 (by decide) (fun c9 => ?_) (fun c9 => absurd (by decide) c9)
  refine j_iconst (v := 0) C dX9_bytesOfMacros_34 (by decide) ?_
  show J _ _ _ _ _ 35 _
  refine j_iadd (v := 0) C dX9_bytesOfMacros_35 (by decide) ?_
  refine j_istore_n (lv' := [(1, .int 0), (2, .int 6), (0, .ref h)]) C dX9_bytesOfMacros_36 rfl (by rw [hn9]; decide) rfl ?_
  refine j_iinc (q := 1) (v := 7) (lv' := [(2, .int 7), (1, .int 0), (0, .ref h)]) C dX9_bytesOfMacros_37 rfl (by decide) (by rw [hn9]; decide) rfl ?_
  refine j_goto (tgt := 4) C dX9_bytesOfMacros_40 (by decide) ?_
  refine j_iload_n C dX9_bytesOfMacros_4 rfl 0 rfl ?_
  refine j_aload_n C dX9_bytesOfMacros_5 rfl 2 rfl ?_
  refine j_getr (f := 908) (v := z) C flX9_50 dX9_bytesOfMacros_6 hm_120 hk_121 (by decide) rfl hv_132 ?_
  refine j_alen (v := 16) C dX9_bytesOfMacros_9 hm_127 hk_128 (by decide) (by decide) (len_of (n := 16) hn_129 (by decide)) ?_
  show J _ _ _ _ _ 10 _
  refine j_ic_ge (tgt := 43) C dX9_bytesOfMacros_10 (by decide) (fun c9 => absurd c9 (by decide)) (fun c9 => ?_)
  refine j_iload_n C dX9_bytesOfMacros_13 rfl 1 rfl ?_
  refine j_aload_n C dX9_bytesOfMacros_14 rfl 2 rfl ?_
  refine j_getr (f := 906) (v := s) C flX9_43 dX9_bytesOfMacros_15 hm_120 hk_121 (by decide) rfl hv_131 ?_
  refine j_iload_n C dX9_bytesOfMacros_18 rfl 0 rfl ?_
  refine j_callV (ci := 8) C [.int 7] [.int 0] mlX9_192 mcX8_has (c_X8_has S_116 s hm_125 hk_126 q hv_130 hm_122 hk_123 hn_124 hz_119 7) hm_125 hk_126 rfl (M.rm (by decide) (by decide) (Nat.le_of_ble_eq_true rfl) (Nat.le_of_ble_eq_true rfl)) rfl rfl (Nat.le_of_ble_eq_true rfl) dX9_bytesOfMacros_19 (fun r_134 S_135 hp_136 => ?_)
  obtain ⟨rfl, hf_137⟩ := hp_136
  refine J.eq (st' := [.int 0, .int 0]) rfl rfl rfl ?_
  have hz_138 : ∀ j, aI S_135 q j = 0 := fun j9 => (hf_137.ai hm_122 (fun h9 => h9) j9).trans (hz_119 j9)
  have hm_139 : h ∈ hL S_135 := hf_137.mem hm_120
  have hk_140 : Kd S_135 h 9 := hf_137.kd hm_120 hk_121
  have hm_141 : q ∈ hL S_135 := hf_137.mem hm_122
  have hk_142 : Kd S_135 q 14 := hf_137.kd hm_122 hk_123
  have hn_143 : Ln S_135 q 16 := hf_137.ln hm_122 hn_124
  have hm_144 : s ∈ hL S_135 := hf_137.mem hm_125
  have hk_145 : Kd S_135 s 8 := hf_137.kd hm_125 hk_126
  have hm_146 : z ∈ hL S_135 := hf_137.mem hm_127
  have hk_147 : Kd S_135 z 14 := hf_137.kd hm_127 hk_128
  have hn_148 : Ln S_135 z 16 := hf_137.ln hm_127 hn_129
  have hv_149 : hR S_135 800 s = (some q) := hf_137.fr hm_125 (fun h9 => h9) hv_130
  have hv_150 : hR S_135 906 h = (some s) := hf_137.fr hm_120 (fun h9 => h9) hv_131
  have hv_151 : hR S_135 908 h = (some z) := hf_137.fr hm_120 (fun h9 => h9) hv_132
  have hf_152 : Fm (fun _ _ => False) (fun _ _ => False) (fun _ => False) S S_135 := hf_133.then hf_137 (fun a9 ha9 => ⟨(fun f9 h9 => h9.elim), (fun f9 h9 => h9.elim), (fun h9 => h9.elim)⟩)
  refine j_if_eq (tgt := 34) C dX9_bytesOfMacros_22 (by decide) (fun c9 => ?_) (fun c9 => absurd (by decide) c9)
  refine j_iconst (v := 0) C dX9_bytesOfMacros_34 (by decide) ?_
  show J _ _ _ _ _ 35 _
  refine j_iadd (v := 0) C dX9_bytesOfMacros_35 (by decide) ?_
  refine j_istore_n (lv' := [(1, .int 0), (2, .int 7), (0, .ref h)]) C dX9_bytesOfMacros_36 rfl (by rw [hn9]; decide) rfl ?_
  refine j_iinc (q := 1) (v := 8) (lv' := [(2, .int 8), (1, .int 0), (0, .ref h)]) C dX9_bytesOfMacros_37 rfl (by decide) (by rw [hn9]; decide) rfl ?_
  refine j_goto (tgt := 4) C dX9_bytesOfMacros_40 (by decide) ?_
  refine j_iload_n C dX9_bytesOfMacros_4 rfl 0 rfl ?_
  refine j_aload_n C dX9_bytesOfMacros_5 rfl 2 rfl ?_
  refine j_getr (f := 908) (v := z) C flX9_50 dX9_bytesOfMacros_6 hm_139 hk_140 (by decide) rfl hv_151 ?_
  refine j_alen (v := 16) C dX9_bytesOfMacros_9 hm_146 hk_147 (by decide) (by decide) (len_of (n := 16) hn_148 (by decide)) ?_
  show J _ _ _ _ _ 10 _
  refine j_ic_ge (tgt := 43) C dX9_bytesOfMacros_10 (by decide) (fun c9 => absurd c9 (by decide)) (fun c9 => ?_)
  refine j_iload_n C dX9_bytesOfMacros_13 rfl 1 rfl ?_
  refine j_aload_n C dX9_bytesOfMacros_14 rfl 2 rfl ?_
  refine j_getr (f := 906) (v := s) C flX9_43 dX9_bytesOfMacros_15 hm_139 hk_140 (by decide) rfl hv_150 ?_
  refine j_iload_n C dX9_bytesOfMacros_18 rfl 0 rfl ?_
  refine j_callV (ci := 8) C [.int 8] [.int 0] mlX9_192 mcX8_has (c_X8_has S_135 s hm_144 hk_145 q hv_149 hm_141 hk_142 hn_143 hz_138 8) hm_144 hk_145 rfl (M.rm (by decide) (by decide) (Nat.le_of_ble_eq_true rfl) (Nat.le_of_ble_eq_true rfl)) rfl rfl (Nat.le_of_ble_eq_true rfl) dX9_bytesOfMacros_19 (fun r_153 S_154 hp_155 => ?_)
  obtain ⟨rfl, hf_156⟩ := hp_155
  refine J.eq (st' := [.int 0, .int 0]) rfl rfl rfl ?_
  have hz_157 : ∀ j, aI S_154 q j = 0 := fun j9 => (hf_156.ai hm_141 (fun h9 => h9) j9).trans (hz_138 j9)
  have hm_158 : h ∈ hL S_154 := hf_156.mem hm_139
  have hk_159 : Kd S_154 h 9 := hf_156.kd hm_139 hk_140
  have hm_160 : q ∈ hL S_154 := hf_156.mem hm_141
  have hk_161 : Kd S_154 q 14 := hf_156.kd hm_141 hk_142
  have hn_162 : Ln S_154 q 16 := hf_156.ln hm_141 hn_143
  have hm_163 : s ∈ hL S_154 := hf_156.mem hm_144
  have hk_164 : Kd S_154 s 8 := hf_156.kd hm_144 hk_145
  have hm_165 : z ∈ hL S_154 := hf_156.mem hm_146
  have hk_166 : Kd S_154 z 14 := hf_156.kd hm_146 hk_147
  have hn_167 : Ln S_154 z 16 := hf_156.ln hm_146 hn_148
  have hv_168 : hR S_154 800 s = (some q) := hf_156.fr hm_144 (fun h9 => h9) hv_149
  have hv_169 : hR S_154 906 h = (some s) := hf_156.fr hm_139 (fun h9 => h9) hv_150
  have hv_170 : hR S_154 908 h = (some z) := hf_156.fr hm_139 (fun h9 => h9) hv_151
  have hf_171 : Fm (fun _ _ => False) (fun _ _ => False) (fun _ => False) S S_154 := hf_152.then hf_156 (fun a9 ha9 => ⟨(fun f9 h9 => h9.elim), (fun f9 h9 => h9.elim), (fun h9 => h9.elim)⟩)
  refine j_if_eq (tgt := 34) C dX9_bytesOfMacros_22 (by decide) (fun c9 => ?_) (fun c9 => absurd (by decide) c9)
  refine j_iconst (v := 0) C dX9_bytesOfMacros_34 (by decide) ?_
  show J _ _ _ _ _ 35 _
  refine j_iadd (v := 0) C dX9_bytesOfMacros_35 (by decide) ?_
  refine j_istore_n (lv' := [(1, .int 0), (2, .int 8), (0, .ref h)]) C dX9_bytesOfMacros_36 rfl (by rw [hn9]; decide) rfl ?_
  refine j_iinc (q := 1) (v := 9) (lv' := [(2, .int 9), (1, .int 0), (0, .ref h)]) C dX9_bytesOfMacros_37 rfl (by decide) (by rw [hn9]; decide) rfl ?_
  refine j_goto (tgt := 4) C dX9_bytesOfMacros_40 (by decide) ?_
  refine j_iload_n C dX9_bytesOfMacros_4 rfl 0 rfl ?_
  refine j_aload_n C dX9_bytesOfMacros_5 rfl 2 rfl ?_
  refine j_getr (f := 908) (v := z) C flX9_50 dX9_bytesOfMacros_6 hm_158 hk_159 (by decide) rfl hv_170 ?_
  refine j_alen (v := 16) C dX9_bytesOfMacros_9 hm_165 hk_166 (by decide) (by decide) (len_of (n := 16) hn_167 (by decide)) ?_
  show J _ _ _ _ _ 10 _
  refine j_ic_ge (tgt := 43) C dX9_bytesOfMacros_10 (by decide) (fun c9 => absurd c9 (by decide)) (fun c9 => ?_)
  refine j_iload_n C dX9_bytesOfMacros_13 rfl 1 rfl ?_
  refine j_aload_n C dX9_bytesOfMacros_14 rfl 2 rfl ?_
  refine j_getr (f := 906) (v := s) C flX9_43 dX9_bytesOfMacros_15 hm_158 hk_159 (by decide) rfl hv_169 ?_
  refine j_iload_n C dX9_bytesOfMacros_18 rfl 0 rfl ?_
  refine j_callV (ci := 8) C [.int 9] [.int 0] mlX9_192 mcX8_has (c_X8_has S_154 s hm_163 hk_164 q hv_168 hm_160 hk_161 hn_162 hz_157 9) hm_163 hk_164 rfl (M.rm (by decide) (by decide) (Nat.le_of_ble_eq_true rfl) (Nat.le_of_ble_eq_true rfl)) rfl rfl (Nat.le_of_ble_eq_true rfl) dX9_bytesOfMacros_19 (fun r_172 S_173 hp_174 => ?_)
  obtain ⟨rfl, hf_175⟩ := hp_174
  refine J.eq (st' := [.int 0, .int 0]) rfl rfl rfl ?_
  have hz_176 : ∀ j, aI S_173 q j = 0 := fun j9 => (hf_175.ai hm_160 (fun h9 => h9) j9).trans (hz_157 j9)
  have hm_177 : h ∈ hL S_173 := hf_175.mem hm_158
  have hk_178 : Kd S_173 h 9 := hf_175.kd hm_158 hk_159
  have hm_179 : q ∈ hL S_173 := hf_175.mem hm_160
  have hk_180 : Kd S_173 q 14 := hf_175.kd hm_160 hk_161
  have hn_181 : Ln S_173 q 16 := hf_175.ln hm_160 hn_162
  have hm_182 : s ∈ hL S_173 := hf_175.mem hm_163
  have hk_183 : Kd S_173 s 8 := hf_175.kd hm_163 hk_164
  have hm_184 : z ∈ hL S_173 := hf_175.mem hm_165
  have hk_185 : Kd S_173 z 14 := hf_175.kd hm_165 hk_166
  have hn_186 : Ln S_173 z 16 := hf_175.ln hm_165 hn_167
  have hv_187 : hR S_173 800 s = (some q) := hf_175.fr hm_163 (fun h9 => h9) hv_168
  have hv_188 : hR S_173 906 h = (some s) := hf_175.fr hm_158 (fun h9 => h9) hv_169
  have hv_189 : hR S_173 908 h = (some z) := hf_175.fr hm_158 (fun h9 => h9) hv_170
  have hf_190 : Fm (fun _ _ => False) (fun _ _ => False) (fun _ => False) S S_173 := hf_171.then hf_175 (fun a9 ha9 => ⟨(fun f9 h9 => h9.elim), (fun f9 h9 => h9.elim), (fun h9 => h9.elim)⟩)
  refine j_if_eq (tgt := 34) C dX9_bytesOfMacros_22 (by decide) (fun c9 => ?_) (fun c9 => absurd (by decide) c9)
  refine j_iconst (v := 0) C dX9_bytesOfMacros_34 (by decide) ?_
  show J _ _ _ _ _ 35 _
  refine j_iadd (v := 0) C dX9_bytesOfMacros_35 (by decide) ?_
  refine j_istore_n (lv' := [(1, .int 0), (2, .int 9), (0, .ref h)]) C dX9_bytesOfMacros_36 rfl (by rw [hn9]; decide) rfl ?_
  refine j_iinc (q := 1) (v := 10) (lv' := [(2, .int 10), (1, .int 0), (0, .ref h)]) C dX9_bytesOfMacros_37 rfl (by decide) (by rw [hn9]; decide) rfl ?_
  refine j_goto (tgt := 4) C dX9_bytesOfMacros_40 (by decide) ?_
  refine j_iload_n C dX9_bytesOfMacros_4 rfl 0 rfl ?_
  refine j_aload_n C dX9_bytesOfMacros_5 rfl 2 rfl ?_
  refine j_getr (f := 908) (v := z) C flX9_50 dX9_bytesOfMacros_6 hm_177 hk_178 (by decide) rfl hv_189 ?_
  refine j_alen (v := 16) C dX9_bytesOfMacros_9 hm_184 hk_185 (by decide) (by decide) (len_of (n := 16) hn_186 (by decide)) ?_
  show J _ _ _ _ _ 10 _
  refine j_ic_ge (tgt := 43) C dX9_bytesOfMacros_10 (by decide) (fun c9 => absurd c9 (by decide)) (fun c9 => ?_)
  refine j_iload_n C dX9_bytesOfMacros_13 rfl 1 rfl ?_
  refine j_aload_n C dX9_bytesOfMacros_14 rfl 2 rfl ?_
  refine j_getr (f := 906) (v := s) C flX9_43 dX9_bytesOfMacros_15 hm_177 hk_178 (by decide) rfl hv_188 ?_
  refine j_iload_n C dX9_bytesOfMacros_18 rfl 0 rfl ?_
  refine j_callV (ci := 8) C [.int 10] [.int 0] mlX9_192 mcX8_has (c_X8_has S_173 s hm_182 hk_183 q hv_187 hm_179 hk_180 hn_181 hz_176 10) hm_182 hk_183 rfl (M.rm (by decide) (by decide) (Nat.le_of_ble_eq_true rfl) (Nat.le_of_ble_eq_true rfl)) rfl rfl (Nat.le_of_ble_eq_true rfl) dX9_bytesOfMacros_19 (fun r_191 S_192 hp_193 => ?_)
  obtain ⟨rfl, hf_194⟩ := hp_193
  refine J.eq (st' := [.int 0, .int 0]) rfl rfl rfl ?_
  have hz_195 : ∀ j, aI S_192 q j = 0 := fun j9 => (hf_194.ai hm_179 (fun h9 => h9) j9).trans (hz_176 j9)
  have hm_196 : h ∈ hL S_192 := hf_194.mem hm_177
  have hk_197 : Kd S_192 h 9 := hf_194.kd hm_177 hk_178
  have hm_198 : q ∈ hL S_192 := hf_194.mem hm_179
  have hk_199 : Kd S_192 q 14 := hf_194.kd hm_179 hk_180
  have hn_200 : Ln S_192 q 16 := hf_194.ln hm_179 hn_181
  have hm_201 : s ∈ hL S_192 := hf_194.mem hm_182
  have hk_202 : Kd S_192 s 8 := hf_194.kd hm_182 hk_183
  have hm_203 : z ∈ hL S_192 := hf_194.mem hm_184
  have hk_204 : Kd S_192 z 14 := hf_194.kd hm_184 hk_185
  have hn_205 : Ln S_192 z 16 := hf_194.ln hm_184 hn_186
  have hv_206 : hR S_192 800 s = (some q) := hf_194.fr hm_182 (fun h9 => h9) hv_187
  have hv_207 : hR S_192 906 h = (some s) := hf_194.fr hm_177 (fun h9 => h9) hv_188
  have hv_208 : hR S_192 908 h = (some z) := hf_194.fr hm_177 (fun h9 => h9) hv_189
  have hf_209 : Fm (fun _ _ => False) (fun _ _ => False) (fun _ => False) S S_192 := hf_190.then hf_194 (fun a9 ha9 => ⟨(fun f9 h9 => h9.elim), (fun f9 h9 => h9.elim), (fun h9 => h9.elim)⟩)
  refine j_if_eq (tgt := 34) C dX9_bytesOfMacros_22 (by decide) (fun c9 => ?_) (fun c9 => absurd (by decide) c9)
  refine j_iconst (v := 0) C dX9_bytesOfMacros_34 (by decide) ?_
  show J _ _ _ _ _ 35 _
  refine j_iadd (v := 0) C dX9_bytesOfMacros_35 (by decide) ?_
  refine j_istore_n (lv' := [(1, .int 0), (2, .int 10), (0, .ref h)]) C dX9_bytesOfMacros_36 rfl (by rw [hn9]; decide) rfl ?_
  refine j_iinc (q := 1) (v := 11) (lv' := [(2, .int 11), (1, .int 0), (0, .ref h)]) C dX9_bytesOfMacros_37 rfl (by decide) (by rw [hn9]; decide) rfl ?_
  refine j_goto (tgt := 4) C dX9_bytesOfMacros_40 (by decide) ?_
  refine j_iload_n C dX9_bytesOfMacros_4 rfl 0 rfl ?_
  refine j_aload_n C dX9_bytesOfMacros_5 rfl 2 rfl ?_
  refine j_getr (f := 908) (v := z) C flX9_50 dX9_bytesOfMacros_6 hm_196 hk_197 (by decide) rfl hv_208 ?_
  refine j_alen (v := 16) C dX9_bytesOfMacros_9 hm_203 hk_204 (by decide) (by decide) (len_of (n := 16) hn_205 (by decide)) ?_
  show J _ _ _ _ _ 10 _
  refine j_ic_ge (tgt := 43) C dX9_bytesOfMacros_10 (by decide) (fun c9 => absurd c9 (by decide)) (fun c9 => ?_)
  refine j_iload_n C dX9_bytesOfMacros_13 rfl 1 rfl ?_
  refine j_aload_n C dX9_bytesOfMacros_14 rfl 2 rfl ?_
  refine j_getr (f := 906) (v := s) C flX9_43 dX9_bytesOfMacros_15 hm_196 hk_197 (by decide) rfl hv_207 ?_
  refine j_iload_n C dX9_bytesOfMacros_18 rfl 0 rfl ?_
  refine j_callV (ci := 8) C [.int 11] [.int 0] mlX9_192 mcX8_has (c_X8_has S_192 s hm_201 hk_202 q hv_206 hm_198 hk_199 hn_200 hz_195 11) hm_201 hk_202 rfl (M.rm (by decide) (by decide) (Nat.le_of_ble_eq_true rfl) (Nat.le_of_ble_eq_true rfl)) rfl rfl (Nat.le_of_ble_eq_true rfl) dX9_bytesOfMacros_19 (fun r_210 S_211 hp_212 => ?_)
  obtain ⟨rfl, hf_213⟩ := hp_212
  refine J.eq (st' := [.int 0, .int 0]) rfl rfl rfl ?_
  have hz_214 : ∀ j, aI S_211 q j = 0 := fun j9 => (hf_213.ai hm_198 (fun h9 => h9) j9).trans (hz_195 j9)
  have hm_215 : h ∈ hL S_211 := hf_213.mem hm_196
  have hk_216 : Kd S_211 h 9 := hf_213.kd hm_196 hk_197
  have hm_217 : q ∈ hL S_211 := hf_213.mem hm_198
  have hk_218 : Kd S_211 q 14 := hf_213.kd hm_198 hk_199
  have hn_219 : Ln S_211 q 16 := hf_213.ln hm_198 hn_200
  have hm_220 : s ∈ hL S_211 := hf_213.mem hm_201
  have hk_221 : Kd S_211 s 8 := hf_213.kd hm_201 hk_202
  have hm_222 : z ∈ hL S_211 := hf_213.mem hm_203
  have hk_223 : Kd S_211 z 14 := hf_213.kd hm_203 hk_204
  have hn_224 : Ln S_211 z 16 := hf_213.ln hm_203 hn_205
  have hv_225 : hR S_211 800 s = (some q) := hf_213.fr hm_201 (fun h9 => h9) hv_206
  have hv_226 : hR S_211 906 h = (some s) := hf_213.fr hm_196 (fun h9 => h9) hv_207
  have hv_227 : hR S_211 908 h = (some z) := hf_213.fr hm_196 (fun h9 => h9) hv_208
  have hf_228 : Fm (fun _ _ => False) (fun _ _ => False) (fun _ => False) S S_211 := hf_209.then hf_213 (fun a9 ha9 => ⟨(fun f9 h9 => h9.elim), (fun f9 h9 => h9.elim), (fun h9 => h9.elim)⟩)
  refine j_if_eq (tgt := 34) C dX9_bytesOfMacros_22 (by decide) (fun c9 => ?_) (fun c9 => absurd (by decide) c9)
  refine j_iconst (v := 0) C dX9_bytesOfMacros_34 (by decide) ?_
  show J _ _ _ _ _ 35 _
  refine j_iadd (v := 0) C dX9_bytesOfMacros_35 (by decide) ?_
  refine j_istore_n (lv' := [(1, .int 0), (2, .int 11), (0, .ref h)]) C dX9_bytesOfMacros_36 rfl (by rw [hn9]; decide) rfl ?_
  refine j_iinc (q := 1) (v := 12) (lv' := [(2, .int 12), (1, .int 0), (0, .ref h)]) C dX9_bytesOfMacros_37 rfl (by decide) (by rw [hn9]; decide) rfl ?_
  refine j_goto (tgt := 4) C dX9_bytesOfMacros_40 (by decide) ?_
  refine j_iload_n C dX9_bytesOfMacros_4 rfl 0 rfl ?_
  refine j_aload_n C dX9_bytesOfMacros_5 rfl 2 rfl ?_
  refine j_getr (f := 908) (v := z) C flX9_50 dX9_bytesOfMacros_6 hm_215 hk_216 (by decide) rfl hv_227 ?_
  refine j_alen (v := 16) C dX9_bytesOfMacros_9 hm_222 hk_223 (by decide) (by decide) (len_of (n := 16) hn_224 (by decide)) ?_
  show J _ _ _ _ _ 10 _
  refine j_ic_ge (tgt := 43) C dX9_bytesOfMacros_10 (by decide) (fun c9 => absurd c9 (by decide)) (fun c9 => ?_)
  refine j_iload_n C dX9_bytesOfMacros_13 rfl 1 rfl ?_
  refine j_aload_n C dX9_bytesOfMacros_14 rfl 2 rfl ?_
  refine j_getr (f := 906) (v := s) C flX9_43 dX9_bytesOfMacros_15 hm_215 hk_216 (by decide) rfl hv_226 ?_
  refine j_iload_n C dX9_bytesOfMacros_18 rfl 0 rfl ?_
  refine j_callV (ci := 8) C [.int 12] [.int 0] mlX9_192 mcX8_has (c_X8_has S_211 s hm_220 hk_221 q hv_225 hm_217 hk_218 hn_219 hz_214 12) hm_220 hk_221 rfl (M.rm (by decide) (by decide) (Nat.le_of_ble_eq_true rfl) (Nat.le_of_ble_eq_true rfl)) rfl rfl (Nat.le_of_ble_eq_true rfl) dX9_bytesOfMacros_19 (fun r_229 S_230 hp_231 => ?_)
  obtain ⟨rfl, hf_232⟩ := hp_231
  refine J.eq (st' := [.int 0, .int 0]) rfl rfl rfl ?_
  have hz_233 : ∀ j, aI S_230 q j = 0 := fun j9 => (hf_232.ai hm_217 (fun h9 => h9) j9).trans (hz_214 j9)
  have hm_234 : h ∈ hL S_230 := hf_232.mem hm_215
  have hk_235 : Kd S_230 h 9 := hf_232.kd hm_215 hk_216
  have hm_236 : q ∈ hL S_230 := hf_232.mem hm_217
  have hk_237 : Kd S_230 q 14 := hf_232.kd hm_217 hk_218
  have hn_238 : Ln S_230 q 16 := hf_232.ln hm_217 hn_219
  have hm_239 : s ∈ hL S_230 := hf_232.mem hm_220
  have hk_240 : Kd S_230 s 8 := hf_232.kd hm_220 hk_221
  have hm_241 : z ∈ hL S_230 := hf_232.mem hm_222
  have hk_242 : Kd S_230 z 14 := hf_232.kd hm_222 hk_223
  have hn_243 : Ln S_230 z 16 := hf_232.ln hm_222 hn_224
  have hv_244 : hR S_230 800 s = (some q) := hf_232.fr hm_220 (fun h9 => h9) hv_225
  have hv_245 : hR S_230 906 h = (some s) := hf_232.fr hm_215 (fun h9 => h9) hv_226
  have hv_246 : hR S_230 908 h = (some z) := hf_232.fr hm_215 (fun h9 => h9) hv_227
  have hf_247 : Fm (fun _ _ => False) (fun _ _ => False) (fun _ => False) S S_230 := hf_228.then hf_232 (fun a9 ha9 => ⟨(fun f9 h9 => h9.elim), (fun f9 h9 => h9.elim), (fun h9 => h9.elim)⟩)
  refine j_if_eq (tgt := 34) C dX9_bytesOfMacros_22 (by decide) (fun c9 => ?_) (fun c9 => absurd (by decide) c9)
  refine j_iconst (v := 0) C dX9_bytesOfMacros_34 (by decide) ?_
  show J _ _ _ _ _ 35 _
  refine j_iadd (v := 0) C dX9_bytesOfMacros_35 (by decide) ?_
  refine j_istore_n (lv' := [(1, .int 0), (2, .int 12), (0, .ref h)]) C dX9_bytesOfMacros_36 rfl (by rw [hn9]; decide) rfl ?_
  refine j_iinc (q := 1) (v := 13) (lv' := [(2, .int 13), (1, .int 0), (0, .ref h)]) C dX9_bytesOfMacros_37 rfl (by decide) (by rw [hn9]; decide) rfl ?_
  refine j_goto (tgt := 4) C dX9_bytesOfMacros_40 (by decide) ?_
  refine j_iload_n C dX9_bytesOfMacros_4 rfl 0 rfl ?_
  refine j_aload_n C dX9_bytesOfMacros_5 rfl 2 rfl ?_
  refine j_getr (f := 908) (v := z) C flX9_50 dX9_bytesOfMacros_6 hm_234 hk_235 (by decide) rfl hv_246 ?_
  refine j_alen (v := 16) C dX9_bytesOfMacros_9 hm_241 hk_242 (by decide) (by decide) (len_of (n := 16) hn_243 (by decide)) ?_
  show J _ _ _ _ _ 10 _
  refine j_ic_ge (tgt := 43) C dX9_bytesOfMacros_10 (by decide) (fun c9 => absurd c9 (by decide)) (fun c9 => ?_)
  refine j_iload_n C dX9_bytesOfMacros_13 rfl 1 rfl ?_
  refine j_aload_n C dX9_bytesOfMacros_14 rfl 2 rfl ?_
  refine j_getr (f := 906) (v := s) C flX9_43 dX9_bytesOfMacros_15 hm_234 hk_235 (by decide) rfl hv_245 ?_
  refine j_iload_n C dX9_bytesOfMacros_18 rfl 0 rfl ?_
  refine j_callV (ci := 8) C [.int 13] [.int 0] mlX9_192 mcX8_has (c_X8_has S_230 s hm_239 hk_240 q hv_244 hm_236 hk_237 hn_238 hz_233 13) hm_239 hk_240 rfl (M.rm (by decide) (by decide) (Nat.le_of_ble_eq_true rfl) (Nat.le_of_ble_eq_true rfl)) rfl rfl (Nat.le_of_ble_eq_true rfl) dX9_bytesOfMacros_19 (fun r_248 S_249 hp_250 => ?_)
  obtain ⟨rfl, hf_251⟩ := hp_250
  refine J.eq (st' := [.int 0, .int 0]) rfl rfl rfl ?_
  have hz_252 : ∀ j, aI S_249 q j = 0 := fun j9 => (hf_251.ai hm_236 (fun h9 => h9) j9).trans (hz_233 j9)
  have hm_253 : h ∈ hL S_249 := hf_251.mem hm_234
  have hk_254 : Kd S_249 h 9 := hf_251.kd hm_234 hk_235
  have hm_255 : q ∈ hL S_249 := hf_251.mem hm_236
  have hk_256 : Kd S_249 q 14 := hf_251.kd hm_236 hk_237
  have hn_257 : Ln S_249 q 16 := hf_251.ln hm_236 hn_238
  have hm_258 : s ∈ hL S_249 := hf_251.mem hm_239
  have hk_259 : Kd S_249 s 8 := hf_251.kd hm_239 hk_240
  have hm_260 : z ∈ hL S_249 := hf_251.mem hm_241
  have hk_261 : Kd S_249 z 14 := hf_251.kd hm_241 hk_242
  have hn_262 : Ln S_249 z 16 := hf_251.ln hm_241 hn_243
  have hv_263 : hR S_249 800 s = (some q) := hf_251.fr hm_239 (fun h9 => h9) hv_244
  have hv_264 : hR S_249 906 h = (some s) := hf_251.fr hm_234 (fun h9 => h9) hv_245
  have hv_265 : hR S_249 908 h = (some z) := hf_251.fr hm_234 (fun h9 => h9) hv_246
  have hf_266 : Fm (fun _ _ => False) (fun _ _ => False) (fun _ => False) S S_249 := hf_247.then hf_251 (fun a9 ha9 => ⟨(fun f9 h9 => h9.elim), (fun f9 h9 => h9.elim), (fun h9 => h9.elim)⟩)
  refine j_if_eq (tgt := 34) C dX9_bytesOfMacros_22 (by decide) (fun c9 => ?_) (fun c9 => absurd (by decide) c9)
  refine j_iconst (v := 0) C dX9_bytesOfMacros_34 (by decide) ?_
  show J _ _ _ _ _ 35 _
  refine j_iadd (v := 0) C dX9_bytesOfMacros_35 (by decide) ?_
  refine j_istore_n (lv' := [(1, .int 0), (2, .int 13), (0, .ref h)]) C dX9_bytesOfMacros_36 rfl (by rw [hn9]; decide) rfl ?_
  refine j_iinc (q := 1) (v := 14) (lv' := [(2, .int 14), (1, .int 0), (0, .ref h)]) C dX9_bytesOfMacros_37 rfl (by decide) (by rw [hn9]; decide) rfl ?_
  refine j_goto (tgt := 4) C dX9_bytesOfMacros_40 (by decide) ?_
  refine j_iload_n C dX9_bytesOfMacros_4 rfl 0 rfl ?_
  refine j_aload_n C dX9_bytesOfMacros_5 rfl 2 rfl ?_
  refine j_getr (f := 908) (v := z) C flX9_50 dX9_bytesOfMacros_6 hm_253 hk_254 (by decide) rfl hv_265 ?_
  refine j_alen (v := 16) C dX9_bytesOfMacros_9 hm_260 hk_261 (by decide) (by decide) (len_of (n := 16) hn_262 (by decide)) ?_
  show J _ _ _ _ _ 10 _
  refine j_ic_ge (tgt := 43) C dX9_bytesOfMacros_10 (by decide) (fun c9 => absurd c9 (by decide)) (fun c9 => ?_)
  refine j_iload_n C dX9_bytesOfMacros_13 rfl 1 rfl ?_
  refine j_aload_n C dX9_bytesOfMacros_14 rfl 2 rfl ?_
  refine j_getr (f := 906) (v := s) C flX9_43 dX9_bytesOfMacros_15 hm_253 hk_254 (by decide) rfl hv_264 ?_
  refine j_iload_n C dX9_bytesOfMacros_18 rfl 0 rfl ?_
  refine j_callV (ci := 8) C [.int 14] [.int 0] mlX9_192 mcX8_has (c_X8_has S_249 s hm_258 hk_259 q hv_263 hm_255 hk_256 hn_257 hz_252 14) hm_258 hk_259 rfl (M.rm (by decide) (by decide) (Nat.le_of_ble_eq_true rfl) (Nat.le_of_ble_eq_true rfl)) rfl rfl (Nat.le_of_ble_eq_true rfl) dX9_bytesOfMacros_19 (fun r_267 S_268 hp_269 => ?_)
  obtain ⟨rfl, hf_270⟩ := hp_269
  refine J.eq (st' := [.int 0, .int 0]) rfl rfl rfl ?_
  have hz_271 : ∀ j, aI S_268 q j = 0 := fun j9 => (hf_270.ai hm_255 (fun h9 => h9) j9).trans (hz_252 j9)
  have hm_272 : h ∈ hL S_268 := hf_270.mem hm_253
  have hk_273 : Kd S_268 h 9 := hf_270.kd hm_253 hk_254
  have hm_274 : q ∈ hL S_268 := hf_270.mem hm_255
  have hk_275 : Kd S_268 q 14 := hf_270.kd hm_255 hk_256
  have hn_276 : Ln S_268 q 16 := hf_270.ln hm_255 hn_257
  have hm_277 : s ∈ hL S_268 := hf_270.mem hm_258
  have hk_278 : Kd S_268 s 8 := hf_270.kd hm_258 hk_259
  have hm_279 : z ∈ hL S_268 := hf_270.mem hm_260
  have hk_280 : Kd S_268 z 14 := hf_270.kd hm_260 hk_261
  have hn_281 : Ln S_268 z 16 := hf_270.ln hm_260 hn_262
  have hv_282 : hR S_268 800 s = (some q) := hf_270.fr hm_258 (fun h9 => h9) hv_263
  have hv_283 : hR S_268 906 h = (some s) := hf_270.fr hm_253 (fun h9 => h9) hv_264
  have hv_284 : hR S_268 908 h = (some z) := hf_270.fr hm_253 (fun h9 => h9) hv_265
  have hf_285 : Fm (fun _ _ => False) (fun _ _ => False) (fun _ => False) S S_268 := hf_266.then hf_270 (fun a9 ha9 => ⟨(fun f9 h9 => h9.elim), (fun f9 h9 => h9.elim), (fun h9 => h9.elim)⟩)
  refine j_if_eq (tgt := 34) C dX9_bytesOfMacros_22 (by decide) (fun c9 => ?_) (fun c9 => absurd (by decide) c9)
  refine j_iconst (v := 0) C dX9_bytesOfMacros_34 (by decide) ?_
  show J _ _ _ _ _ 35 _
  refine j_iadd (v := 0) C dX9_bytesOfMacros_35 (by decide) ?_
  refine j_istore_n (lv' := [(1, .int 0), (2, .int 14), (0, .ref h)]) C dX9_bytesOfMacros_36 rfl (by rw [hn9]; decide) rfl ?_
  refine j_iinc (q := 1) (v := 15) (lv' := [(2, .int 15), (1, .int 0), (0, .ref h)]) C dX9_bytesOfMacros_37 rfl (by decide) (by rw [hn9]; decide) rfl ?_
  refine j_goto (tgt := 4) C dX9_bytesOfMacros_40 (by decide) ?_
  refine j_iload_n C dX9_bytesOfMacros_4 rfl 0 rfl ?_
  refine j_aload_n C dX9_bytesOfMacros_5 rfl 2 rfl ?_
  refine j_getr (f := 908) (v := z) C flX9_50 dX9_bytesOfMacros_6 hm_272 hk_273 (by decide) rfl hv_284 ?_
  refine j_alen (v := 16) C dX9_bytesOfMacros_9 hm_279 hk_280 (by decide) (by decide) (len_of (n := 16) hn_281 (by decide)) ?_
  show J _ _ _ _ _ 10 _
  refine j_ic_ge (tgt := 43) C dX9_bytesOfMacros_10 (by decide) (fun c9 => absurd c9 (by decide)) (fun c9 => ?_)
  refine j_iload_n C dX9_bytesOfMacros_13 rfl 1 rfl ?_
  refine j_aload_n C dX9_bytesOfMacros_14 rfl 2 rfl ?_
  refine j_getr (f := 906) (v := s) C flX9_43 dX9_bytesOfMacros_15 hm_272 hk_273 (by decide) rfl hv_283 ?_
  refine j_iload_n C dX9_bytesOfMacros_18 rfl 0 rfl ?_
  refine j_callV (ci := 8) C [.int 15] [.int 0] mlX9_192 mcX8_has (c_X8_has S_268 s hm_277 hk_278 q hv_282 hm_274 hk_275 hn_276 hz_271 15) hm_277 hk_278 rfl (M.rm (by decide) (by decide) (Nat.le_of_ble_eq_true rfl) (Nat.le_of_ble_eq_true rfl)) rfl rfl (Nat.le_of_ble_eq_true rfl) dX9_bytesOfMacros_19 (fun r_286 S_287 hp_288 => ?_)
  obtain ⟨rfl, hf_289⟩ := hp_288
  refine J.eq (st' := [.int 0, .int 0]) rfl rfl rfl ?_
  have hz_290 : ∀ j, aI S_287 q j = 0 := fun j9 => (hf_289.ai hm_274 (fun h9 => h9) j9).trans (hz_271 j9)
  have hm_291 : h ∈ hL S_287 := hf_289.mem hm_272
  have hk_292 : Kd S_287 h 9 := hf_289.kd hm_272 hk_273
  have hm_293 : q ∈ hL S_287 := hf_289.mem hm_274
  have hk_294 : Kd S_287 q 14 := hf_289.kd hm_274 hk_275
  have hn_295 : Ln S_287 q 16 := hf_289.ln hm_274 hn_276
  have hm_296 : s ∈ hL S_287 := hf_289.mem hm_277
  have hk_297 : Kd S_287 s 8 := hf_289.kd hm_277 hk_278
  have hm_298 : z ∈ hL S_287 := hf_289.mem hm_279
  have hk_299 : Kd S_287 z 14 := hf_289.kd hm_279 hk_280
  have hn_300 : Ln S_287 z 16 := hf_289.ln hm_279 hn_281
  have hv_301 : hR S_287 800 s = (some q) := hf_289.fr hm_277 (fun h9 => h9) hv_282
  have hv_302 : hR S_287 906 h = (some s) := hf_289.fr hm_272 (fun h9 => h9) hv_283
  have hv_303 : hR S_287 908 h = (some z) := hf_289.fr hm_272 (fun h9 => h9) hv_284
  have hf_304 : Fm (fun _ _ => False) (fun _ _ => False) (fun _ => False) S S_287 := hf_285.then hf_289 (fun a9 ha9 => ⟨(fun f9 h9 => h9.elim), (fun f9 h9 => h9.elim), (fun h9 => h9.elim)⟩)
  refine j_if_eq (tgt := 34) C dX9_bytesOfMacros_22 (by decide) (fun c9 => ?_) (fun c9 => absurd (by decide) c9)
  refine j_iconst (v := 0) C dX9_bytesOfMacros_34 (by decide) ?_
  show J _ _ _ _ _ 35 _
  refine j_iadd (v := 0) C dX9_bytesOfMacros_35 (by decide) ?_
  refine j_istore_n (lv' := [(1, .int 0), (2, .int 15), (0, .ref h)]) C dX9_bytesOfMacros_36 rfl (by rw [hn9]; decide) rfl ?_
  refine j_iinc (q := 1) (v := 16) (lv' := [(2, .int 16), (1, .int 0), (0, .ref h)]) C dX9_bytesOfMacros_37 rfl (by decide) (by rw [hn9]; decide) rfl ?_
  refine j_goto (tgt := 4) C dX9_bytesOfMacros_40 (by decide) ?_
  refine j_iload_n C dX9_bytesOfMacros_4 rfl 0 rfl ?_
  refine j_aload_n C dX9_bytesOfMacros_5 rfl 2 rfl ?_
  refine j_getr (f := 908) (v := z) C flX9_50 dX9_bytesOfMacros_6 hm_291 hk_292 (by decide) rfl hv_303 ?_
  refine j_alen (v := 16) C dX9_bytesOfMacros_9 hm_298 hk_299 (by decide) (by decide) (len_of (n := 16) hn_300 (by decide)) ?_
  show J _ _ _ _ _ 10 _
  refine j_ic_ge (tgt := 43) C dX9_bytesOfMacros_10 (by decide) (fun c9 => ?_) (fun c9 => absurd (by decide) c9)
  refine j_iload_n C dX9_bytesOfMacros_43 rfl 1 rfl ?_
  exact j_iret C M dX9_bytesOfMacros_44 (Nat.le_of_ble_eq_true rfl) (Nat.le_of_ble_eq_true rfl) ⟨rfl, hf_304⟩

theorem dX9_dropAll_0 : decode cX9_dropAll 0 = .ok (.aload_n 0, 1) := by decide +kernel
theorem dX9_dropAll_1 : decode cX9_dropAll 1 = .ok (.getfield 21, 3) := by decide +kernel
theorem dX9_dropAll_4 : decode cX9_dropAll 4 = .ok (.getfield 176, 3) := by decide +kernel
theorem dX9_dropAll_7 : decode cX9_dropAll 7 = .ok (.invokevirtual 179, 3) := by decide +kernel
theorem dX9_dropAll_10 : decode cX9_dropAll 10 = .ok (.aload_n 0, 1) := by decide +kernel
theorem dX9_dropAll_11 : decode cX9_dropAll 11 = .ok (.getfield 28, 3) := by decide +kernel
theorem dX9_dropAll_14 : decode cX9_dropAll 14 = .ok (.invokevirtual 179, 3) := by decide +kernel
theorem dX9_dropAll_17 : decode cX9_dropAll 17 = .ok (.iadd, 1) := by decide +kernel
theorem dX9_dropAll_18 : decode cX9_dropAll 18 = .ok (.aload_n 0, 1) := by decide +kernel
theorem dX9_dropAll_19 : decode cX9_dropAll 19 = .ok (.getfield 43, 3) := by decide +kernel
theorem dX9_dropAll_22 : decode cX9_dropAll 22 = .ok (.invokevirtual 179, 3) := by decide +kernel
theorem dX9_dropAll_25 : decode cX9_dropAll 25 = .ok (.iadd, 1) := by decide +kernel
theorem dX9_dropAll_26 : decode cX9_dropAll 26 = .ok (.istore_n 1, 1) := by decide +kernel
theorem dX9_dropAll_27 : decode cX9_dropAll 27 = .ok (.aload_n 0, 1) := by decide +kernel
theorem dX9_dropAll_28 : decode cX9_dropAll 28 = .ok (.getfield 21, 3) := by decide +kernel
theorem dX9_dropAll_31 : decode cX9_dropAll 31 = .ok (.iconst 0, 1) := by decide +kernel
theorem dX9_dropAll_32 : decode cX9_dropAll 32 = .ok (.invokevirtual 196, 3) := by decide +kernel
theorem dX9_dropAll_35 : decode cX9_dropAll 35 = .ok (.aload_n 0, 1) := by decide +kernel
theorem dX9_dropAll_36 : decode cX9_dropAll 36 = .ok (.getfield 28, 3) := by decide +kernel
theorem dX9_dropAll_39 : decode cX9_dropAll 39 = .ok (.iconst 0, 1) := by decide +kernel
theorem dX9_dropAll_40 : decode cX9_dropAll 40 = .ok (.invokevirtual 200, 3) := by decide +kernel
theorem dX9_dropAll_43 : decode cX9_dropAll 43 = .ok (.aload_n 0, 1) := by decide +kernel
theorem dX9_dropAll_44 : decode cX9_dropAll 44 = .ok (.getfield 43, 3) := by decide +kernel
theorem dX9_dropAll_47 : decode cX9_dropAll 47 = .ok (.iconst 0, 1) := by decide +kernel
theorem dX9_dropAll_48 : decode cX9_dropAll 48 = .ok (.invokevirtual 200, 3) := by decide +kernel
theorem dX9_dropAll_51 : decode cX9_dropAll 51 = .ok (.iload_n 1, 1) := by decide +kernel
theorem dX9_dropAll_52 : decode cX9_dropAll 52 = .ok (.ireturn, 1) := by decide +kernel
set_option maxRecDepth 100000 in
set_option maxHeartbeats 4000000 in
theorem c_X9_dropAll (S : Hp) (h : Nat) (hm : h ∈ hL S) (hk : hK S h = 9) (f0 : Nat) (rf0 : hR S 902 h = some f0) (mf0 : f0 ∈ hL S) (kf0 : Kd S f0 2) (s : Nat) (rs : hR S 200 f0 = some s) (ms : s ∈ hL S) (ks : Kd S s 8) (q : Nat) (rq : hR S 800 s = some q) (mq : q ∈ hL S) (kq : Kd S q 14) (lq : Ln S q 16) (zq : ∀ j, aI S q j = 0) (s2 : Nat) (rs2 : hR S 903 h = some s2) (ms2 : s2 ∈ hL S) (ks2 : Kd S s2 8) (q2 : Nat) (rq2 : hR S 800 s2 = some q2) (mq2 : q2 ∈ hL S) (kq2 : Kd S q2 14) (lq2 : Ln S q2 16) (zq2 : ∀ j, aI S q2 j = 0) (s3 : Nat) (rs3 : hR S 906 h = some s3) (ms3 : s3 ∈ hL S) (ks3 : Kd S s3 8) (q3 : Nat) (rq3 : hR S 800 s3 = some q3) (mq3 : q3 ∈ hL S) (kq3 : Kd S q3 14) (lq3 : Ln S q3 16) (zq3 : ∀ j, aI S q3 j = 0) : Ct 4 yX9_dropAll cX9_dropAll 2 (some .int) 0 0 [.ref h] S (fun r S' => r = some (.int 0) ∧ Fm (fun f9 b9 => (f9 = 209 ∧ b9 = f0)) (fun _ _ => False) (fun b9 => b9 = q2 ∨ b9 = q3) S S') := by
  refine ct_of (by decide) (Nat.le_of_ble_eq_true rfl) fun x hn9 C M hm9 => ?_
  have C : CB x RX9 cX9_dropAll := C
  refine J.eq (lv' := [(0, .ref h)]) rfl rfl rfl ?_
  refine j_aload_n C dX9_dropAll_0 rfl 0 rfl ?_
  refine j_getr (f := 902) (v := f0) C flX9_21 dX9_dropAll_1 hm hk (by decide) rfl rf0 ?_
  refine j_getr (f := 200) (v := s) C flX9_176 dX9_dropAll_4 mf0 kf0 (by decide) rfl rs ?_
  refine j_callV (ci := 8) C [] [] mlX9_179 mcX8_count (c_X8_count S s ms ks q rq mq kq lq zq) ms ks rfl (M.rm (by decide) (by decide) (Nat.le_of_ble_eq_true rfl) (Nat.le_of_ble_eq_true rfl)) rfl rfl (Nat.le_of_ble_eq_true rfl) dX9_dropAll_7 (fun r_1 S_2 hp_3 => ?_)
  obtain ⟨rfl, hf_4⟩ := hp_3
  refine J.eq (st' := [.int 0]) rfl rfl rfl ?_
  have hz_5 : ∀ j, aI S_2 q j = 0 := fun j9 => (hf_4.ai mq (fun h9 => h9) j9).trans (zq j9)
  have hz_6 : ∀ j, aI S_2 q2 j = 0 := fun j9 => (hf_4.ai mq2 (fun h9 => h9) j9).trans (zq2 j9)
  have hz_7 : ∀ j, aI S_2 q3 j = 0 := fun j9 => (hf_4.ai mq3 (fun h9 => h9) j9).trans (zq3 j9)
  have hm_8 : f0 ∈ hL S_2 := hf_4.mem mf0
  have hk_9 : Kd S_2 f0 2 := hf_4.kd mf0 kf0
  have hm_10 : h ∈ hL S_2 := hf_4.mem hm
  have hk_11 : Kd S_2 h 9 := hf_4.kd hm hk
  have hm_12 : q ∈ hL S_2 := hf_4.mem mq
  have hk_13 : Kd S_2 q 14 := hf_4.kd mq kq
  have hn_14 : Ln S_2 q 16 := hf_4.ln mq lq
  have hm_15 : q2 ∈ hL S_2 := hf_4.mem mq2
  have hk_16 : Kd S_2 q2 14 := hf_4.kd mq2 kq2
  have hn_17 : Ln S_2 q2 16 := hf_4.ln mq2 lq2
  have hm_18 : q3 ∈ hL S_2 := hf_4.mem mq3
  have hk_19 : Kd S_2 q3 14 := hf_4.kd mq3 kq3
  have hn_20 : Ln S_2 q3 16 := hf_4.ln mq3 lq3
  have hm_21 : s ∈ hL S_2 := hf_4.mem ms
  have hk_22 : Kd S_2 s 8 := hf_4.kd ms ks
  have hm_23 : s2 ∈ hL S_2 := hf_4.mem ms2
  have hk_24 : Kd S_2 s2 8 := hf_4.kd ms2 ks2
  have hm_25 : s3 ∈ hL S_2 := hf_4.mem ms3
  have hk_26 : Kd S_2 s3 8 := hf_4.kd ms3 ks3
  have hv_27 : hR S_2 200 f0 = (some s) := hf_4.fr mf0 (fun h9 => h9) rs
  have hv_28 : hR S_2 800 s = (some q) := hf_4.fr ms (fun h9 => h9) rq
  have hv_29 : hR S_2 800 s2 = (some q2) := hf_4.fr ms2 (fun h9 => h9) rq2
  have hv_30 : hR S_2 800 s3 = (some q3) := hf_4.fr ms3 (fun h9 => h9) rq3
  have hv_31 : hR S_2 902 h = (some f0) := hf_4.fr hm (fun h9 => h9) rf0
  have hv_32 : hR S_2 903 h = (some s2) := hf_4.fr hm (fun h9 => h9) rs2
  have hv_33 : hR S_2 906 h = (some s3) := hf_4.fr hm (fun h9 => h9) rs3
  have hf_34 : Fm (fun f9 b9 => (f9 = 209 ∧ b9 = f0)) (fun _ _ => False) (fun b9 => b9 = q2 ∨ b9 = q3) S S_2 := (Fm.refl (WI := (fun f9 b9 => (f9 = 209 ∧ b9 = f0))) (WR := (fun _ _ => False)) (WA := (fun b9 => b9 = q2 ∨ b9 = q3))).then hf_4 (fun a9 ha9 => ⟨(fun f9 h9 => h9.elim), (fun f9 h9 => h9.elim), (fun h9 => h9.elim)⟩)
  refine j_aload_n C dX9_dropAll_10 rfl 0 rfl ?_
  refine j_getr (f := 903) (v := s2) C flX9_28 dX9_dropAll_11 hm_10 hk_11 (by decide) rfl hv_32 ?_
  refine j_callV (ci := 8) C [] [.int 0] mlX9_179 mcX8_count (c_X8_count S_2 s2 hm_23 hk_24 q2 hv_29 hm_15 hk_16 hn_17 hz_6) hm_23 hk_24 rfl (M.rm (by decide) (by decide) (Nat.le_of_ble_eq_true rfl) (Nat.le_of_ble_eq_true rfl)) rfl rfl (Nat.le_of_ble_eq_true rfl) dX9_dropAll_14 (fun r_35 S_36 hp_37 => ?_)
  obtain ⟨rfl, hf_38⟩ := hp_37
  refine J.eq (st' := [.int 0, .int 0]) rfl rfl rfl ?_
  have hz_39 : ∀ j, aI S_36 q j = 0 := fun j9 => (hf_38.ai hm_12 (fun h9 => h9) j9).trans (hz_5 j9)
  have hz_40 : ∀ j, aI S_36 q2 j = 0 := fun j9 => (hf_38.ai hm_15 (fun h9 => h9) j9).trans (hz_6 j9)
  have hz_41 : ∀ j, aI S_36 q3 j = 0 := fun j9 => (hf_38.ai hm_18 (fun h9 => h9) j9).trans (hz_7 j9)
  have hm_42 : f0 ∈ hL S_36 := hf_38.mem hm_8
  have hk_43 : Kd S_36 f0 2 := hf_38.kd hm_8 hk_9
  have hm_44 : h ∈ hL S_36 := hf_38.mem hm_10
  have hk_45 : Kd S_36 h 9 := hf_38.kd hm_10 hk_11
  have hm_46 : q ∈ hL S_36 := hf_38.mem hm_12
  have hk_47 : Kd S_36 q 14 := hf_38.kd hm_12 hk_13
  have hn_48 : Ln S_36 q 16 := hf_38.ln hm_12 hn_14
  have hm_49 : q2 ∈ hL S_36 := hf_38.mem hm_15
  have hk_50 : Kd S_36 q2 14 := hf_38.kd hm_15 hk_16
  have hn_51 : Ln S_36 q2 16 := hf_38.ln hm_15 hn_17
  have hm_52 : q3 ∈ hL S_36 := hf_38.mem hm_18
  have hk_53 : Kd S_36 q3 14 := hf_38.kd hm_18 hk_19
  have hn_54 : Ln S_36 q3 16 := hf_38.ln hm_18 hn_20
  have hm_55 : s ∈ hL S_36 := hf_38.mem hm_21
  have hk_56 : Kd S_36 s 8 := hf_38.kd hm_21 hk_22
  have hm_57 : s2 ∈ hL S_36 := hf_38.mem hm_23
  have hk_58 : Kd S_36 s2 8 := hf_38.kd hm_23 hk_24
  have hm_59 : s3 ∈ hL S_36 := hf_38.mem hm_25
  have hk_60 : Kd S_36 s3 8 := hf_38.kd hm_25 hk_26
  have hv_61 : hR S_36 200 f0 = (some s) := hf_38.fr hm_8 (fun h9 => h9) hv_27
  have hv_62 : hR S_36 800 s = (some q) := hf_38.fr hm_21 (fun h9 => h9) hv_28
  have hv_63 : hR S_36 800 s2 = (some q2) := hf_38.fr hm_23 (fun h9 => h9) hv_29
  have hv_64 : hR S_36 800 s3 = (some q3) := hf_38.fr hm_25 (fun h9 => h9) hv_30
  have hv_65 : hR S_36 902 h = (some f0) := hf_38.fr hm_10 (fun h9 => h9) hv_31
  have hv_66 : hR S_36 903 h = (some s2) := hf_38.fr hm_10 (fun h9 => h9) hv_32
  have hv_67 : hR S_36 906 h = (some s3) := hf_38.fr hm_10 (fun h9 => h9) hv_33
  have hf_68 : Fm (fun f9 b9 => (f9 = 209 ∧ b9 = f0)) (fun _ _ => False) (fun b9 => b9 = q2 ∨ b9 = q3) S S_36 := hf_34.then hf_38 (fun a9 ha9 => ⟨(fun f9 h9 => h9.elim), (fun f9 h9 => h9.elim), (fun h9 => h9.elim)⟩)
  refine j_iadd (v := 0) C dX9_dropAll_17 (by decide) ?_
  show J _ _ _ _ _ 18 _
  refine j_aload_n C dX9_dropAll_18 rfl 0 rfl ?_
  refine j_getr (f := 906) (v := s3) C flX9_43 dX9_dropAll_19 hm_44 hk_45 (by decide) rfl hv_67 ?_
  refine j_callV (ci := 8) C [] [.int 0] mlX9_179 mcX8_count (c_X8_count S_36 s3 hm_59 hk_60 q3 hv_64 hm_52 hk_53 hn_54 hz_41) hm_59 hk_60 rfl (M.rm (by decide) (by decide) (Nat.le_of_ble_eq_true rfl) (Nat.le_of_ble_eq_true rfl)) rfl rfl (Nat.le_of_ble_eq_true rfl) dX9_dropAll_22 (fun r_69 S_70 hp_71 => ?_)
  obtain ⟨rfl, hf_72⟩ := hp_71
  refine J.eq (st' := [.int 0, .int 0]) rfl rfl rfl ?_
  have hz_73 : ∀ j, aI S_70 q j = 0 := fun j9 => (hf_72.ai hm_46 (fun h9 => h9) j9).trans (hz_39 j9)
  have hz_74 : ∀ j, aI S_70 q2 j = 0 := fun j9 => (hf_72.ai hm_49 (fun h9 => h9) j9).trans (hz_40 j9)
  have hz_75 : ∀ j, aI S_70 q3 j = 0 := fun j9 => (hf_72.ai hm_52 (fun h9 => h9) j9).trans (hz_41 j9)
  have hm_76 : f0 ∈ hL S_70 := hf_72.mem hm_42
  have hk_77 : Kd S_70 f0 2 := hf_72.kd hm_42 hk_43
  have hm_78 : h ∈ hL S_70 := hf_72.mem hm_44
  have hk_79 : Kd S_70 h 9 := hf_72.kd hm_44 hk_45
  have hm_80 : q ∈ hL S_70 := hf_72.mem hm_46
  have hk_81 : Kd S_70 q 14 := hf_72.kd hm_46 hk_47
  have hn_82 : Ln S_70 q 16 := hf_72.ln hm_46 hn_48
  have hm_83 : q2 ∈ hL S_70 := hf_72.mem hm_49
  have hk_84 : Kd S_70 q2 14 := hf_72.kd hm_49 hk_50
  have hn_85 : Ln S_70 q2 16 := hf_72.ln hm_49 hn_51
  have hm_86 : q3 ∈ hL S_70 := hf_72.mem hm_52
  have hk_87 : Kd S_70 q3 14 := hf_72.kd hm_52 hk_53
  have hn_88 : Ln S_70 q3 16 := hf_72.ln hm_52 hn_54
  have hm_89 : s ∈ hL S_70 := hf_72.mem hm_55
  have hk_90 : Kd S_70 s 8 := hf_72.kd hm_55 hk_56
  have hm_91 : s2 ∈ hL S_70 := hf_72.mem hm_57
  have hk_92 : Kd S_70 s2 8 := hf_72.kd hm_57 hk_58
  have hm_93 : s3 ∈ hL S_70 := hf_72.mem hm_59
  have hk_94 : Kd S_70 s3 8 := hf_72.kd hm_59 hk_60
  have hv_95 : hR S_70 200 f0 = (some s) := hf_72.fr hm_42 (fun h9 => h9) hv_61
  have hv_96 : hR S_70 800 s = (some q) := hf_72.fr hm_55 (fun h9 => h9) hv_62
  have hv_97 : hR S_70 800 s2 = (some q2) := hf_72.fr hm_57 (fun h9 => h9) hv_63
  have hv_98 : hR S_70 800 s3 = (some q3) := hf_72.fr hm_59 (fun h9 => h9) hv_64
  have hv_99 : hR S_70 902 h = (some f0) := hf_72.fr hm_44 (fun h9 => h9) hv_65
  have hv_100 : hR S_70 903 h = (some s2) := hf_72.fr hm_44 (fun h9 => h9) hv_66
  have hv_101 : hR S_70 906 h = (some s3) := hf_72.fr hm_44 (fun h9 => h9) hv_67
  have hf_102 : Fm (fun f9 b9 => (f9 = 209 ∧ b9 = f0)) (fun _ _ => False) (fun b9 => b9 = q2 ∨ b9 = q3) S S_70 := hf_68.then hf_72 (fun a9 ha9 => ⟨(fun f9 h9 => h9.elim), (fun f9 h9 => h9.elim), (fun h9 => h9.elim)⟩)
  refine j_iadd (v := 0) C dX9_dropAll_25 (by decide) ?_
  refine j_istore_n (lv' := [(1, .int 0), (0, .ref h)]) C dX9_dropAll_26 rfl (by rw [hn9]; decide) rfl ?_
  refine j_aload_n C dX9_dropAll_27 rfl 1 rfl ?_
  refine j_getr (f := 902) (v := f0) C flX9_21 dX9_dropAll_28 hm_78 hk_79 (by decide) rfl hv_99 ?_
  refine j_iconst (v := 0) C dX9_dropAll_31 (by decide) ?_
  show J _ _ _ _ _ 32 _
  refine j_callV (ci := 2) C [.int 0] [] mlX9_196 mcX2_removeMany (c_X2_removeMany S_70 f0 hm_76 hk_77 s hv_95 hm_89 hk_90 q hv_96 hm_80 hk_81 hn_82 hz_73) hm_76 hk_77 rfl (M.rm (by decide) (by decide) (Nat.le_of_ble_eq_true rfl) (Nat.le_of_ble_eq_true rfl)) rfl rfl (Nat.le_of_ble_eq_true rfl) dX9_dropAll_32 (fun r_103 S_104 hp_105 => ?_)
  obtain ⟨rfl, hf_106⟩ := hp_105
  refine J.eq (st' := []) rfl rfl rfl ?_
  have hz_107 : ∀ j, aI S_104 q j = 0 := fun j9 => (hf_106.ai hm_80 (fun h9 => h9) j9).trans (hz_73 j9)
  have hz_108 : ∀ j, aI S_104 q2 j = 0 := fun j9 => (hf_106.ai hm_83 (fun h9 => h9) j9).trans (hz_74 j9)
  have hz_109 : ∀ j, aI S_104 q3 j = 0 := fun j9 => (hf_106.ai hm_86 (fun h9 => h9) j9).trans (hz_75 j9)
  have hm_110 : f0 ∈ hL S_104 := hf_106.mem hm_76
  have hk_111 : Kd S_104 f0 2 := hf_106.kd hm_76 hk_77
  have hm_112 : h ∈ hL S_104 := hf_106.mem hm_78
  have hk_113 : Kd S_104 h 9 := hf_106.kd hm_78 hk_79
  have hm_114 : q ∈ hL S_104 := hf_106.mem hm_80
  have hk_115 : Kd S_104 q 14 := hf_106.kd hm_80 hk_81
  have hn_116 : Ln S_104 q 16 := hf_106.ln hm_80 hn_82
  have hm_117 : q2 ∈ hL S_104 := hf_106.mem hm_83
  have hk_118 : Kd S_104 q2 14 := hf_106.kd hm_83 hk_84
  have hn_119 : Ln S_104 q2 16 := hf_106.ln hm_83 hn_85
  have hm_120 : q3 ∈ hL S_104 := hf_106.mem hm_86
  have hk_121 : Kd S_104 q3 14 := hf_106.kd hm_86 hk_87
  have hn_122 : Ln S_104 q3 16 := hf_106.ln hm_86 hn_88
  have hm_123 : s ∈ hL S_104 := hf_106.mem hm_89
  have hk_124 : Kd S_104 s 8 := hf_106.kd hm_89 hk_90
  have hm_125 : s2 ∈ hL S_104 := hf_106.mem hm_91
  have hk_126 : Kd S_104 s2 8 := hf_106.kd hm_91 hk_92
  have hm_127 : s3 ∈ hL S_104 := hf_106.mem hm_93
  have hk_128 : Kd S_104 s3 8 := hf_106.kd hm_93 hk_94
  have hv_129 : hR S_104 200 f0 = (some s) := hf_106.fr hm_76 (fun h9 => h9) hv_95
  have hv_130 : hR S_104 800 s = (some q) := hf_106.fr hm_89 (fun h9 => h9) hv_96
  have hv_131 : hR S_104 800 s2 = (some q2) := hf_106.fr hm_91 (fun h9 => h9) hv_97
  have hv_132 : hR S_104 800 s3 = (some q3) := hf_106.fr hm_93 (fun h9 => h9) hv_98
  have hv_133 : hR S_104 902 h = (some f0) := hf_106.fr hm_78 (fun h9 => h9) hv_99
  have hv_134 : hR S_104 903 h = (some s2) := hf_106.fr hm_78 (fun h9 => h9) hv_100
  have hv_135 : hR S_104 906 h = (some s3) := hf_106.fr hm_78 (fun h9 => h9) hv_101
  have hf_136 : Fm (fun f9 b9 => (f9 = 209 ∧ b9 = f0)) (fun _ _ => False) (fun b9 => b9 = q2 ∨ b9 = q3) S S_104 := hf_102.then hf_106 (fun a9 ha9 => ⟨(fun f9 h9 => (fun h8 => h8) h9), (fun f9 h9 => h9.elim), (fun h9 => h9.elim)⟩)
  refine j_aload_n C dX9_dropAll_35 rfl 1 rfl ?_
  refine j_getr (f := 903) (v := s2) C flX9_28 dX9_dropAll_36 hm_112 hk_113 (by decide) rfl hv_134 ?_
  refine j_iconst (v := 0) C dX9_dropAll_39 (by decide) ?_
  refine j_callV (ci := 8) C [.int 0] [] mlX9_200 mcX8_removeMany (c_X8_removeMany S_104 s2 hm_125 hk_126 q2 hv_131 hm_117 hk_118 hn_119) hm_125 hk_126 rfl (M.rm (by decide) (by decide) (Nat.le_of_ble_eq_true rfl) (Nat.le_of_ble_eq_true rfl)) rfl rfl (Nat.le_of_ble_eq_true rfl) dX9_dropAll_40 (fun r_137 S_138 hp_139 => ?_)
  obtain ⟨rfl, hf_140⟩ := hp_139
  refine J.eq (st' := []) rfl rfl rfl ?_
  have hm_141 : f0 ∈ hL S_138 := hf_140.mem hm_110
  have hk_142 : Kd S_138 f0 2 := hf_140.kd hm_110 hk_111
  have hm_143 : h ∈ hL S_138 := hf_140.mem hm_112
  have hk_144 : Kd S_138 h 9 := hf_140.kd hm_112 hk_113
  have hm_145 : q ∈ hL S_138 := hf_140.mem hm_114
  have hk_146 : Kd S_138 q 14 := hf_140.kd hm_114 hk_115
  have hn_147 : Ln S_138 q 16 := hf_140.ln hm_114 hn_116
  have hm_148 : q2 ∈ hL S_138 := hf_140.mem hm_117
  have hk_149 : Kd S_138 q2 14 := hf_140.kd hm_117 hk_118
  have hn_150 : Ln S_138 q2 16 := hf_140.ln hm_117 hn_119
  have hm_151 : q3 ∈ hL S_138 := hf_140.mem hm_120
  have hk_152 : Kd S_138 q3 14 := hf_140.kd hm_120 hk_121
  have hn_153 : Ln S_138 q3 16 := hf_140.ln hm_120 hn_122
  have hm_154 : s ∈ hL S_138 := hf_140.mem hm_123
  have hk_155 : Kd S_138 s 8 := hf_140.kd hm_123 hk_124
  have hm_156 : s2 ∈ hL S_138 := hf_140.mem hm_125
  have hk_157 : Kd S_138 s2 8 := hf_140.kd hm_125 hk_126
  have hm_158 : s3 ∈ hL S_138 := hf_140.mem hm_127
  have hk_159 : Kd S_138 s3 8 := hf_140.kd hm_127 hk_128
  have hv_160 : hR S_138 200 f0 = (some s) := hf_140.fr hm_110 (fun h9 => h9) hv_129
  have hv_161 : hR S_138 800 s = (some q) := hf_140.fr hm_123 (fun h9 => h9) hv_130
  have hv_162 : hR S_138 800 s2 = (some q2) := hf_140.fr hm_125 (fun h9 => h9) hv_131
  have hv_163 : hR S_138 800 s3 = (some q3) := hf_140.fr hm_127 (fun h9 => h9) hv_132
  have hv_164 : hR S_138 902 h = (some f0) := hf_140.fr hm_112 (fun h9 => h9) hv_133
  have hv_165 : hR S_138 903 h = (some s2) := hf_140.fr hm_112 (fun h9 => h9) hv_134
  have hv_166 : hR S_138 906 h = (some s3) := hf_140.fr hm_112 (fun h9 => h9) hv_135
  have hf_167 : Fm (fun f9 b9 => (f9 = 209 ∧ b9 = f0)) (fun _ _ => False) (fun b9 => b9 = q2 ∨ b9 = q3) S S_138 := hf_136.then hf_140 (fun a9 ha9 => ⟨(fun f9 h9 => h9.elim), (fun f9 h9 => h9.elim), (fun h9 => (fun h8 => (Or.inl h8)) h9)⟩)
  refine j_aload_n C dX9_dropAll_43 rfl 1 rfl ?_
  refine j_getr (f := 906) (v := s3) C flX9_43 dX9_dropAll_44 hm_143 hk_144 (by decide) rfl hv_166 ?_
  refine j_iconst (v := 0) C dX9_dropAll_47 (by decide) ?_
  show J _ _ _ _ _ 48 _
  refine j_callV (ci := 8) C [.int 0] [] mlX9_200 mcX8_removeMany (c_X8_removeMany S_138 s3 hm_158 hk_159 q3 hv_163 hm_151 hk_152 hn_153) hm_158 hk_159 rfl (M.rm (by decide) (by decide) (Nat.le_of_ble_eq_true rfl) (Nat.le_of_ble_eq_true rfl)) rfl rfl (Nat.le_of_ble_eq_true rfl) dX9_dropAll_48 (fun r_168 S_169 hp_170 => ?_)
  obtain ⟨rfl, hf_171⟩ := hp_170
  refine J.eq (st' := []) rfl rfl rfl ?_
  have hm_172 : f0 ∈ hL S_169 := hf_171.mem hm_141
  have hk_173 : Kd S_169 f0 2 := hf_171.kd hm_141 hk_142
  have hm_174 : h ∈ hL S_169 := hf_171.mem hm_143
  have hk_175 : Kd S_169 h 9 := hf_171.kd hm_143 hk_144
  have hm_176 : q ∈ hL S_169 := hf_171.mem hm_145
  have hk_177 : Kd S_169 q 14 := hf_171.kd hm_145 hk_146
  have hn_178 : Ln S_169 q 16 := hf_171.ln hm_145 hn_147
  have hm_179 : q2 ∈ hL S_169 := hf_171.mem hm_148
  have hk_180 : Kd S_169 q2 14 := hf_171.kd hm_148 hk_149
  have hn_181 : Ln S_169 q2 16 := hf_171.ln hm_148 hn_150
  have hm_182 : q3 ∈ hL S_169 := hf_171.mem hm_151
  have hk_183 : Kd S_169 q3 14 := hf_171.kd hm_151 hk_152
  have hn_184 : Ln S_169 q3 16 := hf_171.ln hm_151 hn_153
  have hm_185 : s ∈ hL S_169 := hf_171.mem hm_154
  have hk_186 : Kd S_169 s 8 := hf_171.kd hm_154 hk_155
  have hm_187 : s2 ∈ hL S_169 := hf_171.mem hm_156
  have hk_188 : Kd S_169 s2 8 := hf_171.kd hm_156 hk_157
  have hm_189 : s3 ∈ hL S_169 := hf_171.mem hm_158
  have hk_190 : Kd S_169 s3 8 := hf_171.kd hm_158 hk_159
  have hv_191 : hR S_169 200 f0 = (some s) := hf_171.fr hm_141 (fun h9 => h9) hv_160
  have hv_192 : hR S_169 800 s = (some q) := hf_171.fr hm_154 (fun h9 => h9) hv_161
  have hv_193 : hR S_169 800 s2 = (some q2) := hf_171.fr hm_156 (fun h9 => h9) hv_162
  have hv_194 : hR S_169 800 s3 = (some q3) := hf_171.fr hm_158 (fun h9 => h9) hv_163
  have hv_195 : hR S_169 902 h = (some f0) := hf_171.fr hm_143 (fun h9 => h9) hv_164
  have hv_196 : hR S_169 903 h = (some s2) := hf_171.fr hm_143 (fun h9 => h9) hv_165
  have hv_197 : hR S_169 906 h = (some s3) := hf_171.fr hm_143 (fun h9 => h9) hv_166
  have hf_198 : Fm (fun f9 b9 => (f9 = 209 ∧ b9 = f0)) (fun _ _ => False) (fun b9 => b9 = q2 ∨ b9 = q3) S S_169 := hf_167.then hf_171 (fun a9 ha9 => ⟨(fun f9 h9 => h9.elim), (fun f9 h9 => h9.elim), (fun h9 => (fun h8 => (Or.inr h8)) h9)⟩)
  refine j_iload_n C dX9_dropAll_51 rfl 0 rfl ?_
  exact j_iret C M dX9_dropAll_52 (Nat.le_of_ble_eq_true rfl) (Nat.le_of_ble_eq_true rfl) ⟨rfl, hf_198⟩

/-- what held, fault and state answer on a new house -/
def an_held (w : Int32) : Int32 := if w = 0 then 0 else if w = 1 then 0 else if w = 2 then 0 else if w = 3 then 0 else if w = 4 then 0 else if w = 5 then 0 else if w = 6 then 0 else -1
def an_fault (w : Int32) : Int32 := if w = 0 then 0 else -1

theorem dX9_number_0 : decode cX9_number 0 = .ok (.iload_n 1, 1) := by decide +kernel
theorem dX9_number_1 : decode cX9_number 1 = .ok (.tableswitch 96 0 6 #[43, 54, 62, 70, 78, 83, 88], 43) := by decide +kernel
theorem dX9_number_44 : decode cX9_number 44 = .ok (.aload_n 0, 1) := by decide +kernel
theorem dX9_number_45 : decode cX9_number 45 = .ok (.getfield 21, 3) := by decide +kernel
theorem dX9_number_48 : decode cX9_number 48 = .ok (.getfield 176, 3) := by decide +kernel
theorem dX9_number_51 : decode cX9_number 51 = .ok (.invokevirtual 179, 3) := by decide +kernel
theorem dX9_number_54 : decode cX9_number 54 = .ok (.ireturn, 1) := by decide +kernel
theorem dX9_number_55 : decode cX9_number 55 = .ok (.aload_n 0, 1) := by decide +kernel
theorem dX9_number_56 : decode cX9_number 56 = .ok (.getfield 21, 3) := by decide +kernel
theorem dX9_number_59 : decode cX9_number 59 = .ok (.getfield 183, 3) := by decide +kernel
theorem dX9_number_62 : decode cX9_number 62 = .ok (.ireturn, 1) := by decide +kernel
theorem dX9_number_63 : decode cX9_number 63 = .ok (.aload_n 0, 1) := by decide +kernel
theorem dX9_number_64 : decode cX9_number 64 = .ok (.getfield 28, 3) := by decide +kernel
theorem dX9_number_67 : decode cX9_number 67 = .ok (.invokevirtual 179, 3) := by decide +kernel
theorem dX9_number_70 : decode cX9_number 70 = .ok (.ireturn, 1) := by decide +kernel
theorem dX9_number_71 : decode cX9_number 71 = .ok (.aload_n 0, 1) := by decide +kernel
theorem dX9_number_72 : decode cX9_number 72 = .ok (.getfield 43, 3) := by decide +kernel
theorem dX9_number_75 : decode cX9_number 75 = .ok (.invokevirtual 179, 3) := by decide +kernel
theorem dX9_number_78 : decode cX9_number 78 = .ok (.ireturn, 1) := by decide +kernel
theorem dX9_number_79 : decode cX9_number 79 = .ok (.aload_n 0, 1) := by decide +kernel
theorem dX9_number_80 : decode cX9_number 80 = .ok (.invokevirtual 186, 3) := by decide +kernel
theorem dX9_number_83 : decode cX9_number 83 = .ok (.ireturn, 1) := by decide +kernel
theorem dX9_number_84 : decode cX9_number 84 = .ok (.aload_n 0, 1) := by decide +kernel
theorem dX9_number_85 : decode cX9_number 85 = .ok (.getfield 86, 3) := by decide +kernel
theorem dX9_number_88 : decode cX9_number 88 = .ok (.ireturn, 1) := by decide +kernel
theorem dX9_number_89 : decode cX9_number 89 = .ok (.aload_n 0, 1) := by decide +kernel
theorem dX9_number_90 : decode cX9_number 90 = .ok (.getfield 12, 3) := by decide +kernel
theorem dX9_number_93 : decode cX9_number 93 = .ok (.getfield 189, 3) := by decide +kernel
theorem dX9_number_96 : decode cX9_number 96 = .ok (.ireturn, 1) := by decide +kernel
theorem dX9_number_97 : decode cX9_number 97 = .ok (.iconst (-1), 1) := by decide +kernel
theorem dX9_number_98 : decode cX9_number 98 = .ok (.ireturn, 1) := by decide +kernel
set_option maxRecDepth 100000 in
set_option maxHeartbeats 4000000 in
theorem c_X9_number (S : Hp) (h : Nat) (hm : h ∈ hL S) (hk : hK S h = 9) (f0 : Nat) (rf0 : hR S 902 h = some f0) (mf0 : f0 ∈ hL S) (kf0 : Kd S f0 2) (s : Nat) (rs : hR S 200 f0 = some s) (ms : s ∈ hL S) (ks : Kd S s 8) (q : Nat) (rq : hR S 800 s = some q) (mq : q ∈ hL S) (kq : Kd S q 14) (lq : Ln S q 16) (zq : ∀ j, aI S q j = 0) (s2 : Nat) (rs2 : hR S 903 h = some s2) (ms2 : s2 ∈ hL S) (ks2 : Kd S s2 8) (q2 : Nat) (rq2 : hR S 800 s2 = some q2) (mq2 : q2 ∈ hL S) (kq2 : Kd S q2 14) (lq2 : Ln S q2 16) (zq2 : ∀ j, aI S q2 j = 0) (s3 : Nat) (rs3 : hR S 906 h = some s3) (ms3 : s3 ∈ hL S) (ks3 : Kd S s3 8) (q3 : Nat) (rq3 : hR S 800 s3 = some q3) (mq3 : q3 ∈ hL S) (kq3 : Kd S q3 14) (lq3 : Ln S q3 16) (zq3 : ∀ j, aI S q3 j = 0) (z : Nat) (rz : hR S 908 h = some z) (mz : z ∈ hL S) (kz : Kd S z 14) (lz : Ln S z 16) (c0 : Nat) (rc0 : hR S 901 h = some c0) (mc0 : c0 ∈ hL S) (kc0 : Kd S c0 0) (i0 : hI S 206 f0 = 0) (i1 : hI S 916 h = 0) (i2 : hI S 3 c0 = 0) (w0 : Int32) : Ct 3 yX9_number cX9_number 2 (some .int) 0 0 [.ref h, .int w0] S (fun r S' => r = some (.int (an_held w0)) ∧ Fm (fun _ _ => False) (fun _ _ => False) (fun _ => False) S S') := by
  refine ct_of (by decide) (Nat.le_of_ble_eq_true rfl) fun x hn9 C M hm9 => ?_
  have C : CB x RX9 cX9_number := C
  refine J.eq (lv' := [(0, .ref h), (1, .int w0)]) rfl rfl rfl ?_
  refine j_iload_n C dX9_number_0 rfl 1 rfl ?_
  by_cases hs_1_0 : w0 = 0
  · skip
    subst hs_1_0
    refine j_tabIn (off := 43) (tgt := 44) C dX9_number_1 (by decide) (by decide) (by decide) (by decide) ?_
    refine j_aload_n C dX9_number_44 rfl 0 rfl ?_
    refine j_getr (f := 902) (v := f0) C flX9_21 dX9_number_45 hm hk (by decide) rfl rf0 ?_
    refine j_getr (f := 200) (v := s) C flX9_176 dX9_number_48 mf0 kf0 (by decide) rfl rs ?_
    refine j_callV (ci := 8) C [] [] mlX9_179 mcX8_count (c_X8_count S s ms ks q rq mq kq lq zq) ms ks rfl (M.rm (by decide) (by decide) (Nat.le_of_ble_eq_true rfl) (Nat.le_of_ble_eq_true rfl)) rfl rfl (Nat.le_of_ble_eq_true rfl) dX9_number_51 (fun r_1 S_2 hp_3 => ?_)
    obtain ⟨rfl, hf_4⟩ := hp_3
    refine J.eq (st' := [.int 0]) rfl rfl rfl ?_
    have hz_5 : ∀ j, aI S_2 q j = 0 := fun j9 => (hf_4.ai mq (fun h9 => h9) j9).trans (zq j9)
    have hz_6 : ∀ j, aI S_2 q2 j = 0 := fun j9 => (hf_4.ai mq2 (fun h9 => h9) j9).trans (zq2 j9)
    have hz_7 : ∀ j, aI S_2 q3 j = 0 := fun j9 => (hf_4.ai mq3 (fun h9 => h9) j9).trans (zq3 j9)
    have hm_8 : c0 ∈ hL S_2 := hf_4.mem mc0
    have hk_9 : Kd S_2 c0 0 := hf_4.kd mc0 kc0
    have hm_10 : f0 ∈ hL S_2 := hf_4.mem mf0
    have hk_11 : Kd S_2 f0 2 := hf_4.kd mf0 kf0
    have hm_12 : h ∈ hL S_2 := hf_4.mem hm
    have hk_13 : Kd S_2 h 9 := hf_4.kd hm hk
    have hm_14 : q ∈ hL S_2 := hf_4.mem mq
    have hk_15 : Kd S_2 q 14 := hf_4.kd mq kq
    have hn_16 : Ln S_2 q 16 := hf_4.ln mq lq
    have hm_17 : q2 ∈ hL S_2 := hf_4.mem mq2
    have hk_18 : Kd S_2 q2 14 := hf_4.kd mq2 kq2
    have hn_19 : Ln S_2 q2 16 := hf_4.ln mq2 lq2
    have hm_20 : q3 ∈ hL S_2 := hf_4.mem mq3
    have hk_21 : Kd S_2 q3 14 := hf_4.kd mq3 kq3
    have hn_22 : Ln S_2 q3 16 := hf_4.ln mq3 lq3
    have hm_23 : s ∈ hL S_2 := hf_4.mem ms
    have hk_24 : Kd S_2 s 8 := hf_4.kd ms ks
    have hm_25 : s2 ∈ hL S_2 := hf_4.mem ms2
    have hk_26 : Kd S_2 s2 8 := hf_4.kd ms2 ks2
    have hm_27 : s3 ∈ hL S_2 := hf_4.mem ms3
    have hk_28 : Kd S_2 s3 8 := hf_4.kd ms3 ks3
    have hm_29 : z ∈ hL S_2 := hf_4.mem mz
    have hk_30 : Kd S_2 z 14 := hf_4.kd mz kz
    have hn_31 : Ln S_2 z 16 := hf_4.ln mz lz
    have hv_32 : hI S_2 206 f0 = 0 := hf_4.fi mf0 (fun h9 => h9) i0
    have hv_33 : hI S_2 3 c0 = 0 := hf_4.fi mc0 (fun h9 => h9) i2
    have hv_34 : hI S_2 916 h = 0 := hf_4.fi hm (fun h9 => h9) i1
    have hv_35 : hR S_2 200 f0 = (some s) := hf_4.fr mf0 (fun h9 => h9) rs
    have hv_36 : hR S_2 800 s = (some q) := hf_4.fr ms (fun h9 => h9) rq
    have hv_37 : hR S_2 800 s2 = (some q2) := hf_4.fr ms2 (fun h9 => h9) rq2
    have hv_38 : hR S_2 800 s3 = (some q3) := hf_4.fr ms3 (fun h9 => h9) rq3
    have hv_39 : hR S_2 901 h = (some c0) := hf_4.fr hm (fun h9 => h9) rc0
    have hv_40 : hR S_2 902 h = (some f0) := hf_4.fr hm (fun h9 => h9) rf0
    have hv_41 : hR S_2 903 h = (some s2) := hf_4.fr hm (fun h9 => h9) rs2
    have hv_42 : hR S_2 906 h = (some s3) := hf_4.fr hm (fun h9 => h9) rs3
    have hv_43 : hR S_2 908 h = (some z) := hf_4.fr hm (fun h9 => h9) rz
    have hf_44 : Fm (fun _ _ => False) (fun _ _ => False) (fun _ => False) S S_2 := (Fm.refl (WI := (fun _ _ => False)) (WR := (fun _ _ => False)) (WA := (fun _ => False))).then hf_4 (fun a9 ha9 => ⟨(fun f9 h9 => h9.elim), (fun f9 h9 => h9.elim), (fun h9 => h9.elim)⟩)
    exact j_iret C M dX9_number_54 (Nat.le_of_ble_eq_true rfl) (Nat.le_of_ble_eq_true rfl) ⟨rfl, hf_44⟩
  by_cases hs_1_1 : w0 = 1
  · skip
    subst hs_1_1
    refine j_tabIn (off := 54) (tgt := 55) C dX9_number_1 (by decide) (by decide) (by decide) (by decide) ?_
    refine j_aload_n C dX9_number_55 rfl 0 rfl ?_
    refine j_getr (f := 902) (v := f0) C flX9_21 dX9_number_56 hm hk (by decide) rfl rf0 ?_
    refine j_geti (f := 206) (v := 0) C flX9_183 dX9_number_59 mf0 kf0 (by decide) (by decide) rfl i0 ?_
    show J _ _ _ _ _ 62 _
    exact j_iret C M dX9_number_62 (by decide) (by decide) ⟨rfl, (Fm.refl (WI := (fun _ _ => False)) (WR := (fun _ _ => False)) (WA := (fun _ => False)))⟩
  by_cases hs_1_2 : w0 = 2
  · skip
    subst hs_1_2
    refine j_tabIn (off := 62) (tgt := 63) C dX9_number_1 (by decide) (by decide) (by decide) (by decide) ?_
    refine j_aload_n C dX9_number_63 rfl 0 rfl ?_
    refine j_getr (f := 903) (v := s2) C flX9_28 dX9_number_64 hm hk (by decide) rfl rs2 ?_
    refine j_callV (ci := 8) C [] [] mlX9_179 mcX8_count (c_X8_count S s2 ms2 ks2 q2 rq2 mq2 kq2 lq2 zq2) ms2 ks2 rfl (M.rm (by decide) (by decide) (Nat.le_of_ble_eq_true rfl) (Nat.le_of_ble_eq_true rfl)) rfl rfl (Nat.le_of_ble_eq_true rfl) dX9_number_67 (fun r_45 S_46 hp_47 => ?_)
    obtain ⟨rfl, hf_48⟩ := hp_47
    refine J.eq (st' := [.int 0]) rfl rfl rfl ?_
    have hz_49 : ∀ j, aI S_46 q j = 0 := fun j9 => (hf_48.ai mq (fun h9 => h9) j9).trans (zq j9)
    have hz_50 : ∀ j, aI S_46 q2 j = 0 := fun j9 => (hf_48.ai mq2 (fun h9 => h9) j9).trans (zq2 j9)
    have hz_51 : ∀ j, aI S_46 q3 j = 0 := fun j9 => (hf_48.ai mq3 (fun h9 => h9) j9).trans (zq3 j9)
    have hm_52 : c0 ∈ hL S_46 := hf_48.mem mc0
    have hk_53 : Kd S_46 c0 0 := hf_48.kd mc0 kc0
    have hm_54 : f0 ∈ hL S_46 := hf_48.mem mf0
    have hk_55 : Kd S_46 f0 2 := hf_48.kd mf0 kf0
    have hm_56 : h ∈ hL S_46 := hf_48.mem hm
    have hk_57 : Kd S_46 h 9 := hf_48.kd hm hk
    have hm_58 : q ∈ hL S_46 := hf_48.mem mq
    have hk_59 : Kd S_46 q 14 := hf_48.kd mq kq
    have hn_60 : Ln S_46 q 16 := hf_48.ln mq lq
    have hm_61 : q2 ∈ hL S_46 := hf_48.mem mq2
    have hk_62 : Kd S_46 q2 14 := hf_48.kd mq2 kq2
    have hn_63 : Ln S_46 q2 16 := hf_48.ln mq2 lq2
    have hm_64 : q3 ∈ hL S_46 := hf_48.mem mq3
    have hk_65 : Kd S_46 q3 14 := hf_48.kd mq3 kq3
    have hn_66 : Ln S_46 q3 16 := hf_48.ln mq3 lq3
    have hm_67 : s ∈ hL S_46 := hf_48.mem ms
    have hk_68 : Kd S_46 s 8 := hf_48.kd ms ks
    have hm_69 : s2 ∈ hL S_46 := hf_48.mem ms2
    have hk_70 : Kd S_46 s2 8 := hf_48.kd ms2 ks2
    have hm_71 : s3 ∈ hL S_46 := hf_48.mem ms3
    have hk_72 : Kd S_46 s3 8 := hf_48.kd ms3 ks3
    have hm_73 : z ∈ hL S_46 := hf_48.mem mz
    have hk_74 : Kd S_46 z 14 := hf_48.kd mz kz
    have hn_75 : Ln S_46 z 16 := hf_48.ln mz lz
    have hv_76 : hI S_46 206 f0 = 0 := hf_48.fi mf0 (fun h9 => h9) i0
    have hv_77 : hI S_46 3 c0 = 0 := hf_48.fi mc0 (fun h9 => h9) i2
    have hv_78 : hI S_46 916 h = 0 := hf_48.fi hm (fun h9 => h9) i1
    have hv_79 : hR S_46 200 f0 = (some s) := hf_48.fr mf0 (fun h9 => h9) rs
    have hv_80 : hR S_46 800 s = (some q) := hf_48.fr ms (fun h9 => h9) rq
    have hv_81 : hR S_46 800 s2 = (some q2) := hf_48.fr ms2 (fun h9 => h9) rq2
    have hv_82 : hR S_46 800 s3 = (some q3) := hf_48.fr ms3 (fun h9 => h9) rq3
    have hv_83 : hR S_46 901 h = (some c0) := hf_48.fr hm (fun h9 => h9) rc0
    have hv_84 : hR S_46 902 h = (some f0) := hf_48.fr hm (fun h9 => h9) rf0
    have hv_85 : hR S_46 903 h = (some s2) := hf_48.fr hm (fun h9 => h9) rs2
    have hv_86 : hR S_46 906 h = (some s3) := hf_48.fr hm (fun h9 => h9) rs3
    have hv_87 : hR S_46 908 h = (some z) := hf_48.fr hm (fun h9 => h9) rz
    have hf_88 : Fm (fun _ _ => False) (fun _ _ => False) (fun _ => False) S S_46 := (Fm.refl (WI := (fun _ _ => False)) (WR := (fun _ _ => False)) (WA := (fun _ => False))).then hf_48 (fun a9 ha9 => ⟨(fun f9 h9 => h9.elim), (fun f9 h9 => h9.elim), (fun h9 => h9.elim)⟩)
    exact j_iret C M dX9_number_70 (Nat.le_of_ble_eq_true rfl) (Nat.le_of_ble_eq_true rfl) ⟨rfl, hf_88⟩
  by_cases hs_1_3 : w0 = 3
  · skip
    subst hs_1_3
    refine j_tabIn (off := 70) (tgt := 71) C dX9_number_1 (by decide) (by decide) (by decide) (by decide) ?_
    refine j_aload_n C dX9_number_71 rfl 0 rfl ?_
    refine j_getr (f := 906) (v := s3) C flX9_43 dX9_number_72 hm hk (by decide) rfl rs3 ?_
    refine j_callV (ci := 8) C [] [] mlX9_179 mcX8_count (c_X8_count S s3 ms3 ks3 q3 rq3 mq3 kq3 lq3 zq3) ms3 ks3 rfl (M.rm (by decide) (by decide) (Nat.le_of_ble_eq_true rfl) (Nat.le_of_ble_eq_true rfl)) rfl rfl (Nat.le_of_ble_eq_true rfl) dX9_number_75 (fun r_89 S_90 hp_91 => ?_)
    obtain ⟨rfl, hf_92⟩ := hp_91
    refine J.eq (st' := [.int 0]) rfl rfl rfl ?_
    have hz_93 : ∀ j, aI S_90 q j = 0 := fun j9 => (hf_92.ai mq (fun h9 => h9) j9).trans (zq j9)
    have hz_94 : ∀ j, aI S_90 q2 j = 0 := fun j9 => (hf_92.ai mq2 (fun h9 => h9) j9).trans (zq2 j9)
    have hz_95 : ∀ j, aI S_90 q3 j = 0 := fun j9 => (hf_92.ai mq3 (fun h9 => h9) j9).trans (zq3 j9)
    have hm_96 : c0 ∈ hL S_90 := hf_92.mem mc0
    have hk_97 : Kd S_90 c0 0 := hf_92.kd mc0 kc0
    have hm_98 : f0 ∈ hL S_90 := hf_92.mem mf0
    have hk_99 : Kd S_90 f0 2 := hf_92.kd mf0 kf0
    have hm_100 : h ∈ hL S_90 := hf_92.mem hm
    have hk_101 : Kd S_90 h 9 := hf_92.kd hm hk
    have hm_102 : q ∈ hL S_90 := hf_92.mem mq
    have hk_103 : Kd S_90 q 14 := hf_92.kd mq kq
    have hn_104 : Ln S_90 q 16 := hf_92.ln mq lq
    have hm_105 : q2 ∈ hL S_90 := hf_92.mem mq2
    have hk_106 : Kd S_90 q2 14 := hf_92.kd mq2 kq2
    have hn_107 : Ln S_90 q2 16 := hf_92.ln mq2 lq2
    have hm_108 : q3 ∈ hL S_90 := hf_92.mem mq3
    have hk_109 : Kd S_90 q3 14 := hf_92.kd mq3 kq3
    have hn_110 : Ln S_90 q3 16 := hf_92.ln mq3 lq3
    have hm_111 : s ∈ hL S_90 := hf_92.mem ms
    have hk_112 : Kd S_90 s 8 := hf_92.kd ms ks
    have hm_113 : s2 ∈ hL S_90 := hf_92.mem ms2
    have hk_114 : Kd S_90 s2 8 := hf_92.kd ms2 ks2
    have hm_115 : s3 ∈ hL S_90 := hf_92.mem ms3
    have hk_116 : Kd S_90 s3 8 := hf_92.kd ms3 ks3
    have hm_117 : z ∈ hL S_90 := hf_92.mem mz
    have hk_118 : Kd S_90 z 14 := hf_92.kd mz kz
    have hn_119 : Ln S_90 z 16 := hf_92.ln mz lz
    have hv_120 : hI S_90 206 f0 = 0 := hf_92.fi mf0 (fun h9 => h9) i0
    have hv_121 : hI S_90 3 c0 = 0 := hf_92.fi mc0 (fun h9 => h9) i2
    have hv_122 : hI S_90 916 h = 0 := hf_92.fi hm (fun h9 => h9) i1
    have hv_123 : hR S_90 200 f0 = (some s) := hf_92.fr mf0 (fun h9 => h9) rs
    have hv_124 : hR S_90 800 s = (some q) := hf_92.fr ms (fun h9 => h9) rq
    have hv_125 : hR S_90 800 s2 = (some q2) := hf_92.fr ms2 (fun h9 => h9) rq2
    have hv_126 : hR S_90 800 s3 = (some q3) := hf_92.fr ms3 (fun h9 => h9) rq3
    have hv_127 : hR S_90 901 h = (some c0) := hf_92.fr hm (fun h9 => h9) rc0
    have hv_128 : hR S_90 902 h = (some f0) := hf_92.fr hm (fun h9 => h9) rf0
    have hv_129 : hR S_90 903 h = (some s2) := hf_92.fr hm (fun h9 => h9) rs2
    have hv_130 : hR S_90 906 h = (some s3) := hf_92.fr hm (fun h9 => h9) rs3
    have hv_131 : hR S_90 908 h = (some z) := hf_92.fr hm (fun h9 => h9) rz
    have hf_132 : Fm (fun _ _ => False) (fun _ _ => False) (fun _ => False) S S_90 := (Fm.refl (WI := (fun _ _ => False)) (WR := (fun _ _ => False)) (WA := (fun _ => False))).then hf_92 (fun a9 ha9 => ⟨(fun f9 h9 => h9.elim), (fun f9 h9 => h9.elim), (fun h9 => h9.elim)⟩)
    exact j_iret C M dX9_number_78 (Nat.le_of_ble_eq_true rfl) (Nat.le_of_ble_eq_true rfl) ⟨rfl, hf_132⟩
  by_cases hs_1_4 : w0 = 4
  · skip
    subst hs_1_4
    refine j_tabIn (off := 78) (tgt := 79) C dX9_number_1 (by decide) (by decide) (by decide) (by decide) ?_
    refine j_aload_n C dX9_number_79 rfl 0 rfl ?_
    refine j_callV (ci := 9) C [] [] mlX9_186 mcX9_bytesOfMacros (c_X9_bytesOfMacros S h hm hk s3 rs3 ms3 ks3 q3 rq3 mq3 kq3 lq3 zq3 z rz mz kz lz) hm hk rfl (M.rm (by decide) (by decide) (Nat.le_of_ble_eq_true rfl) (Nat.le_of_ble_eq_true rfl)) rfl rfl (Nat.le_of_ble_eq_true rfl) dX9_number_80 (fun r_133 S_134 hp_135 => ?_)
    obtain ⟨rfl, hf_136⟩ := hp_135
    refine J.eq (st' := [.int 0]) rfl rfl rfl ?_
    have hz_137 : ∀ j, aI S_134 q j = 0 := fun j9 => (hf_136.ai mq (fun h9 => h9) j9).trans (zq j9)
    have hz_138 : ∀ j, aI S_134 q2 j = 0 := fun j9 => (hf_136.ai mq2 (fun h9 => h9) j9).trans (zq2 j9)
    have hz_139 : ∀ j, aI S_134 q3 j = 0 := fun j9 => (hf_136.ai mq3 (fun h9 => h9) j9).trans (zq3 j9)
    have hm_140 : c0 ∈ hL S_134 := hf_136.mem mc0
    have hk_141 : Kd S_134 c0 0 := hf_136.kd mc0 kc0
    have hm_142 : f0 ∈ hL S_134 := hf_136.mem mf0
    have hk_143 : Kd S_134 f0 2 := hf_136.kd mf0 kf0
    have hm_144 : h ∈ hL S_134 := hf_136.mem hm
    have hk_145 : Kd S_134 h 9 := hf_136.kd hm hk
    have hm_146 : q ∈ hL S_134 := hf_136.mem mq
    have hk_147 : Kd S_134 q 14 := hf_136.kd mq kq
    have hn_148 : Ln S_134 q 16 := hf_136.ln mq lq
    have hm_149 : q2 ∈ hL S_134 := hf_136.mem mq2
    have hk_150 : Kd S_134 q2 14 := hf_136.kd mq2 kq2
    have hn_151 : Ln S_134 q2 16 := hf_136.ln mq2 lq2
    have hm_152 : q3 ∈ hL S_134 := hf_136.mem mq3
    have hk_153 : Kd S_134 q3 14 := hf_136.kd mq3 kq3
    have hn_154 : Ln S_134 q3 16 := hf_136.ln mq3 lq3
    have hm_155 : s ∈ hL S_134 := hf_136.mem ms
    have hk_156 : Kd S_134 s 8 := hf_136.kd ms ks
    have hm_157 : s2 ∈ hL S_134 := hf_136.mem ms2
    have hk_158 : Kd S_134 s2 8 := hf_136.kd ms2 ks2
    have hm_159 : s3 ∈ hL S_134 := hf_136.mem ms3
    have hk_160 : Kd S_134 s3 8 := hf_136.kd ms3 ks3
    have hm_161 : z ∈ hL S_134 := hf_136.mem mz
    have hk_162 : Kd S_134 z 14 := hf_136.kd mz kz
    have hn_163 : Ln S_134 z 16 := hf_136.ln mz lz
    have hv_164 : hI S_134 206 f0 = 0 := hf_136.fi mf0 (fun h9 => h9) i0
    have hv_165 : hI S_134 3 c0 = 0 := hf_136.fi mc0 (fun h9 => h9) i2
    have hv_166 : hI S_134 916 h = 0 := hf_136.fi hm (fun h9 => h9) i1
    have hv_167 : hR S_134 200 f0 = (some s) := hf_136.fr mf0 (fun h9 => h9) rs
    have hv_168 : hR S_134 800 s = (some q) := hf_136.fr ms (fun h9 => h9) rq
    have hv_169 : hR S_134 800 s2 = (some q2) := hf_136.fr ms2 (fun h9 => h9) rq2
    have hv_170 : hR S_134 800 s3 = (some q3) := hf_136.fr ms3 (fun h9 => h9) rq3
    have hv_171 : hR S_134 901 h = (some c0) := hf_136.fr hm (fun h9 => h9) rc0
    have hv_172 : hR S_134 902 h = (some f0) := hf_136.fr hm (fun h9 => h9) rf0
    have hv_173 : hR S_134 903 h = (some s2) := hf_136.fr hm (fun h9 => h9) rs2
    have hv_174 : hR S_134 906 h = (some s3) := hf_136.fr hm (fun h9 => h9) rs3
    have hv_175 : hR S_134 908 h = (some z) := hf_136.fr hm (fun h9 => h9) rz
    have hf_176 : Fm (fun _ _ => False) (fun _ _ => False) (fun _ => False) S S_134 := (Fm.refl (WI := (fun _ _ => False)) (WR := (fun _ _ => False)) (WA := (fun _ => False))).then hf_136 (fun a9 ha9 => ⟨(fun f9 h9 => h9.elim), (fun f9 h9 => h9.elim), (fun h9 => h9.elim)⟩)
    show J _ _ _ _ _ 83 _
    exact j_iret C M dX9_number_83 (Nat.le_of_ble_eq_true rfl) (Nat.le_of_ble_eq_true rfl) ⟨rfl, hf_176⟩
  by_cases hs_1_5 : w0 = 5
  · skip
    subst hs_1_5
    refine j_tabIn (off := 83) (tgt := 84) C dX9_number_1 (by decide) (by decide) (by decide) (by decide) ?_
    refine j_aload_n C dX9_number_84 rfl 0 rfl ?_
    refine j_geti (f := 916) (v := 0) C flX9_86 dX9_number_85 hm hk (by decide) (by decide) rfl i1 ?_
    exact j_iret C M dX9_number_88 (by decide) (by decide) ⟨rfl, (Fm.refl (WI := (fun _ _ => False)) (WR := (fun _ _ => False)) (WA := (fun _ => False)))⟩
  by_cases hs_1_6 : w0 = 6
  · skip
    subst hs_1_6
    refine j_tabIn (off := 88) (tgt := 89) C dX9_number_1 (by decide) (by decide) (by decide) (by decide) ?_
    refine j_aload_n C dX9_number_89 rfl 0 rfl ?_
    refine j_getr (f := 901) (v := c0) C flX9_12 dX9_number_90 hm hk (by decide) rfl rc0 ?_
    refine j_geti (f := 3) (v := 0) C flX9_189 dX9_number_93 mc0 kc0 (by decide) (by decide) rfl i2 ?_
    exact j_iret C M dX9_number_96 (by decide) (by decide) ⟨rfl, (Fm.refl (WI := (fun _ _ => False)) (WR := (fun _ _ => False)) (WA := (fun _ => False)))⟩
  refine j_tabOut (tgt := 97) C dX9_number_1 (by have t09 : (w0).toInt ≠ 0 := ne_toInt hs_1_0 (by decide); have t19 : (w0).toInt ≠ 1 := ne_toInt hs_1_1 (by decide); have t29 : (w0).toInt ≠ 2 := ne_toInt hs_1_2 (by decide); have t39 : (w0).toInt ≠ 3 := ne_toInt hs_1_3 (by decide); have t49 : (w0).toInt ≠ 4 := ne_toInt hs_1_4 (by decide); have t59 : (w0).toInt ≠ 5 := ne_toInt hs_1_5 (by decide); have t69 : (w0).toInt ≠ 6 := ne_toInt hs_1_6 (by decide); omega) (by decide) ?_
  refine j_iconst (v := (-1)) C dX9_number_97 (by decide) ?_
  exact j_iret C M dX9_number_98 (by decide) (by decide) ⟨(congrArg (fun z9 => some (Value.int z9)) (by unfold an_held; simp [hs_1_0, hs_1_1, hs_1_2, hs_1_3, hs_1_4, hs_1_5, hs_1_6])), (Fm.refl (WI := (fun _ _ => False)) (WR := (fun _ _ => False)) (WA := (fun _ => False)))⟩

theorem dX9_lastState_0 : decode cX9_lastState 0 = .ok (.aload_n 0, 1) := by decide +kernel
theorem dX9_lastState_1 : decode cX9_lastState 1 = .ok (.getfield 126, 3) := by decide +kernel
theorem dX9_lastState_4 : decode cX9_lastState 4 = .ok (.ifCond .eq 22, 3) := by decide +kernel
theorem dX9_lastState_7 : decode cX9_lastState 7 = .ok (.iload_n 1, 1) := by decide +kernel
theorem dX9_lastState_8 : decode cX9_lastState 8 = .ok (.ifCond .lt 18, 3) := by decide +kernel
theorem dX9_lastState_11 : decode cX9_lastState 11 = .ok (.iload_n 1, 1) := by decide +kernel
theorem dX9_lastState_12 : decode cX9_lastState 12 = .ok (.bipush 12, 2) := by decide +kernel
theorem dX9_lastState_14 : decode cX9_lastState 14 = .ok (.if_icmp .ge 12, 3) := by decide +kernel
theorem dX9_lastState_17 : decode cX9_lastState 17 = .ok (.aload_n 0, 1) := by decide +kernel
theorem dX9_lastState_18 : decode cX9_lastState 18 = .ok (.getfield 74, 3) := by decide +kernel
theorem dX9_lastState_21 : decode cX9_lastState 21 = .ok (.iload_n 1, 1) := by decide +kernel
theorem dX9_lastState_22 : decode cX9_lastState 22 = .ok (.iaload, 1) := by decide +kernel
theorem dX9_lastState_23 : decode cX9_lastState 23 = .ok (.goto 4, 3) := by decide +kernel
theorem dX9_lastState_26 : decode cX9_lastState 26 = .ok (.iconst (-1), 1) := by decide +kernel
theorem dX9_lastState_27 : decode cX9_lastState 27 = .ok (.ireturn, 1) := by decide +kernel
set_option maxRecDepth 100000 in
set_option maxHeartbeats 4000000 in
theorem c_X9_lastState (S : Hp) (h : Nat) (hm : h ∈ hL S) (hk : hK S h = 9) (q : Nat) (rq : hR S 917 h = some q) (mq : q ∈ hL S) (kq : Kd S q 14) (lq : Ln S q 12) (i0 : hI S 918 h = 0) (w0 : Int32) : Ct 1 yX9_lastState cX9_lastState 2 (some .int) 0 0 [.ref h, .int w0] S (fun r S' => r = some (.int (-1)) ∧ Fm (fun _ _ => False) (fun _ _ => False) (fun _ => False) S S') := by
  refine ct_of (by decide) (Nat.le_of_ble_eq_true rfl) fun x hn9 C M hm9 => ?_
  have C : CB x RX9 cX9_lastState := C
  refine J.eq (lv' := [(0, .ref h), (1, .int w0)]) rfl rfl rfl ?_
  refine j_aload_n C dX9_lastState_0 rfl 0 rfl ?_
  refine j_geti (f := 918) (v := 0) C flX9_126 dX9_lastState_1 hm hk (by decide) (by decide) rfl i0 ?_
  refine j_if_eq (tgt := 26) C dX9_lastState_4 (by decide) (fun c9 => ?_) (fun c9 => absurd (by decide) c9)
  refine j_iconst (v := (-1)) C dX9_lastState_26 (by decide) ?_
  exact j_iret C M dX9_lastState_27 (by decide) (by decide) ⟨rfl, (Fm.refl (WI := (fun _ _ => False)) (WR := (fun _ _ => False)) (WA := (fun _ => False)))⟩

theorem dX6_byteAt_0 : decode cX6_byteAt 0 = .ok (.iload_n 1, 1) := by decide +kernel
theorem dX6_byteAt_1 : decode cX6_byteAt 1 = .ok (.ifCond .lt 33, 3) := by decide +kernel
theorem dX6_byteAt_4 : decode cX6_byteAt 4 = .ok (.iload_n 1, 1) := by decide +kernel
theorem dX6_byteAt_5 : decode cX6_byteAt 5 = .ok (.aload_n 0, 1) := by decide +kernel
theorem dX6_byteAt_6 : decode cX6_byteAt 6 = .ok (.getfield 28, 3) := by decide +kernel
theorem dX6_byteAt_9 : decode cX6_byteAt 9 = .ok (.if_icmp .ge 25, 3) := by decide +kernel
theorem dX6_byteAt_12 : decode cX6_byteAt 12 = .ok (.iload_n 1, 1) := by decide +kernel
theorem dX6_byteAt_13 : decode cX6_byteAt 13 = .ok (.aload_n 0, 1) := by decide +kernel
theorem dX6_byteAt_14 : decode cX6_byteAt 14 = .ok (.getfield 12, 3) := by decide +kernel
theorem dX6_byteAt_17 : decode cX6_byteAt 17 = .ok (.arraylength, 1) := by decide +kernel
theorem dX6_byteAt_18 : decode cX6_byteAt 18 = .ok (.if_icmp .ge 16, 3) := by decide +kernel
theorem dX6_byteAt_21 : decode cX6_byteAt 21 = .ok (.aload_n 0, 1) := by decide +kernel
theorem dX6_byteAt_22 : decode cX6_byteAt 22 = .ok (.getfield 12, 3) := by decide +kernel
theorem dX6_byteAt_25 : decode cX6_byteAt 25 = .ok (.iload_n 1, 1) := by decide +kernel
theorem dX6_byteAt_26 : decode cX6_byteAt 26 = .ok (.baload, 1) := by decide +kernel
theorem dX6_byteAt_27 : decode cX6_byteAt 27 = .ok (.sipush 255, 3) := by decide +kernel
theorem dX6_byteAt_30 : decode cX6_byteAt 30 = .ok (.iand, 1) := by decide +kernel
theorem dX6_byteAt_31 : decode cX6_byteAt 31 = .ok (.goto 4, 3) := by decide +kernel
theorem dX6_byteAt_34 : decode cX6_byteAt 34 = .ok (.iconst (-1), 1) := by decide +kernel
theorem dX6_byteAt_35 : decode cX6_byteAt 35 = .ok (.ireturn, 1) := by decide +kernel
set_option maxRecDepth 100000 in
set_option maxHeartbeats 4000000 in
theorem c_X6_byteAt (S : Hp) (h : Nat) (hm : h ∈ hL S) (hk : hK S h = 6) (b0 : Nat) (rb0 : hR S 600 h = some b0) (mb0 : b0 ∈ hL S) (kb0 : Kd S b0 13) (lb0 : Ln S b0 60000) (i0 : hI S 601 h = 0) (w0 : Int32) : Ct 1 yX6_byteAt cX6_byteAt 2 (some .int) 0 0 [.ref h, .int w0] S (fun r S' => r = some (.int (-1)) ∧ Fm (fun _ _ => False) (fun _ _ => False) (fun _ => False) S S') := by
  refine ct_of (by decide) (Nat.le_of_ble_eq_true rfl) fun x hn9 C M hm9 => ?_
  have C : CB x RX6 cX6_byteAt := C
  refine J.eq (lv' := [(0, .ref h), (1, .int w0)]) rfl rfl rfl ?_
  refine j_iload_n C dX6_byteAt_0 rfl 1 rfl ?_
  refine j_if_lt (tgt := 34) C dX6_byteAt_1 (by decide) (fun c_1 => ?_) (fun c_1 => ?_)
  · skip
    refine j_iconst (v := (-1)) C dX6_byteAt_34 (by decide) ?_
    exact j_iret C M dX6_byteAt_35 (by decide) (by decide) ⟨rfl, (Fm.refl (WI := (fun _ _ => False)) (WR := (fun _ _ => False)) (WA := (fun _ => False)))⟩
  · skip
    refine j_iload_n C dX6_byteAt_4 rfl 1 rfl ?_
    refine j_aload_n C dX6_byteAt_5 rfl 0 rfl ?_
    refine j_geti (f := 601) (v := 0) C flX6_28 dX6_byteAt_6 hm hk (by decide) (by decide) rfl i0 ?_
    refine j_ic_ge (tgt := 34) C dX6_byteAt_9 (by decide) (fun c_9 => ?_) (fun c_9 => absurd (i_ge c_1) c_9)
    refine j_iconst (v := (-1)) C dX6_byteAt_34 (by decide) ?_
    exact j_iret C M dX6_byteAt_35 (by decide) (by decide) ⟨rfl, (Fm.refl (WI := (fun _ _ => False)) (WR := (fun _ _ => False)) (WA := (fun _ => False)))⟩

theorem dX6_sumOfBytes_0 : decode cX6_sumOfBytes 0 = .ok (.iconst 0, 1) := by decide +kernel
theorem dX6_sumOfBytes_1 : decode cX6_sumOfBytes 1 = .ok (.istore_n 1, 1) := by decide +kernel
theorem dX6_sumOfBytes_2 : decode cX6_sumOfBytes 2 = .ok (.iconst 0, 1) := by decide +kernel
theorem dX6_sumOfBytes_3 : decode cX6_sumOfBytes 3 = .ok (.istore_n 2, 1) := by decide +kernel
theorem dX6_sumOfBytes_4 : decode cX6_sumOfBytes 4 = .ok (.iload_n 2, 1) := by decide +kernel
theorem dX6_sumOfBytes_5 : decode cX6_sumOfBytes 5 = .ok (.aload_n 0, 1) := by decide +kernel
theorem dX6_sumOfBytes_6 : decode cX6_sumOfBytes 6 = .ok (.getfield 28, 3) := by decide +kernel
theorem dX6_sumOfBytes_9 : decode cX6_sumOfBytes 9 = .ok (.if_icmp .ge 34, 3) := by decide +kernel
theorem dX6_sumOfBytes_12 : decode cX6_sumOfBytes 12 = .ok (.iload_n 2, 1) := by decide +kernel
theorem dX6_sumOfBytes_13 : decode cX6_sumOfBytes 13 = .ok (.aload_n 0, 1) := by decide +kernel
theorem dX6_sumOfBytes_14 : decode cX6_sumOfBytes 14 = .ok (.getfield 12, 3) := by decide +kernel
theorem dX6_sumOfBytes_17 : decode cX6_sumOfBytes 17 = .ok (.arraylength, 1) := by decide +kernel
theorem dX6_sumOfBytes_18 : decode cX6_sumOfBytes 18 = .ok (.if_icmp .ge 25, 3) := by decide +kernel
theorem dX6_sumOfBytes_21 : decode cX6_sumOfBytes 21 = .ok (.bipush 31, 2) := by decide +kernel
theorem dX6_sumOfBytes_23 : decode cX6_sumOfBytes 23 = .ok (.iload_n 1, 1) := by decide +kernel
theorem dX6_sumOfBytes_24 : decode cX6_sumOfBytes 24 = .ok (.imul, 1) := by decide +kernel
theorem dX6_sumOfBytes_25 : decode cX6_sumOfBytes 25 = .ok (.aload_n 0, 1) := by decide +kernel
theorem dX6_sumOfBytes_26 : decode cX6_sumOfBytes 26 = .ok (.getfield 12, 3) := by decide +kernel
theorem dX6_sumOfBytes_29 : decode cX6_sumOfBytes 29 = .ok (.iload_n 2, 1) := by decide +kernel
theorem dX6_sumOfBytes_30 : decode cX6_sumOfBytes 30 = .ok (.baload, 1) := by decide +kernel
theorem dX6_sumOfBytes_31 : decode cX6_sumOfBytes 31 = .ok (.sipush 255, 3) := by decide +kernel
theorem dX6_sumOfBytes_34 : decode cX6_sumOfBytes 34 = .ok (.iand, 1) := by decide +kernel
theorem dX6_sumOfBytes_35 : decode cX6_sumOfBytes 35 = .ok (.iadd, 1) := by decide +kernel
theorem dX6_sumOfBytes_36 : decode cX6_sumOfBytes 36 = .ok (.istore_n 1, 1) := by decide +kernel
theorem dX6_sumOfBytes_37 : decode cX6_sumOfBytes 37 = .ok (.iinc 2 1, 3) := by decide +kernel
theorem dX6_sumOfBytes_40 : decode cX6_sumOfBytes 40 = .ok (.goto (-36), 3) := by decide +kernel
theorem dX6_sumOfBytes_43 : decode cX6_sumOfBytes 43 = .ok (.iload_n 1, 1) := by decide +kernel
theorem dX6_sumOfBytes_44 : decode cX6_sumOfBytes 44 = .ok (.ireturn, 1) := by decide +kernel
set_option maxRecDepth 100000 in
set_option maxHeartbeats 4000000 in
theorem c_X6_sumOfBytes (S : Hp) (h : Nat) (hm : h ∈ hL S) (hk : hK S h = 6) (b0 : Nat) (rb0 : hR S 600 h = some b0) (mb0 : b0 ∈ hL S) (kb0 : Kd S b0 13) (lb0 : Ln S b0 60000) (i0 : hI S 601 h = 0) : Ct 1 yX6_sumOfBytes cX6_sumOfBytes 3 (some .int) 0 0 [.ref h] S (fun r S' => r = some (.int 0) ∧ Fm (fun _ _ => False) (fun _ _ => False) (fun _ => False) S S') := by
  refine ct_of (by decide) (Nat.le_of_ble_eq_true rfl) fun x hn9 C M hm9 => ?_
  have C : CB x RX6 cX6_sumOfBytes := C
  refine J.eq (lv' := [(0, .ref h)]) rfl rfl rfl ?_
  refine j_iconst (v := 0) C dX6_sumOfBytes_0 (by decide) ?_
  refine j_istore_n (lv' := [(1, .int 0), (0, .ref h)]) C dX6_sumOfBytes_1 rfl (by rw [hn9]; decide) rfl ?_
  refine j_iconst (v := 0) C dX6_sumOfBytes_2 (by decide) ?_
  refine j_istore_n (lv' := [(2, .int 0), (1, .int 0), (0, .ref h)]) C dX6_sumOfBytes_3 rfl (by rw [hn9]; decide) rfl ?_
  refine j_iload_n C dX6_sumOfBytes_4 rfl 0 rfl ?_
  refine j_aload_n C dX6_sumOfBytes_5 rfl 2 rfl ?_
  refine j_geti (f := 601) (v := 0) C flX6_28 dX6_sumOfBytes_6 hm hk (by decide) (by decide) rfl i0 ?_
  refine j_ic_ge (tgt := 43) C dX6_sumOfBytes_9 (by decide) (fun c9 => ?_) (fun c9 => absurd (by decide) c9)
  show J _ _ _ _ _ 43 _
  refine j_iload_n C dX6_sumOfBytes_43 rfl 1 rfl ?_
  exact j_iret C M dX6_sumOfBytes_44 (by decide) (by decide) ⟨rfl, (Fm.refl (WI := (fun _ _ => False)) (WR := (fun _ _ => False)) (WA := (fun _ => False)))⟩

theorem dX6_hasPage_0 : decode cX6_hasPage 0 = .ok (.iload_n 1, 1) := by decide +kernel
theorem dX6_hasPage_1 : decode cX6_hasPage 1 = .ok (.ifCond .lt 21, 3) := by decide +kernel
theorem dX6_hasPage_4 : decode cX6_hasPage 4 = .ok (.iload_n 1, 1) := by decide +kernel
theorem dX6_hasPage_5 : decode cX6_hasPage 5 = .ok (.aload_n 0, 1) := by decide +kernel
theorem dX6_hasPage_6 : decode cX6_hasPage 6 = .ok (.getfield 32, 3) := by decide +kernel
theorem dX6_hasPage_9 : decode cX6_hasPage 9 = .ok (.if_icmp .ge 13, 3) := by decide +kernel
theorem dX6_hasPage_12 : decode cX6_hasPage 12 = .ok (.iload_n 1, 1) := by decide +kernel
theorem dX6_hasPage_13 : decode cX6_hasPage 13 = .ok (.bipush 12, 2) := by decide +kernel
theorem dX6_hasPage_15 : decode cX6_hasPage 15 = .ok (.if_icmp .ge 7, 3) := by decide +kernel
theorem dX6_hasPage_18 : decode cX6_hasPage 18 = .ok (.iconst 1, 1) := by decide +kernel
theorem dX6_hasPage_19 : decode cX6_hasPage 19 = .ok (.goto 4, 3) := by decide +kernel
theorem dX6_hasPage_22 : decode cX6_hasPage 22 = .ok (.iconst 0, 1) := by decide +kernel
theorem dX6_hasPage_23 : decode cX6_hasPage 23 = .ok (.ireturn, 1) := by decide +kernel
set_option maxRecDepth 100000 in
set_option maxHeartbeats 4000000 in
theorem c_X6_hasPage (S : Hp) (h : Nat) (hm : h ∈ hL S) (hk : hK S h = 6) (i0 : hI S 602 h = 0) (w0 : Int32) : Ct 1 yX6_hasPage cX6_hasPage 2 (some .boolean) 0 0 [.ref h, .int w0] S (fun r S' => r = some (.int 0) ∧ Fm (fun _ _ => False) (fun _ _ => False) (fun _ => False) S S') := by
  refine ct_of (by decide) (Nat.le_of_ble_eq_true rfl) fun x hn9 C M hm9 => ?_
  have C : CB x RX6 cX6_hasPage := C
  refine J.eq (lv' := [(0, .ref h), (1, .int w0)]) rfl rfl rfl ?_
  refine j_iload_n C dX6_hasPage_0 rfl 1 rfl ?_
  refine j_if_lt (tgt := 22) C dX6_hasPage_1 (by decide) (fun c_1 => ?_) (fun c_1 => ?_)
  · skip
    refine j_iconst (v := 0) C dX6_hasPage_22 (by decide) ?_
    exact j_zret C M rfl dX6_hasPage_23 (by decide) (by decide) ⟨rfl, (Fm.refl (WI := (fun _ _ => False)) (WR := (fun _ _ => False)) (WA := (fun _ => False)))⟩
  · skip
    refine j_iload_n C dX6_hasPage_4 rfl 1 rfl ?_
    refine j_aload_n C dX6_hasPage_5 rfl 0 rfl ?_
    refine j_geti (f := 602) (v := 0) C flX6_32 dX6_hasPage_6 hm hk (by decide) (by decide) rfl i0 ?_
    refine j_ic_ge (tgt := 22) C dX6_hasPage_9 (by decide) (fun c_9 => ?_) (fun c_9 => absurd (i_ge c_1) c_9)
    refine j_iconst (v := 0) C dX6_hasPage_22 (by decide) ?_
    exact j_zret C M rfl dX6_hasPage_23 (by decide) (by decide) ⟨rfl, (Fm.refl (WI := (fun _ _ => False)) (WR := (fun _ _ => False)) (WA := (fun _ => False)))⟩

theorem dX6_hasRow_0 : decode cX6_hasRow 0 = .ok (.aload_n 0, 1) := by decide +kernel
theorem dX6_hasRow_1 : decode cX6_hasRow 1 = .ok (.iload_n 1, 1) := by decide +kernel
theorem dX6_hasRow_2 : decode cX6_hasRow 2 = .ok (.invokevirtual 39, 3) := by decide +kernel
theorem dX6_hasRow_5 : decode cX6_hasRow 5 = .ok (.ifCond .eq 21, 3) := by decide +kernel
theorem dX6_hasRow_8 : decode cX6_hasRow 8 = .ok (.iload_n 2, 1) := by decide +kernel
theorem dX6_hasRow_9 : decode cX6_hasRow 9 = .ok (.ifCond .lt 17, 3) := by decide +kernel
theorem dX6_hasRow_12 : decode cX6_hasRow 12 = .ok (.iload_n 2, 1) := by decide +kernel
theorem dX6_hasRow_13 : decode cX6_hasRow 13 = .ok (.aload_n 0, 1) := by decide +kernel
theorem dX6_hasRow_14 : decode cX6_hasRow 14 = .ok (.getfield 20, 3) := by decide +kernel
theorem dX6_hasRow_17 : decode cX6_hasRow 17 = .ok (.iload_n 1, 1) := by decide +kernel
theorem dX6_hasRow_18 : decode cX6_hasRow 18 = .ok (.iaload, 1) := by decide +kernel
theorem dX6_hasRow_19 : decode cX6_hasRow 19 = .ok (.if_icmp .ge 7, 3) := by decide +kernel
theorem dX6_hasRow_22 : decode cX6_hasRow 22 = .ok (.iconst 1, 1) := by decide +kernel
theorem dX6_hasRow_23 : decode cX6_hasRow 23 = .ok (.goto 4, 3) := by decide +kernel
theorem dX6_hasRow_26 : decode cX6_hasRow 26 = .ok (.iconst 0, 1) := by decide +kernel
theorem dX6_hasRow_27 : decode cX6_hasRow 27 = .ok (.ireturn, 1) := by decide +kernel
set_option maxRecDepth 100000 in
set_option maxHeartbeats 4000000 in
theorem c_X6_hasRow (S : Hp) (h : Nat) (hm : h ∈ hL S) (hk : hK S h = 6) (i0 : hI S 602 h = 0) (w0 : Int32) (w1 : Int32) : Ct 2 yX6_hasRow cX6_hasRow 3 (some .boolean) 0 0 [.ref h, .int w0, .int w1] S (fun r S' => r = some (.int 0) ∧ Fm (fun _ _ => False) (fun _ _ => False) (fun _ => False) S S') := by
  refine ct_of (by decide) (Nat.le_of_ble_eq_true rfl) fun x hn9 C M hm9 => ?_
  have C : CB x RX6 cX6_hasRow := C
  refine J.eq (lv' := [(0, .ref h), (1, .int w0), (2, .int w1)]) rfl rfl rfl ?_
  refine j_aload_n C dX6_hasRow_0 rfl 0 rfl ?_
  refine j_iload_n C dX6_hasRow_1 rfl 1 rfl ?_
  refine j_callV (ci := 6) C [.int w0] [] mlX6_39 mcX6_hasPage (c_X6_hasPage S h hm hk i0 w0) hm hk rfl (M.rm (by decide) (by decide) (Nat.le_of_ble_eq_true rfl) (Nat.le_of_ble_eq_true rfl)) rfl rfl (Nat.le_of_ble_eq_true rfl) dX6_hasRow_2 (fun r_1 S_2 hp_3 => ?_)
  obtain ⟨rfl, hf_4⟩ := hp_3
  refine J.eq (st' := [.int 0]) rfl rfl rfl ?_
  have hm_5 : h ∈ hL S_2 := hf_4.mem hm
  have hk_6 : Kd S_2 h 6 := hf_4.kd hm hk
  have hv_7 : hI S_2 602 h = 0 := hf_4.fi hm (fun h9 => h9) i0
  have hf_8 : Fm (fun _ _ => False) (fun _ _ => False) (fun _ => False) S S_2 := (Fm.refl (WI := (fun _ _ => False)) (WR := (fun _ _ => False)) (WA := (fun _ => False))).then hf_4 (fun a9 ha9 => ⟨(fun f9 h9 => h9.elim), (fun f9 h9 => h9.elim), (fun h9 => h9.elim)⟩)
  refine j_if_eq (tgt := 26) C dX6_hasRow_5 (by decide) (fun c9 => ?_) (fun c9 => absurd (by decide) c9)
  refine j_iconst (v := 0) C dX6_hasRow_26 (by decide) ?_
  exact j_zret C M rfl dX6_hasRow_27 (Nat.le_of_ble_eq_true rfl) (Nat.le_of_ble_eq_true rfl) ⟨rfl, hf_8⟩

theorem dX6_clear_0 : decode cX6_clear 0 = .ok (.aload_n 0, 1) := by decide +kernel
theorem dX6_clear_1 : decode cX6_clear 1 = .ok (.iconst 0, 1) := by decide +kernel
theorem dX6_clear_2 : decode cX6_clear 2 = .ok (.putfield 28, 3) := by decide +kernel
theorem dX6_clear_5 : decode cX6_clear 5 = .ok (.aload_n 0, 1) := by decide +kernel
theorem dX6_clear_6 : decode cX6_clear 6 = .ok (.iconst 0, 1) := by decide +kernel
theorem dX6_clear_7 : decode cX6_clear 7 = .ok (.putfield 32, 3) := by decide +kernel
theorem dX6_clear_10 : decode cX6_clear 10 = .ok (.aload_n 0, 1) := by decide +kernel
theorem dX6_clear_11 : decode cX6_clear 11 = .ok (.iconst 0, 1) := by decide +kernel
theorem dX6_clear_12 : decode cX6_clear 12 = .ok (.putfield 35, 3) := by decide +kernel
theorem dX6_clear_15 : decode cX6_clear 15 = .ok (.return_, 1) := by decide +kernel
set_option maxRecDepth 100000 in
set_option maxHeartbeats 4000000 in
theorem c_X6_clear (S : Hp) (h : Nat) (hm : h ∈ hL S) (hk : hK S h = 6) : Ct 1 yX6_clear cX6_clear 1 none 0 0 [.ref h] S (fun r S' => r = none ∧ Fm (fun f9 b9 => (f9 = 601 ∧ b9 = h) ∨ (f9 = 602 ∧ b9 = h) ∨ (f9 = 603 ∧ b9 = h)) (fun _ _ => False) (fun _ => False) S S' ∧ hI S' 601 h = 0 ∧ hI S' 602 h = 0) := by
  refine ct_of (by decide) (Nat.le_of_ble_eq_true rfl) fun x hn9 C M hm9 => ?_
  have C : CB x RX6 cX6_clear := C
  refine J.eq (lv' := [(0, .ref h)]) rfl rfl rfl ?_
  refine j_aload_n C dX6_clear_0 rfl 0 rfl ?_
  refine j_iconst (v := 0) C dX6_clear_1 (by decide) ?_
  refine j_puti (f := 601) C flX6_28 (by decide) rfl rfl dX6_clear_2 hm hk rfl ?_
  refine j_aload_n C dX6_clear_5 rfl 0 rfl ?_
  refine j_iconst (v := 0) C dX6_clear_6 (by decide) ?_
  refine j_puti (f := 602) C flX6_32 (by decide) rfl rfl dX6_clear_7 hm hk rfl ?_
  refine j_aload_n C dX6_clear_10 rfl 0 rfl ?_
  refine j_iconst (v := 0) C dX6_clear_11 (by decide) ?_
  show J _ _ _ _ _ 12 _
  refine j_putz (f := 603) C flX6_35 (by decide) rfl rfl (by decide) dX6_clear_12 hm hk rfl ?_
  exact j_vret C M dX6_clear_15 (by decide) (by decide) ⟨rfl, ((((Fm.refl (WI := (fun f9 b9 => (f9 = 601 ∧ b9 = h) ∨ (f9 = 602 ∧ b9 = h) ∨ (f9 = 603 ∧ b9 = h))) (WR := (fun _ _ => False)) (WA := (fun _ => False))).sI _ (fun _ => (Or.inl ⟨rfl, rfl⟩))).sI _ (fun _ => (Or.inr (Or.inl ⟨rfl, rfl⟩)))).sI _ (fun _ => (Or.inr (Or.inr ⟨rfl, rfl⟩)))), (rd_sIf (S := (sI (sI S 601 h 0) 602 h 0)) (g := 603) (a := h) (v := 0) (by decide) (rd_sIf (S := (sI S 601 h 0)) (g := 602) (a := h) (v := 0) (by decide) (rd_sI (S := S) (g := 601) (a := h) (v := 0)))), (rd_sIf (S := (sI (sI S 601 h 0) 602 h 0)) (g := 603) (a := h) (v := 0) (by decide) (rd_sI (S := (sI S 601 h 0)) (g := 602) (a := h) (v := 0)))⟩
