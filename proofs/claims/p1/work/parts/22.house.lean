theorem cut_z {n : Int32} (h1 : ¬ n < 0) (h2 : n ≤ 0) : 0 - n = 0 := by
  have e : n = 0 := Int32.le_antisymm h2 (Int32.not_lt.mp h1)
  rw [e]; rfl
def an_cut (n : Int32) : Int32 := if n < 0 then -1 else if n ≤ 0 then 0 else -1
def an_part (s : Int32) : Int32 := if s = 0 then 1 else if s = 1 then 1 else -1
def an_print (b : Int32) : Int32 := if b < 1 then -1 else if b ≤ 800 then 0 else -1

theorem dX11_feed_0 : decode cX11_feed 0 = .ok (.aload_n 0, 1) := by decide +kernel
theorem dX11_feed_1 : decode cX11_feed 1 = .ok (.getfield 53, 3) := by decide +kernel
theorem dX11_feed_4 : decode cX11_feed 4 = .ok (.bipush 20, 2) := by decide +kernel
theorem dX11_feed_6 : decode cX11_feed 6 = .ok (.iadd, 1) := by decide +kernel
theorem dX11_feed_7 : decode cX11_feed 7 = .ok (.sipush 8000, 3) := by decide +kernel
theorem dX11_feed_10 : decode cX11_feed 10 = .ok (.if_icmp .le 5, 3) := by decide +kernel
theorem dX11_feed_13 : decode cX11_feed 13 = .ok (.iconst (-1), 1) := by decide +kernel
theorem dX11_feed_14 : decode cX11_feed 14 = .ok (.ireturn, 1) := by decide +kernel
theorem dX11_feed_15 : decode cX11_feed 15 = .ok (.aload_n 0, 1) := by decide +kernel
theorem dX11_feed_16 : decode cX11_feed 16 = .ok (.iload_n 1, 1) := by decide +kernel
theorem dX11_feed_17 : decode cX11_feed 17 = .ok (.invokevirtual 56, 3) := by decide +kernel
theorem dX11_feed_20 : decode cX11_feed 20 = .ok (.aload_n 0, 1) := by decide +kernel
theorem dX11_feed_21 : decode cX11_feed 21 = .ok (.iload_n 2, 1) := by decide +kernel
theorem dX11_feed_22 : decode cX11_feed 22 = .ok (.invokevirtual 56, 3) := by decide +kernel
theorem dX11_feed_25 : decode cX11_feed 25 = .ok (.aload_n 0, 1) := by decide +kernel
theorem dX11_feed_26 : decode cX11_feed 26 = .ok (.iload_n 3, 1) := by decide +kernel
theorem dX11_feed_27 : decode cX11_feed 27 = .ok (.invokevirtual 56, 3) := by decide +kernel
theorem dX11_feed_30 : decode cX11_feed 30 = .ok (.aload_n 0, 1) := by decide +kernel
theorem dX11_feed_31 : decode cX11_feed 31 = .ok (.iload 4, 2) := by decide +kernel
theorem dX11_feed_33 : decode cX11_feed 33 = .ok (.invokevirtual 56, 3) := by decide +kernel
theorem dX11_feed_36 : decode cX11_feed 36 = .ok (.aload_n 0, 1) := by decide +kernel
theorem dX11_feed_37 : decode cX11_feed 37 = .ok (.iload 5, 2) := by decide +kernel
theorem dX11_feed_39 : decode cX11_feed 39 = .ok (.invokevirtual 56, 3) := by decide +kernel
theorem dX11_feed_42 : decode cX11_feed 42 = .ok (.aload_n 0, 1) := by decide +kernel
theorem dX11_feed_43 : decode cX11_feed 43 = .ok (.getfield 53, 3) := by decide +kernel
theorem dX11_feed_46 : decode cX11_feed 46 = .ok (.ireturn, 1) := by decide +kernel
set_option maxRecDepth 100000 in
set_option maxHeartbeats 4000000 in
theorem c_X11_feed (S : Hp) (h : Nat) (hm : h ∈ hL S) (hk : hK S h = 11) (t : Nat) (rt : hR S 1100 h = some t) (mt : t ∈ hL S) (kt : Kd S t 13) (lt : Ln S t 8000) (i0 : hI S 1101 h = 0) (a1 : Int32) (a2 : Int32) (a3 : Int32) (a4 : Int32) (a5 : Int32) : Ct 2 yX11_feed cX11_feed 6 (some .int) 0 0 [.ref h, .int a1, .int a2, .int a3, .int a4, .int a5] S (fun r S' => r = some (.int 20) ∧ Fm (fun f9 b9 => (f9 = 1101 ∧ b9 = h)) (fun _ _ => False) (fun b9 => b9 = t) S S') := by
  refine ct_of (by decide) (Nat.le_of_ble_eq_true rfl) fun x hn9 C M hm9 => ?_
  have C : CB x RX11 cX11_feed := C
  refine J.eq (lv' := [(0, .ref h), (1, .int a1), (2, .int a2), (3, .int a3), (4, .int a4), (5, .int a5)]) rfl rfl rfl ?_
  refine j_aload_n C dX11_feed_0 rfl 0 rfl ?_
  refine j_geti (f := 1101) (v := 0) C flX11_53 dX11_feed_1 hm hk (by decide) (by decide) rfl i0 ?_
  refine j_bipush (v := 20) C dX11_feed_4 (by decide) ?_
  refine j_iadd (v := 20) C dX11_feed_6 (by decide) ?_
  refine j_sipush (v := 8000) C dX11_feed_7 (by decide) ?_
  refine j_ic_le (tgt := 15) C dX11_feed_10 (by decide) (fun c9 => ?_) (fun c9 => absurd (by decide) c9)
  refine j_aload_n C dX11_feed_15 rfl 0 rfl ?_
  refine j_iload_n C dX11_feed_16 rfl 1 rfl ?_
  show J _ _ _ _ _ 17 _
  refine j_callV (ci := 11) C [.int a1] [] mlX11_56 mcX11_feedNumber (c_X11_feedNumber S h hm hk t rt mt kt lt a1 0 (i0.trans (by decide : (0 : Int32) = nI 0)) (by decide)) hm hk rfl (M.rm (by decide) (by decide) (Nat.le_of_ble_eq_true rfl) (Nat.le_of_ble_eq_true rfl)) rfl rfl (Nat.le_of_ble_eq_true rfl) dX11_feed_17 (fun r_2 S_3 hp_4 => ?_)
  obtain ⟨rfl, hf_5, e_1⟩ := hp_4
  refine J.eq (st' := []) rfl rfl rfl ?_
  have hm_6 : h ∈ hL S_3 := hf_5.mem hm
  have hk_7 : Kd S_3 h 11 := hf_5.kd hm hk
  have hm_8 : t ∈ hL S_3 := hf_5.mem mt
  have hk_9 : Kd S_3 t 13 := hf_5.kd mt kt
  have hn_10 : Ln S_3 t 8000 := hf_5.ln mt lt
  have hv_11 : hR S_3 1100 h = (some t) := hf_5.fr hm (fun h9 => h9) rt
  have hf_12 : Fm (fun f9 b9 => (f9 = 1101 ∧ b9 = h)) (fun _ _ => False) (fun b9 => b9 = t) S S_3 := (Fm.refl (WI := (fun f9 b9 => (f9 = 1101 ∧ b9 = h))) (WR := (fun _ _ => False)) (WA := (fun b9 => b9 = t))).then hf_5 (fun a9 ha9 => ⟨(fun f9 h9 => (fun h8 => h8) h9), (fun f9 h9 => h9.elim), (fun h9 => (fun h8 => h8) h9)⟩)
  refine j_aload_n C dX11_feed_20 rfl 0 rfl ?_
  refine j_iload_n C dX11_feed_21 rfl 2 rfl ?_
  refine j_callV (ci := 11) C [.int a2] [] mlX11_56 mcX11_feedNumber (c_X11_feedNumber S_3 h hm_6 hk_7 t hv_11 hm_8 hk_9 hn_10 a2 4 e_1 (by decide)) hm_6 hk_7 rfl (M.rm (by decide) (by decide) (Nat.le_of_ble_eq_true rfl) (Nat.le_of_ble_eq_true rfl)) rfl rfl (Nat.le_of_ble_eq_true rfl) dX11_feed_22 (fun r_14 S_15 hp_16 => ?_)
  obtain ⟨rfl, hf_17, e_13⟩ := hp_16
  refine J.eq (st' := []) rfl rfl rfl ?_
  have hm_18 : h ∈ hL S_15 := hf_17.mem hm_6
  have hk_19 : Kd S_15 h 11 := hf_17.kd hm_6 hk_7
  have hm_20 : t ∈ hL S_15 := hf_17.mem hm_8
  have hk_21 : Kd S_15 t 13 := hf_17.kd hm_8 hk_9
  have hn_22 : Ln S_15 t 8000 := hf_17.ln hm_8 hn_10
  have hv_23 : hR S_15 1100 h = (some t) := hf_17.fr hm_6 (fun h9 => h9) hv_11
  have hf_24 : Fm (fun f9 b9 => (f9 = 1101 ∧ b9 = h)) (fun _ _ => False) (fun b9 => b9 = t) S S_15 := hf_12.then hf_17 (fun a9 ha9 => ⟨(fun f9 h9 => (fun h8 => h8) h9), (fun f9 h9 => h9.elim), (fun h9 => (fun h8 => h8) h9)⟩)
  refine j_aload_n C dX11_feed_25 rfl 0 rfl ?_
  refine j_iload_n C dX11_feed_26 rfl 3 rfl ?_
  refine j_callV (ci := 11) C [.int a3] [] mlX11_56 mcX11_feedNumber (c_X11_feedNumber S_15 h hm_18 hk_19 t hv_23 hm_20 hk_21 hn_22 a3 8 e_13 (by decide)) hm_18 hk_19 rfl (M.rm (by decide) (by decide) (Nat.le_of_ble_eq_true rfl) (Nat.le_of_ble_eq_true rfl)) rfl rfl (Nat.le_of_ble_eq_true rfl) dX11_feed_27 (fun r_26 S_27 hp_28 => ?_)
  obtain ⟨rfl, hf_29, e_25⟩ := hp_28
  refine J.eq (st' := []) rfl rfl rfl ?_
  have hm_30 : h ∈ hL S_27 := hf_29.mem hm_18
  have hk_31 : Kd S_27 h 11 := hf_29.kd hm_18 hk_19
  have hm_32 : t ∈ hL S_27 := hf_29.mem hm_20
  have hk_33 : Kd S_27 t 13 := hf_29.kd hm_20 hk_21
  have hn_34 : Ln S_27 t 8000 := hf_29.ln hm_20 hn_22
  have hv_35 : hR S_27 1100 h = (some t) := hf_29.fr hm_18 (fun h9 => h9) hv_23
  have hf_36 : Fm (fun f9 b9 => (f9 = 1101 ∧ b9 = h)) (fun _ _ => False) (fun b9 => b9 = t) S S_27 := hf_24.then hf_29 (fun a9 ha9 => ⟨(fun f9 h9 => (fun h8 => h8) h9), (fun f9 h9 => h9.elim), (fun h9 => (fun h8 => h8) h9)⟩)
  refine j_aload_n C dX11_feed_30 rfl 0 rfl ?_
  show J _ _ _ _ _ 31 _
  refine j_iload C dX11_feed_31 4 rfl ?_
  refine j_callV (ci := 11) C [.int a4] [] mlX11_56 mcX11_feedNumber (c_X11_feedNumber S_27 h hm_30 hk_31 t hv_35 hm_32 hk_33 hn_34 a4 12 e_25 (by decide)) hm_30 hk_31 rfl (M.rm (by decide) (by decide) (Nat.le_of_ble_eq_true rfl) (Nat.le_of_ble_eq_true rfl)) rfl rfl (Nat.le_of_ble_eq_true rfl) dX11_feed_33 (fun r_38 S_39 hp_40 => ?_)
  obtain ⟨rfl, hf_41, e_37⟩ := hp_40
  refine J.eq (st' := []) rfl rfl rfl ?_
  have hm_42 : h ∈ hL S_39 := hf_41.mem hm_30
  have hk_43 : Kd S_39 h 11 := hf_41.kd hm_30 hk_31
  have hm_44 : t ∈ hL S_39 := hf_41.mem hm_32
  have hk_45 : Kd S_39 t 13 := hf_41.kd hm_32 hk_33
  have hn_46 : Ln S_39 t 8000 := hf_41.ln hm_32 hn_34
  have hv_47 : hR S_39 1100 h = (some t) := hf_41.fr hm_30 (fun h9 => h9) hv_35
  have hf_48 : Fm (fun f9 b9 => (f9 = 1101 ∧ b9 = h)) (fun _ _ => False) (fun b9 => b9 = t) S S_39 := hf_36.then hf_41 (fun a9 ha9 => ⟨(fun f9 h9 => (fun h8 => h8) h9), (fun f9 h9 => h9.elim), (fun h9 => (fun h8 => h8) h9)⟩)
  refine j_aload_n C dX11_feed_36 rfl 0 rfl ?_
  refine j_iload C dX11_feed_37 5 rfl ?_
  refine j_callV (ci := 11) C [.int a5] [] mlX11_56 mcX11_feedNumber (c_X11_feedNumber S_39 h hm_42 hk_43 t hv_47 hm_44 hk_45 hn_46 a5 16 e_37 (by decide)) hm_42 hk_43 rfl (M.rm (by decide) (by decide) (Nat.le_of_ble_eq_true rfl) (Nat.le_of_ble_eq_true rfl)) rfl rfl (Nat.le_of_ble_eq_true rfl) dX11_feed_39 (fun r_50 S_51 hp_52 => ?_)
  obtain ⟨rfl, hf_53, e_49⟩ := hp_52
  refine J.eq (st' := []) rfl rfl rfl ?_
  have hm_54 : h ∈ hL S_51 := hf_53.mem hm_42
  have hk_55 : Kd S_51 h 11 := hf_53.kd hm_42 hk_43
  have hm_56 : t ∈ hL S_51 := hf_53.mem hm_44
  have hk_57 : Kd S_51 t 13 := hf_53.kd hm_44 hk_45
  have hn_58 : Ln S_51 t 8000 := hf_53.ln hm_44 hn_46
  have hv_59 : hR S_51 1100 h = (some t) := hf_53.fr hm_42 (fun h9 => h9) hv_47
  have hf_60 : Fm (fun f9 b9 => (f9 = 1101 ∧ b9 = h)) (fun _ _ => False) (fun b9 => b9 = t) S S_51 := hf_48.then hf_53 (fun a9 ha9 => ⟨(fun f9 h9 => (fun h8 => h8) h9), (fun f9 h9 => h9.elim), (fun h9 => (fun h8 => h8) h9)⟩)
  refine j_aload_n C dX11_feed_42 rfl 0 rfl ?_
  refine j_geti (f := 1101) (v := nI 20) C flX11_53 dX11_feed_43 hm_54 hk_55 (by decide) (by decide) rfl e_49 ?_
  exact j_iret C M dX11_feed_46 (Nat.le_of_ble_eq_true rfl) (Nat.le_of_ble_eq_true rfl) ⟨(congrArg (fun z9 => some (Value.int z9)) (by decide)), hf_60⟩

theorem dX11_cut_0 : decode cX11_cut 0 = .ok (.iload_n 1, 1) := by decide +kernel
theorem dX11_cut_1 : decode cX11_cut 1 = .ok (.ifCond .lt 11, 3) := by decide +kernel
theorem dX11_cut_4 : decode cX11_cut 4 = .ok (.iload_n 1, 1) := by decide +kernel
theorem dX11_cut_5 : decode cX11_cut 5 = .ok (.aload_n 0, 1) := by decide +kernel
theorem dX11_cut_6 : decode cX11_cut 6 = .ok (.getfield 53, 3) := by decide +kernel
theorem dX11_cut_9 : decode cX11_cut 9 = .ok (.if_icmp .le 5, 3) := by decide +kernel
theorem dX11_cut_12 : decode cX11_cut 12 = .ok (.iconst (-1), 1) := by decide +kernel
theorem dX11_cut_13 : decode cX11_cut 13 = .ok (.ireturn, 1) := by decide +kernel
theorem dX11_cut_14 : decode cX11_cut 14 = .ok (.aload_n 0, 1) := by decide +kernel
theorem dX11_cut_15 : decode cX11_cut 15 = .ok (.getfield 53, 3) := by decide +kernel
theorem dX11_cut_18 : decode cX11_cut 18 = .ok (.iload_n 1, 1) := by decide +kernel
theorem dX11_cut_19 : decode cX11_cut 19 = .ok (.isub, 1) := by decide +kernel
theorem dX11_cut_20 : decode cX11_cut 20 = .ok (.istore_n 2, 1) := by decide +kernel
theorem dX11_cut_21 : decode cX11_cut 21 = .ok (.aload_n 0, 1) := by decide +kernel
theorem dX11_cut_22 : decode cX11_cut 22 = .ok (.iload_n 1, 1) := by decide +kernel
theorem dX11_cut_23 : decode cX11_cut 23 = .ok (.putfield 53, 3) := by decide +kernel
theorem dX11_cut_26 : decode cX11_cut 26 = .ok (.iload_n 2, 1) := by decide +kernel
theorem dX11_cut_27 : decode cX11_cut 27 = .ok (.ireturn, 1) := by decide +kernel
set_option maxRecDepth 100000 in
set_option maxHeartbeats 4000000 in
theorem c_X11_cut (S : Hp) (h : Nat) (hm : h ∈ hL S) (hk : hK S h = 11) (i0 : hI S 1101 h = 0) (n1 : Int32) : Ct 1 yX11_cut cX11_cut 3 (some .int) 0 0 [.ref h, .int n1] S (fun r S' => r = some (.int (an_cut n1)) ∧ Fm (fun f9 b9 => (f9 = 1101 ∧ b9 = h)) (fun _ _ => False) (fun _ => False) S S') := by
  refine ct_of (by decide) (Nat.le_of_ble_eq_true rfl) fun x hn9 C M hm9 => ?_
  have C : CB x RX11 cX11_cut := C
  refine J.eq (lv' := [(0, .ref h), (1, .int n1)]) rfl rfl rfl ?_
  refine j_iload_n C dX11_cut_0 rfl 1 rfl ?_
  refine j_if_lt (tgt := 12) C dX11_cut_1 (by decide) (fun c_1 => ?_) (fun c_1 => ?_)
  · skip
    refine j_iconst (v := (-1)) C dX11_cut_12 (by decide) ?_
    exact j_iret C M dX11_cut_13 (by decide) (by decide) ⟨(congrArg (fun z9 => some (Value.int z9)) (by unfold an_cut; first | (rw [if_neg c_1, if_pos c_9]) | (rw [if_neg c_1, if_neg c_9]) | (rw [if_pos c_1]))), (Fm.refl (WI := (fun f9 b9 => (f9 = 1101 ∧ b9 = h))) (WR := (fun _ _ => False)) (WA := (fun _ => False)))⟩
  · skip
    refine j_iload_n C dX11_cut_4 rfl 1 rfl ?_
    refine j_aload_n C dX11_cut_5 rfl 0 rfl ?_
    refine j_geti (f := 1101) (v := 0) C flX11_53 dX11_cut_6 hm hk (by decide) (by decide) rfl i0 ?_
    refine j_ic_le (tgt := 14) C dX11_cut_9 (by decide) (fun c_9 => ?_) (fun c_9 => ?_)
    · skip
      refine j_aload_n C dX11_cut_14 rfl 0 rfl ?_
      refine j_geti (f := 1101) (v := 0) C flX11_53 dX11_cut_15 hm hk (by decide) (by decide) rfl i0 ?_
      refine j_iload_n C dX11_cut_18 rfl 1 rfl ?_
      show J _ _ _ _ _ 19 _
      refine j_isub (v := 0) C dX11_cut_19 (cut_z c_1 c_9) ?_
      refine j_istore_n (lv' := [(2, .int 0), (0, .ref h), (1, .int n1)]) C dX11_cut_20 rfl (by rw [hn9]; decide) rfl ?_
      refine j_aload_n C dX11_cut_21 rfl 1 rfl ?_
      refine j_iload_n C dX11_cut_22 rfl 2 rfl ?_
      refine j_puti (f := 1101) C flX11_53 (by decide) rfl rfl dX11_cut_23 hm hk rfl ?_
      refine j_iload_n C dX11_cut_26 rfl 0 rfl ?_
      exact j_iret C M dX11_cut_27 (by decide) (by decide) ⟨(congrArg (fun z9 => some (Value.int z9)) (by unfold an_cut; first | (rw [if_neg c_1, if_pos c_9]) | (rw [if_neg c_1, if_neg c_9]) | (rw [if_pos c_1]))), ((Fm.refl (WI := (fun f9 b9 => (f9 = 1101 ∧ b9 = h))) (WR := (fun _ _ => False)) (WA := (fun _ => False))).sI _ (fun _ => ⟨rfl, rfl⟩))⟩
    · skip
      refine j_iconst (v := (-1)) C dX11_cut_12 (by decide) ?_
      exact j_iret C M dX11_cut_13 (by decide) (by decide) ⟨(congrArg (fun z9 => some (Value.int z9)) (by unfold an_cut; first | (rw [if_neg c_1, if_pos c_9]) | (rw [if_neg c_1, if_neg c_9]) | (rw [if_pos c_1]))), (Fm.refl (WI := (fun f9 b9 => (f9 = 1101 ∧ b9 = h))) (WR := (fun _ _ => False)) (WA := (fun _ => False)))⟩

theorem dX11_part_0 : decode cX11_part 0 = .ok (.aload_n 0, 1) := by decide +kernel
theorem dX11_part_1 : decode cX11_part 1 = .ok (.getfield 53, 3) := by decide +kernel
theorem dX11_part_4 : decode cX11_part 4 = .ok (.istore_n 2, 1) := by decide +kernel
theorem dX11_part_5 : decode cX11_part 5 = .ok (.aload_n 0, 1) := by decide +kernel
theorem dX11_part_6 : decode cX11_part 6 = .ok (.iconst 0, 1) := by decide +kernel
theorem dX11_part_7 : decode cX11_part 7 = .ok (.putfield 53, 3) := by decide +kernel
theorem dX11_part_10 : decode cX11_part 10 = .ok (.iload_n 1, 1) := by decide +kernel
theorem dX11_part_11 : decode cX11_part 11 = .ok (.ifCond .eq 8, 3) := by decide +kernel
theorem dX11_part_14 : decode cX11_part 14 = .ok (.iload_n 1, 1) := by decide +kernel
theorem dX11_part_15 : decode cX11_part 15 = .ok (.iconst 1, 1) := by decide +kernel
theorem dX11_part_16 : decode cX11_part 16 = .ok (.if_icmp .ne 19, 3) := by decide +kernel
theorem dX11_part_19 : decode cX11_part 19 = .ok (.aload_n 0, 1) := by decide +kernel
theorem dX11_part_20 : decode cX11_part 20 = .ok (.getfield 60, 3) := by decide +kernel
theorem dX11_part_23 : decode cX11_part 23 = .ok (.ifCond .lt 12, 3) := by decide +kernel
theorem dX11_part_26 : decode cX11_part 26 = .ok (.aload_n 0, 1) := by decide +kernel
theorem dX11_part_27 : decode cX11_part 27 = .ok (.getfield 60, 3) := by decide +kernel
theorem dX11_part_30 : decode cX11_part 30 = .ok (.bipush 6, 2) := by decide +kernel
theorem dX11_part_32 : decode cX11_part 32 = .ok (.if_icmp .lt 5, 3) := by decide +kernel
theorem dX11_part_35 : decode cX11_part 35 = .ok (.iconst (-1), 1) := by decide +kernel
theorem dX11_part_36 : decode cX11_part 36 = .ok (.ireturn, 1) := by decide +kernel
theorem dX11_part_37 : decode cX11_part 37 = .ok (.aload_n 0, 1) := by decide +kernel
theorem dX11_part_38 : decode cX11_part 38 = .ok (.getfield 20, 3) := by decide +kernel
theorem dX11_part_41 : decode cX11_part 41 = .ok (.aload_n 0, 1) := by decide +kernel
theorem dX11_part_42 : decode cX11_part 42 = .ok (.getfield 60, 3) := by decide +kernel
theorem dX11_part_45 : decode cX11_part 45 = .ok (.iaload, 1) := by decide +kernel
theorem dX11_part_46 : decode cX11_part 46 = .ok (.istore_n 3, 1) := by decide +kernel
theorem dX11_part_47 : decode cX11_part 47 = .ok (.iload_n 3, 1) := by decide +kernel
theorem dX11_part_48 : decode cX11_part 48 = .ok (.iload_n 2, 1) := by decide +kernel
theorem dX11_part_49 : decode cX11_part 49 = .ok (.iadd, 1) := by decide +kernel
theorem dX11_part_50 : decode cX11_part 50 = .ok (.sipush 12000, 3) := by decide +kernel
theorem dX11_part_53 : decode cX11_part 53 = .ok (.if_icmp .le 5, 3) := by decide +kernel
theorem dX11_part_56 : decode cX11_part 56 = .ok (.iconst (-1), 1) := by decide +kernel
theorem dX11_part_57 : decode cX11_part 57 = .ok (.ireturn, 1) := by decide +kernel
theorem dX11_part_58 : decode cX11_part 58 = .ok (.aload_n 0, 1) := by decide +kernel
theorem dX11_part_59 : decode cX11_part 59 = .ok (.getfield 9, 3) := by decide +kernel
theorem dX11_part_62 : decode cX11_part 62 = .ok (.iconst 0, 1) := by decide +kernel
theorem dX11_part_63 : decode cX11_part 63 = .ok (.aload_n 0, 1) := by decide +kernel
theorem dX11_part_64 : decode cX11_part 64 = .ok (.getfield 13, 3) := by decide +kernel
theorem dX11_part_67 : decode cX11_part 67 = .ok (.iload_n 3, 1) := by decide +kernel
theorem dX11_part_68 : decode cX11_part 68 = .ok (.iload_n 2, 1) := by decide +kernel
theorem dX11_part_69 : decode cX11_part 69 = .ok (.invokestatic 63, 3) := by decide +kernel
theorem dX11_part_72 : decode cX11_part 72 = .ok (.aload_n 0, 1) := by decide +kernel
theorem dX11_part_73 : decode cX11_part 73 = .ok (.getfield 16, 3) := by decide +kernel
theorem dX11_part_76 : decode cX11_part 76 = .ok (.aload_n 0, 1) := by decide +kernel
theorem dX11_part_77 : decode cX11_part 77 = .ok (.getfield 60, 3) := by decide +kernel
theorem dX11_part_80 : decode cX11_part 80 = .ok (.iload_n 1, 1) := by decide +kernel
theorem dX11_part_81 : decode cX11_part 81 = .ok (.iastore, 1) := by decide +kernel
theorem dX11_part_82 : decode cX11_part 82 = .ok (.aload_n 0, 1) := by decide +kernel
theorem dX11_part_83 : decode cX11_part 83 = .ok (.dup, 1) := by decide +kernel
theorem dX11_part_84 : decode cX11_part 84 = .ok (.getfield 60, 3) := by decide +kernel
theorem dX11_part_87 : decode cX11_part 87 = .ok (.iconst 1, 1) := by decide +kernel
theorem dX11_part_88 : decode cX11_part 88 = .ok (.iadd, 1) := by decide +kernel
theorem dX11_part_89 : decode cX11_part 89 = .ok (.putfield 60, 3) := by decide +kernel
theorem dX11_part_92 : decode cX11_part 92 = .ok (.aload_n 0, 1) := by decide +kernel
theorem dX11_part_93 : decode cX11_part 93 = .ok (.getfield 20, 3) := by decide +kernel
theorem dX11_part_96 : decode cX11_part 96 = .ok (.aload_n 0, 1) := by decide +kernel
theorem dX11_part_97 : decode cX11_part 97 = .ok (.getfield 60, 3) := by decide +kernel
theorem dX11_part_100 : decode cX11_part 100 = .ok (.iload_n 3, 1) := by decide +kernel
theorem dX11_part_101 : decode cX11_part 101 = .ok (.iload_n 2, 1) := by decide +kernel
theorem dX11_part_102 : decode cX11_part 102 = .ok (.iadd, 1) := by decide +kernel
theorem dX11_part_103 : decode cX11_part 103 = .ok (.iastore, 1) := by decide +kernel
theorem dX11_part_104 : decode cX11_part 104 = .ok (.aload_n 0, 1) := by decide +kernel
theorem dX11_part_105 : decode cX11_part 105 = .ok (.getfield 60, 3) := by decide +kernel
theorem dX11_part_108 : decode cX11_part 108 = .ok (.ireturn, 1) := by decide +kernel
set_option maxRecDepth 100000 in
set_option maxHeartbeats 4000000 in
theorem c_X11_part (S : Hp) (h : Nat) (hm : h ∈ hL S) (hk : hK S h = 11) (t : Nat) (rt : hR S 1100 h = some t) (mt : t ∈ hL S) (kt : Kd S t 13) (lt : Ln S t 8000) (j : Nat) (rj : hR S 1102 h = some j) (mj : j ∈ hL S) (kj : Kd S j 13) (lj : Ln S j 12000) (o : Nat) (ro : hR S 1103 h = some o) (mo : o ∈ hL S) (ko : Kd S o 14) (lo : Ln S o 6) (u : Nat) (ru : hR S 1104 h = some u) (mu : u ∈ hL S) (ku : Kd S u 14) (lu : Ln S u 7) (zu : ∀ j, aI S u j = 0) (i0 : hI S 1101 h = 0) (i1 : hI S 1105 h = 0) (n1 : Int32) : Ct 1 yX11_part cX11_part 4 (some .int) 0 0 [.ref h, .int n1] S (fun r S' => r = some (.int (an_part n1)) ∧ Fm (fun f9 b9 => (f9 = 1101 ∧ b9 = h) ∨ (f9 = 1105 ∧ b9 = h)) (fun _ _ => False) (fun b9 => b9 = j ∨ b9 = o ∨ b9 = u) S S') := by
  refine ct_of (by decide) (Nat.le_of_ble_eq_true rfl) fun x hn9 C M hm9 => ?_
  have C : CB x RX11 cX11_part := C
  refine J.eq (lv' := [(0, .ref h), (1, .int n1)]) rfl rfl rfl ?_
  refine j_aload_n C dX11_part_0 rfl 0 rfl ?_
  refine j_geti (f := 1101) (v := 0) C flX11_53 dX11_part_1 hm hk (by decide) (by decide) rfl i0 ?_
  refine j_istore_n (lv' := [(2, .int 0), (0, .ref h), (1, .int n1)]) C dX11_part_4 rfl (by rw [hn9]; decide) rfl ?_
  refine j_aload_n C dX11_part_5 rfl 1 rfl ?_
  refine j_iconst (v := 0) C dX11_part_6 (by decide) ?_
  refine j_puti (f := 1101) C flX11_53 (by decide) rfl rfl dX11_part_7 hm hk rfl ?_
  refine j_iload_n C dX11_part_10 rfl 2 rfl ?_
  refine j_if_eq (tgt := 19) C dX11_part_11 (by decide) (fun c_11 => ?_) (fun c_11 => ?_)
  · skip
    refine j_aload_n C dX11_part_19 rfl 1 rfl ?_
    show J _ _ _ _ _ 20 _
    refine j_geti (f := 1105) (v := 0) C flX11_60 dX11_part_20 hm hk (by decide) (by decide) rfl (rd_sIf (S := S) (g := 1101) (a := h) (v := 0) (by decide) i1) ?_
    refine j_if_lt (tgt := 35) C dX11_part_23 (by decide) (fun c9 => absurd c9 (by decide)) (fun c9 => ?_)
    refine j_aload_n C dX11_part_26 rfl 1 rfl ?_
    refine j_geti (f := 1105) (v := 0) C flX11_60 dX11_part_27 hm hk (by decide) (by decide) rfl (rd_sIf (S := S) (g := 1101) (a := h) (v := 0) (by decide) i1) ?_
    refine j_bipush (v := 6) C dX11_part_30 (by decide) ?_
    refine j_ic_lt (tgt := 37) C dX11_part_32 (by decide) (fun c9 => ?_) (fun c9 => absurd (by decide) c9)
    refine j_aload_n C dX11_part_37 rfl 1 rfl ?_
    refine j_getr (f := 1104) (v := u) C flX11_20 dX11_part_38 hm hk (by decide) rfl ru ?_
    show J _ _ _ _ _ 41 _
    refine j_aload_n C dX11_part_41 rfl 1 rfl ?_
    refine j_geti (f := 1105) (v := 0) C flX11_60 dX11_part_42 hm hk (by decide) (by decide) rfl (rd_sIf (S := S) (g := 1101) (a := h) (v := 0) (by decide) i1) ?_
    refine j_iald (j := 0) (v := 0) C dX11_part_45 mu ku (inr_of (n := 7) lu (vp_lit (by decide))) (by decide) (zu 0) ?_
    refine j_istore_n (lv' := [(3, .int 0), (2, .int 0), (0, .ref h), (1, .int n1)]) C dX11_part_46 rfl (by rw [hn9]; decide) rfl ?_
    refine j_iload_n C dX11_part_47 rfl 0 rfl ?_
    refine j_iload_n C dX11_part_48 rfl 1 rfl ?_
    refine j_iadd (v := 0) C dX11_part_49 (by decide) ?_
    refine j_sipush (v := 12000) C dX11_part_50 (by decide) ?_
    show J _ _ _ _ _ 53 _
    refine j_ic_le (tgt := 58) C dX11_part_53 (by decide) (fun c9 => ?_) (fun c9 => absurd (by decide) c9)
    refine j_aload_n C dX11_part_58 rfl 2 rfl ?_
    refine j_getr (f := 1100) (v := t) C flX11_9 dX11_part_59 hm hk (by decide) rfl rt ?_
    refine j_iconst (v := 0) C dX11_part_62 (by decide) ?_
    refine j_aload_n C dX11_part_63 rfl 2 rfl ?_
    refine j_getr (f := 1102) (v := j) C flX11_13 dX11_part_64 hm hk (by decide) rfl rj ?_
    refine j_iload_n C dX11_part_67 rfl 0 rfl ?_
    refine j_iload_n C dX11_part_68 rfl 1 rfl ?_
    show J _ _ _ _ _ 69 _
    refine j_copy (kd := 13) (ty := .byte) (p0 := 0) (p1 := 0) (m0 := 0) C mlX11_63 (by decide) mt kt lt mj kj lj (by decide) (by decide) (by decide) (by decide) (by decide) (by decide) (by decide) (by decide) (fun i h => absurd h (Nat.not_lt_zero i)) (M.fl (by decide)) dX11_part_69 ?_
    refine j_aload_n C dX11_part_72 rfl 2 rfl ?_
    refine j_getr (f := 1103) (v := o) C flX11_16 dX11_part_73 hm hk (by decide) rfl ro ?_
    refine j_aload_n C dX11_part_76 rfl 2 rfl ?_
    refine j_geti (f := 1105) (v := 0) C flX11_60 dX11_part_77 hm hk (by decide) (by decide) rfl (rd_sIf (S := S) (g := 1101) (a := h) (v := 0) (by decide) i1) ?_
    refine j_iload_n C dX11_part_80 rfl 3 rfl ?_
    refine j_iast (j := 0) C dX11_part_81 mo ko (inr_of (n := 6) lo (vp_lit (by decide))) (by decide) ?_
    refine j_aload_n C dX11_part_82 rfl 2 rfl ?_
    show J _ _ _ _ _ 83 _
    refine j_dup C dX11_part_83 rfl ?_
    refine j_geti (f := 1105) (v := 0) C flX11_60 dX11_part_84 hm hk (by decide) (by decide) rfl (rd_sIf (S := S) (g := 1101) (a := h) (v := 0) (by decide) i1) ?_
    refine j_iconst (v := 1) C dX11_part_87 (by decide) ?_
    refine j_iadd (v := 1) C dX11_part_88 (by decide) ?_
    refine j_puti (f := 1105) C flX11_60 (by decide) rfl rfl dX11_part_89 hm hk rfl ?_
    refine j_aload_n C dX11_part_92 rfl 2 rfl ?_
    refine j_getr (f := 1104) (v := u) C flX11_20 dX11_part_93 hm hk (by decide) rfl ru ?_
    refine j_aload_n C dX11_part_96 rfl 2 rfl ?_
    show J _ _ _ _ _ 97 _
    refine j_geti (f := 1105) (v := 1) C flX11_60 dX11_part_97 hm hk (by decide) (by decide) rfl (rd_sI (S := (tI (rI (sI S 1101 h 0) j (va_cpy (aI (sI S 1101 h 0) t) (aI (sI S 1101 h 0) j) 0 0 0)) o 0 n1)) (g := 1105) (a := h) (v := 1)) ?_
    refine j_iload_n C dX11_part_100 rfl 0 rfl ?_
    refine j_iload_n C dX11_part_101 rfl 1 rfl ?_
    refine j_iadd (v := 0) C dX11_part_102 (by decide) ?_
    refine j_iast (j := 1) C dX11_part_103 mu ku (inr_of (n := 7) lu (vp_lit (by decide))) (by decide) ?_
    refine j_aload_n C dX11_part_104 rfl 2 rfl ?_
    refine j_geti (f := 1105) (v := 1) C flX11_60 dX11_part_105 hm hk (by decide) (by decide) rfl (rd_sI (S := (tI (rI (sI S 1101 h 0) j (va_cpy (aI (sI S 1101 h 0) t) (aI (sI S 1101 h 0) j) 0 0 0)) o 0 n1)) (g := 1105) (a := h) (v := 1)) ?_
    exact j_iret C M dX11_part_108 (by decide) (by decide) ⟨(congrArg (fun z9 => some (Value.int z9)) (by unfold an_part; first | (rw [if_neg c_11, if_pos c_16]) | (rw [if_neg c_11, if_neg c_16]) | (rw [if_pos c_11]))), ((((((Fm.refl (WI := (fun f9 b9 => (f9 = 1101 ∧ b9 = h) ∨ (f9 = 1105 ∧ b9 = h))) (WR := (fun _ _ => False)) (WA := (fun b9 => b9 = j ∨ b9 = o ∨ b9 = u))).sI _ (fun _ => (Or.inl ⟨rfl, rfl⟩))).rI _ (fun _ => (Or.inl rfl))).tI _ _ (fun _ => (Or.inr (Or.inl rfl)))).sI _ (fun _ => (Or.inr ⟨rfl, rfl⟩))).tI _ _ (fun _ => (Or.inr (Or.inr rfl))))⟩
  · skip
    refine j_iload_n C dX11_part_14 rfl 2 rfl ?_
    show J _ _ _ _ _ 15 _
    refine j_iconst (v := 1) C dX11_part_15 (by decide) ?_
    refine j_ic_ne (tgt := 35) C dX11_part_16 (by decide) (fun c_16 => ?_) (fun c_16 => ?_)
    · skip
      refine j_iconst (v := (-1)) C dX11_part_35 (by decide) ?_
      exact j_iret C M dX11_part_36 (by decide) (by decide) ⟨(congrArg (fun z9 => some (Value.int z9)) (by unfold an_part; first | (rw [if_neg c_11, if_pos c_16]) | (rw [if_neg c_11, if_neg c_16]) | (rw [if_pos c_11]))), ((Fm.refl (WI := (fun f9 b9 => (f9 = 1101 ∧ b9 = h) ∨ (f9 = 1105 ∧ b9 = h))) (WR := (fun _ _ => False)) (WA := (fun b9 => b9 = j ∨ b9 = o ∨ b9 = u))).sI _ (fun _ => (Or.inl ⟨rfl, rfl⟩)))⟩
    · skip
      refine j_aload_n C dX11_part_19 rfl 1 rfl ?_
      refine j_geti (f := 1105) (v := 0) C flX11_60 dX11_part_20 hm hk (by decide) (by decide) rfl (rd_sIf (S := S) (g := 1101) (a := h) (v := 0) (by decide) i1) ?_
      refine j_if_lt (tgt := 35) C dX11_part_23 (by decide) (fun c9 => absurd c9 (by decide)) (fun c9 => ?_)
      refine j_aload_n C dX11_part_26 rfl 1 rfl ?_
      refine j_geti (f := 1105) (v := 0) C flX11_60 dX11_part_27 hm hk (by decide) (by decide) rfl (rd_sIf (S := S) (g := 1101) (a := h) (v := 0) (by decide) i1) ?_
      refine j_bipush (v := 6) C dX11_part_30 (by decide) ?_
      show J _ _ _ _ _ 32 _
      refine j_ic_lt (tgt := 37) C dX11_part_32 (by decide) (fun c9 => ?_) (fun c9 => absurd (by decide) c9)
      refine j_aload_n C dX11_part_37 rfl 1 rfl ?_
      refine j_getr (f := 1104) (v := u) C flX11_20 dX11_part_38 hm hk (by decide) rfl ru ?_
      refine j_aload_n C dX11_part_41 rfl 1 rfl ?_
      refine j_geti (f := 1105) (v := 0) C flX11_60 dX11_part_42 hm hk (by decide) (by decide) rfl (rd_sIf (S := S) (g := 1101) (a := h) (v := 0) (by decide) i1) ?_
      refine j_iald (j := 0) (v := 0) C dX11_part_45 mu ku (inr_of (n := 7) lu (vp_lit (by decide))) (by decide) (zu 0) ?_
      refine j_istore_n (lv' := [(3, .int 0), (2, .int 0), (0, .ref h), (1, .int n1)]) C dX11_part_46 rfl (by rw [hn9]; decide) rfl ?_
      refine j_iload_n C dX11_part_47 rfl 0 rfl ?_
      show J _ _ _ _ _ 48 _
      refine j_iload_n C dX11_part_48 rfl 1 rfl ?_
      refine j_iadd (v := 0) C dX11_part_49 (by decide) ?_
      refine j_sipush (v := 12000) C dX11_part_50 (by decide) ?_
      refine j_ic_le (tgt := 58) C dX11_part_53 (by decide) (fun c9 => ?_) (fun c9 => absurd (by decide) c9)
      refine j_aload_n C dX11_part_58 rfl 2 rfl ?_
      refine j_getr (f := 1100) (v := t) C flX11_9 dX11_part_59 hm hk (by decide) rfl rt ?_
      refine j_iconst (v := 0) C dX11_part_62 (by decide) ?_
      refine j_aload_n C dX11_part_63 rfl 2 rfl ?_
      show J _ _ _ _ _ 64 _
      refine j_getr (f := 1102) (v := j) C flX11_13 dX11_part_64 hm hk (by decide) rfl rj ?_
      refine j_iload_n C dX11_part_67 rfl 0 rfl ?_
      refine j_iload_n C dX11_part_68 rfl 1 rfl ?_
      refine j_copy (kd := 13) (ty := .byte) (p0 := 0) (p1 := 0) (m0 := 0) C mlX11_63 (by decide) mt kt lt mj kj lj (by decide) (by decide) (by decide) (by decide) (by decide) (by decide) (by decide) (by decide) (fun i h => absurd h (Nat.not_lt_zero i)) (M.fl (by decide)) dX11_part_69 ?_
      refine j_aload_n C dX11_part_72 rfl 2 rfl ?_
      refine j_getr (f := 1103) (v := o) C flX11_16 dX11_part_73 hm hk (by decide) rfl ro ?_
      refine j_aload_n C dX11_part_76 rfl 2 rfl ?_
      refine j_geti (f := 1105) (v := 0) C flX11_60 dX11_part_77 hm hk (by decide) (by decide) rfl (rd_sIf (S := S) (g := 1101) (a := h) (v := 0) (by decide) i1) ?_
      show J _ _ _ _ _ 80 _
      refine j_iload_n C dX11_part_80 rfl 3 rfl ?_
      refine j_iast (j := 0) C dX11_part_81 mo ko (inr_of (n := 6) lo (vp_lit (by decide))) (by decide) ?_
      refine j_aload_n C dX11_part_82 rfl 2 rfl ?_
      refine j_dup C dX11_part_83 rfl ?_
      refine j_geti (f := 1105) (v := 0) C flX11_60 dX11_part_84 hm hk (by decide) (by decide) rfl (rd_sIf (S := S) (g := 1101) (a := h) (v := 0) (by decide) i1) ?_
      refine j_iconst (v := 1) C dX11_part_87 (by decide) ?_
      refine j_iadd (v := 1) C dX11_part_88 (by decide) ?_
      refine j_puti (f := 1105) C flX11_60 (by decide) rfl rfl dX11_part_89 hm hk rfl ?_
      show J _ _ _ _ _ 92 _
      refine j_aload_n C dX11_part_92 rfl 2 rfl ?_
      refine j_getr (f := 1104) (v := u) C flX11_20 dX11_part_93 hm hk (by decide) rfl ru ?_
      refine j_aload_n C dX11_part_96 rfl 2 rfl ?_
      refine j_geti (f := 1105) (v := 1) C flX11_60 dX11_part_97 hm hk (by decide) (by decide) rfl (rd_sI (S := (tI (rI (sI S 1101 h 0) j (va_cpy (aI (sI S 1101 h 0) t) (aI (sI S 1101 h 0) j) 0 0 0)) o 0 n1)) (g := 1105) (a := h) (v := 1)) ?_
      refine j_iload_n C dX11_part_100 rfl 0 rfl ?_
      refine j_iload_n C dX11_part_101 rfl 1 rfl ?_
      refine j_iadd (v := 0) C dX11_part_102 (by decide) ?_
      refine j_iast (j := 1) C dX11_part_103 mu ku (inr_of (n := 7) lu (vp_lit (by decide))) (by decide) ?_
      show J _ _ _ _ _ 104 _
      refine j_aload_n C dX11_part_104 rfl 2 rfl ?_
      refine j_geti (f := 1105) (v := 1) C flX11_60 dX11_part_105 hm hk (by decide) (by decide) rfl (rd_sI (S := (tI (rI (sI S 1101 h 0) j (va_cpy (aI (sI S 1101 h 0) t) (aI (sI S 1101 h 0) j) 0 0 0)) o 0 n1)) (g := 1105) (a := h) (v := 1)) ?_
      exact j_iret C M dX11_part_108 (by decide) (by decide) ⟨(congrArg (fun z9 => some (Value.int z9)) (by unfold an_part; first | (rw [if_neg c_11, if_pos c_16]) | (rw [if_neg c_11, if_neg c_16]) | (rw [if_pos c_11]))), ((((((Fm.refl (WI := (fun f9 b9 => (f9 = 1101 ∧ b9 = h) ∨ (f9 = 1105 ∧ b9 = h))) (WR := (fun _ _ => False)) (WA := (fun b9 => b9 = j ∨ b9 = o ∨ b9 = u))).sI _ (fun _ => (Or.inl ⟨rfl, rfl⟩))).rI _ (fun _ => (Or.inl rfl))).tI _ _ (fun _ => (Or.inr (Or.inl rfl)))).sI _ (fun _ => (Or.inr ⟨rfl, rfl⟩))).tI _ _ (fun _ => (Or.inr (Or.inr rfl))))⟩

theorem dX11_drop_0 : decode cX11_drop 0 = .ok (.aload_n 0, 1) := by decide +kernel
theorem dX11_drop_1 : decode cX11_drop 1 = .ok (.getfield 60, 3) := by decide +kernel
theorem dX11_drop_4 : decode cX11_drop 4 = .ok (.istore_n 1, 1) := by decide +kernel
theorem dX11_drop_5 : decode cX11_drop 5 = .ok (.aload_n 0, 1) := by decide +kernel
theorem dX11_drop_6 : decode cX11_drop 6 = .ok (.iconst 0, 1) := by decide +kernel
theorem dX11_drop_7 : decode cX11_drop 7 = .ok (.putfield 60, 3) := by decide +kernel
theorem dX11_drop_10 : decode cX11_drop 10 = .ok (.iload_n 1, 1) := by decide +kernel
theorem dX11_drop_11 : decode cX11_drop 11 = .ok (.ireturn, 1) := by decide +kernel
set_option maxRecDepth 100000 in
set_option maxHeartbeats 4000000 in
theorem c_X11_drop (S : Hp) (h : Nat) (hm : h ∈ hL S) (hk : hK S h = 11) (i0 : hI S 1105 h = 0) : Ct 1 yX11_drop cX11_drop 2 (some .int) 0 0 [.ref h] S (fun r S' => r = some (.int 0) ∧ Fm (fun f9 b9 => (f9 = 1105 ∧ b9 = h)) (fun _ _ => False) (fun _ => False) S S') := by
  refine ct_of (by decide) (Nat.le_of_ble_eq_true rfl) fun x hn9 C M hm9 => ?_
  have C : CB x RX11 cX11_drop := C
  refine J.eq (lv' := [(0, .ref h)]) rfl rfl rfl ?_
  refine j_aload_n C dX11_drop_0 rfl 0 rfl ?_
  refine j_geti (f := 1105) (v := 0) C flX11_60 dX11_drop_1 hm hk (by decide) (by decide) rfl i0 ?_
  refine j_istore_n (lv' := [(1, .int 0), (0, .ref h)]) C dX11_drop_4 rfl (by rw [hn9]; decide) rfl ?_
  refine j_aload_n C dX11_drop_5 rfl 1 rfl ?_
  refine j_iconst (v := 0) C dX11_drop_6 (by decide) ?_
  refine j_puti (f := 1105) C flX11_60 (by decide) rfl rfl dX11_drop_7 hm hk rfl ?_
  refine j_iload_n C dX11_drop_10 rfl 0 rfl ?_
  exact j_iret C M dX11_drop_11 (by decide) (by decide) ⟨rfl, ((Fm.refl (WI := (fun f9 b9 => (f9 = 1105 ∧ b9 = h))) (WR := (fun _ _ => False)) (WA := (fun _ => False))).sI _ (fun _ => ⟨rfl, rfl⟩))⟩

theorem dX11_print_0 : decode cX11_print 0 = .ok (.iload_n 1, 1) := by decide +kernel
theorem dX11_print_1 : decode cX11_print 1 = .ok (.iconst 1, 1) := by decide +kernel
theorem dX11_print_2 : decode cX11_print 2 = .ok (.if_icmp .lt 10, 3) := by decide +kernel
theorem dX11_print_5 : decode cX11_print 5 = .ok (.iload_n 1, 1) := by decide +kernel
theorem dX11_print_6 : decode cX11_print 6 = .ok (.sipush 800, 3) := by decide +kernel
theorem dX11_print_9 : decode cX11_print 9 = .ok (.if_icmp .le 5, 3) := by decide +kernel
theorem dX11_print_12 : decode cX11_print 12 = .ok (.iconst (-1), 1) := by decide +kernel
theorem dX11_print_13 : decode cX11_print 13 = .ok (.ireturn, 1) := by decide +kernel
theorem dX11_print_14 : decode cX11_print 14 = .ok (.aload_n 0, 1) := by decide +kernel
theorem dX11_print_15 : decode cX11_print 15 = .ok (.iconst 0, 1) := by decide +kernel
theorem dX11_print_16 : decode cX11_print 16 = .ok (.putfield 69, 3) := by decide +kernel
theorem dX11_print_19 : decode cX11_print 19 = .ok (.aload_n 0, 1) := by decide +kernel
theorem dX11_print_20 : decode cX11_print 20 = .ok (.iconst (-1), 1) := by decide +kernel
theorem dX11_print_21 : decode cX11_print 21 = .ok (.putfield 23, 3) := by decide +kernel
theorem dX11_print_24 : decode cX11_print 24 = .ok (.aload_n 0, 1) := by decide +kernel
theorem dX11_print_25 : decode cX11_print 25 = .ok (.iconst (-1), 1) := by decide +kernel
theorem dX11_print_26 : decode cX11_print 26 = .ok (.putfield 27, 3) := by decide +kernel
theorem dX11_print_29 : decode cX11_print 29 = .ok (.aload_n 0, 1) := by decide +kernel
theorem dX11_print_30 : decode cX11_print 30 = .ok (.getfield 33, 3) := by decide +kernel
theorem dX11_print_33 : decode cX11_print 33 = .ok (.invokevirtual 72, 3) := by decide +kernel
theorem dX11_print_36 : decode cX11_print 36 = .ok (.aload_n 0, 1) := by decide +kernel
theorem dX11_print_37 : decode cX11_print 37 = .ok (.getfield 42, 3) := by decide +kernel
theorem dX11_print_40 : decode cX11_print 40 = .ok (.invokevirtual 75, 3) := by decide +kernel
theorem dX11_print_43 : decode cX11_print 43 = .ok (.iconst 0, 1) := by decide +kernel
theorem dX11_print_44 : decode cX11_print 44 = .ok (.istore_n 2, 1) := by decide +kernel
theorem dX11_print_45 : decode cX11_print 45 = .ok (.iload_n 2, 1) := by decide +kernel
theorem dX11_print_46 : decode cX11_print 46 = .ok (.aload_n 0, 1) := by decide +kernel
theorem dX11_print_47 : decode cX11_print 47 = .ok (.getfield 60, 3) := by decide +kernel
theorem dX11_print_50 : decode cX11_print 50 = .ok (.if_icmp .ge 141, 3) := by decide +kernel
theorem dX11_print_53 : decode cX11_print 53 = .ok (.iload_n 2, 1) := by decide +kernel
theorem dX11_print_54 : decode cX11_print 54 = .ok (.bipush 6, 2) := by decide +kernel
theorem dX11_print_56 : decode cX11_print 56 = .ok (.if_icmp .ge 135, 3) := by decide +kernel
theorem dX11_print_59 : decode cX11_print 59 = .ok (.aload_n 0, 1) := by decide +kernel
theorem dX11_print_60 : decode cX11_print 60 = .ok (.getfield 69, 3) := by decide +kernel
theorem dX11_print_63 : decode cX11_print 63 = .ok (.ifCond .ne 128, 3) := by decide +kernel
theorem dX11_print_66 : decode cX11_print 66 = .ok (.aload_n 0, 1) := by decide +kernel
theorem dX11_print_67 : decode cX11_print 67 = .ok (.getfield 16, 3) := by decide +kernel
theorem dX11_print_70 : decode cX11_print 70 = .ok (.iload_n 2, 1) := by decide +kernel
theorem dX11_print_71 : decode cX11_print 71 = .ok (.iaload, 1) := by decide +kernel
theorem dX11_print_72 : decode cX11_print 72 = .ok (.ifCond .ne 50, 3) := by decide +kernel
theorem dX11_print_75 : decode cX11_print 75 = .ok (.aload_n 0, 1) := by decide +kernel
theorem dX11_print_76 : decode cX11_print 76 = .ok (.getfield 42, 3) := by decide +kernel
theorem dX11_print_79 : decode cX11_print 79 = .ok (.aload_n 0, 1) := by decide +kernel
theorem dX11_print_80 : decode cX11_print 80 = .ok (.getfield 13, 3) := by decide +kernel
theorem dX11_print_83 : decode cX11_print 83 = .ok (.aload_n 0, 1) := by decide +kernel
theorem dX11_print_84 : decode cX11_print 84 = .ok (.getfield 20, 3) := by decide +kernel
theorem dX11_print_87 : decode cX11_print 87 = .ok (.iload_n 2, 1) := by decide +kernel
theorem dX11_print_88 : decode cX11_print 88 = .ok (.iaload, 1) := by decide +kernel
theorem dX11_print_89 : decode cX11_print 89 = .ok (.aload_n 0, 1) := by decide +kernel
theorem dX11_print_90 : decode cX11_print 90 = .ok (.getfield 20, 3) := by decide +kernel
theorem dX11_print_93 : decode cX11_print 93 = .ok (.iload_n 2, 1) := by decide +kernel
theorem dX11_print_94 : decode cX11_print 94 = .ok (.iconst 1, 1) := by decide +kernel
theorem dX11_print_95 : decode cX11_print 95 = .ok (.iadd, 1) := by decide +kernel
theorem dX11_print_96 : decode cX11_print 96 = .ok (.iaload, 1) := by decide +kernel
theorem dX11_print_97 : decode cX11_print 97 = .ok (.invokevirtual 78, 3) := by decide +kernel
theorem dX11_print_100 : decode cX11_print 100 = .ok (.aload_n 0, 1) := by decide +kernel
theorem dX11_print_101 : decode cX11_print 101 = .ok (.aload_n 0, 1) := by decide +kernel
theorem dX11_print_102 : decode cX11_print 102 = .ok (.getfield 42, 3) := by decide +kernel
theorem dX11_print_105 : decode cX11_print 105 = .ok (.invokevirtual 82, 3) := by decide +kernel
theorem dX11_print_108 : decode cX11_print 108 = .ok (.ifCond .eq 7, 3) := by decide +kernel
theorem dX11_print_111 : decode cX11_print 111 = .ok (.iconst 1, 1) := by decide +kernel
theorem dX11_print_112 : decode cX11_print 112 = .ok (.goto 4, 3) := by decide +kernel
theorem dX11_print_115 : decode cX11_print 115 = .ok (.iconst 0, 1) := by decide +kernel
theorem dX11_print_116 : decode cX11_print 116 = .ok (.putfield 69, 3) := by decide +kernel
theorem dX11_print_119 : decode cX11_print 119 = .ok (.goto 50, 3) := by decide +kernel
theorem dX11_print_122 : decode cX11_print 122 = .ok (.aload_n 0, 1) := by decide +kernel
theorem dX11_print_123 : decode cX11_print 123 = .ok (.getfield 49, 3) := by decide +kernel
theorem dX11_print_126 : decode cX11_print 126 = .ok (.aload_n 0, 1) := by decide +kernel
theorem dX11_print_127 : decode cX11_print 127 = .ok (.getfield 13, 3) := by decide +kernel
theorem dX11_print_130 : decode cX11_print 130 = .ok (.aload_n 0, 1) := by decide +kernel
theorem dX11_print_131 : decode cX11_print 131 = .ok (.getfield 20, 3) := by decide +kernel
theorem dX11_print_134 : decode cX11_print 134 = .ok (.iload_n 2, 1) := by decide +kernel
theorem dX11_print_135 : decode cX11_print 135 = .ok (.iaload, 1) := by decide +kernel
theorem dX11_print_136 : decode cX11_print 136 = .ok (.aload_n 0, 1) := by decide +kernel
theorem dX11_print_137 : decode cX11_print 137 = .ok (.getfield 20, 3) := by decide +kernel
theorem dX11_print_140 : decode cX11_print 140 = .ok (.iload_n 2, 1) := by decide +kernel
theorem dX11_print_141 : decode cX11_print 141 = .ok (.iconst 1, 1) := by decide +kernel
theorem dX11_print_142 : decode cX11_print 142 = .ok (.iadd, 1) := by decide +kernel
theorem dX11_print_143 : decode cX11_print 143 = .ok (.iaload, 1) := by decide +kernel
theorem dX11_print_144 : decode cX11_print 144 = .ok (.invokevirtual 86, 3) := by decide +kernel
theorem dX11_print_147 : decode cX11_print 147 = .ok (.aload_n 0, 1) := by decide +kernel
theorem dX11_print_148 : decode cX11_print 148 = .ok (.aload_n 0, 1) := by decide +kernel
theorem dX11_print_149 : decode cX11_print 149 = .ok (.getfield 49, 3) := by decide +kernel
theorem dX11_print_152 : decode cX11_print 152 = .ok (.getfield 89, 3) := by decide +kernel
theorem dX11_print_155 : decode cX11_print 155 = .ok (.putfield 69, 3) := by decide +kernel
theorem dX11_print_158 : decode cX11_print 158 = .ok (.aload_n 0, 1) := by decide +kernel
theorem dX11_print_159 : decode cX11_print 159 = .ok (.aload_n 0, 1) := by decide +kernel
theorem dX11_print_160 : decode cX11_print 160 = .ok (.getfield 49, 3) := by decide +kernel
theorem dX11_print_163 : decode cX11_print 163 = .ok (.getfield 92, 3) := by decide +kernel
theorem dX11_print_166 : decode cX11_print 166 = .ok (.putfield 27, 3) := by decide +kernel
theorem dX11_print_169 : decode cX11_print 169 = .ok (.aload_n 0, 1) := by decide +kernel
theorem dX11_print_170 : decode cX11_print 170 = .ok (.aload_n 0, 1) := by decide +kernel
theorem dX11_print_171 : decode cX11_print 171 = .ok (.getfield 69, 3) := by decide +kernel
theorem dX11_print_174 : decode cX11_print 174 = .ok (.ifCond .ne 7, 3) := by decide +kernel
theorem dX11_print_177 : decode cX11_print 177 = .ok (.iconst (-1), 1) := by decide +kernel
theorem dX11_print_178 : decode cX11_print 178 = .ok (.goto 4, 3) := by decide +kernel
theorem dX11_print_181 : decode cX11_print 181 = .ok (.iload_n 2, 1) := by decide +kernel
theorem dX11_print_182 : decode cX11_print 182 = .ok (.putfield 23, 3) := by decide +kernel
theorem dX11_print_185 : decode cX11_print 185 = .ok (.iinc 2 1, 3) := by decide +kernel
theorem dX11_print_188 : decode cX11_print 188 = .ok (.goto (-143), 3) := by decide +kernel
theorem dX11_print_191 : decode cX11_print 191 = .ok (.aload_n 0, 1) := by decide +kernel
theorem dX11_print_192 : decode cX11_print 192 = .ok (.iconst 0, 1) := by decide +kernel
theorem dX11_print_193 : decode cX11_print 193 = .ok (.putfield 60, 3) := by decide +kernel
theorem dX11_print_196 : decode cX11_print 196 = .ok (.aload_n 0, 1) := by decide +kernel
theorem dX11_print_197 : decode cX11_print 197 = .ok (.getfield 69, 3) := by decide +kernel
theorem dX11_print_200 : decode cX11_print 200 = .ok (.ifCond .ne 11, 3) := by decide +kernel
theorem dX11_print_203 : decode cX11_print 203 = .ok (.aload_n 0, 1) := by decide +kernel
theorem dX11_print_204 : decode cX11_print 204 = .ok (.getfield 33, 3) := by decide +kernel
theorem dX11_print_207 : decode cX11_print 207 = .ok (.getfield 93, 3) := by decide +kernel
theorem dX11_print_210 : decode cX11_print 210 = .ok (.ireturn, 1) := by decide +kernel
theorem dX11_print_211 : decode cX11_print 211 = .ok (.aload_n 0, 1) := by decide +kernel
theorem dX11_print_212 : decode cX11_print 212 = .ok (.getfield 33, 3) := by decide +kernel
theorem dX11_print_215 : decode cX11_print 215 = .ok (.invokevirtual 72, 3) := by decide +kernel
theorem dX11_print_218 : decode cX11_print 218 = .ok (.aload_n 0, 1) := by decide +kernel
theorem dX11_print_219 : decode cX11_print 219 = .ok (.getfield 42, 3) := by decide +kernel
theorem dX11_print_222 : decode cX11_print 222 = .ok (.invokevirtual 96, 3) := by decide +kernel
theorem dX11_print_225 : decode cX11_print 225 = .ok (.bipush (-10), 2) := by decide +kernel
theorem dX11_print_227 : decode cX11_print 227 = .ok (.aload_n 0, 1) := by decide +kernel
theorem dX11_print_228 : decode cX11_print 228 = .ok (.getfield 69, 3) := by decide +kernel
theorem dX11_print_231 : decode cX11_print 231 = .ok (.isub, 1) := by decide +kernel
theorem dX11_print_232 : decode cX11_print 232 = .ok (.ireturn, 1) := by decide +kernel
set_option maxRecDepth 100000 in
set_option maxHeartbeats 4000000 in
theorem c_X11_print (S : Hp) (h : Nat) (hm : h ∈ hL S) (hk : hK S h = 11) (g : Nat) (rg : hR S 1106 h = some g) (mg : g ∈ hL S) (kg : Kd S g 6) (w : Nat) (rw : hR S 1107 h = some w) (mw : w ∈ hL S) (kw : Kd S w 9) (c0 : Nat) (rc0 : hR S 901 w = some c0) (mc0 : c0 ∈ hL S) (kc0 : Kd S c0 0) (d0 : Nat) (rd0 : hR S 0 c0 = some d0) (md0 : d0 ∈ hL S) (kd0 : Kd S d0 14) (ld0 : Ln S d0 20000) (i0 : hI S 1105 h = 0) (n1 : Int32) : Ct 5 yX11_print cX11_print 3 (some .int) 0 0 [.ref h, .int n1] S (fun r S' => r = some (.int (an_print n1)) ∧ Fm (fun f9 b9 => (f9 = 1105 ∧ b9 = h) ∨ (f9 = 1109 ∧ b9 = h) ∨ (f9 = 1110 ∧ b9 = h) ∨ (f9 = 1111 ∧ b9 = h) ∨ (f9 = 601 ∧ b9 = g) ∨ (f9 = 602 ∧ b9 = g) ∨ (f9 = 603 ∧ b9 = g) ∨ (f9 = 916 ∧ b9 = w) ∨ (f9 = 2 ∧ b9 = c0) ∨ (f9 = 3 ∧ b9 = c0) ∨ (f9 = 4 ∧ b9 = c0) ∨ (f9 = 5 ∧ b9 = c0)) (fun _ _ => False) (fun b9 => b9 = d0) S S') := by
  refine ct_of (by decide) (Nat.le_of_ble_eq_true rfl) fun x hn9 C M hm9 => ?_
  have C : CB x RX11 cX11_print := C
  refine J.eq (lv' := [(0, .ref h), (1, .int n1)]) rfl rfl rfl ?_
  refine j_iload_n C dX11_print_0 rfl 1 rfl ?_
  refine j_iconst (v := 1) C dX11_print_1 (by decide) ?_
  refine j_ic_lt (tgt := 12) C dX11_print_2 (by decide) (fun c_2 => ?_) (fun c_2 => ?_)
  · skip
    refine j_iconst (v := (-1)) C dX11_print_12 (by decide) ?_
    exact j_iret C M dX11_print_13 (by decide) (by decide) ⟨(congrArg (fun z9 => some (Value.int z9)) (by unfold an_print; first | (rw [if_neg c_2, if_pos c_9]) | (rw [if_neg c_2, if_neg c_9]) | (rw [if_pos c_2]))), (Fm.refl (WI := (fun f9 b9 => (f9 = 1105 ∧ b9 = h) ∨ (f9 = 1109 ∧ b9 = h) ∨ (f9 = 1110 ∧ b9 = h) ∨ (f9 = 1111 ∧ b9 = h) ∨ (f9 = 601 ∧ b9 = g) ∨ (f9 = 602 ∧ b9 = g) ∨ (f9 = 603 ∧ b9 = g) ∨ (f9 = 916 ∧ b9 = w) ∨ (f9 = 2 ∧ b9 = c0) ∨ (f9 = 3 ∧ b9 = c0) ∨ (f9 = 4 ∧ b9 = c0) ∨ (f9 = 5 ∧ b9 = c0))) (WR := (fun _ _ => False)) (WA := (fun b9 => b9 = d0)))⟩
  · skip
    refine j_iload_n C dX11_print_5 rfl 1 rfl ?_
    refine j_sipush (v := 800) C dX11_print_6 (by decide) ?_
    refine j_ic_le (tgt := 14) C dX11_print_9 (by decide) (fun c_9 => ?_) (fun c_9 => ?_)
    · skip
      refine j_aload_n C dX11_print_14 rfl 0 rfl ?_
      refine j_iconst (v := 0) C dX11_print_15 (by decide) ?_
      refine j_puti (f := 1109) C flX11_69 (by decide) rfl rfl dX11_print_16 hm hk rfl ?_
      show J _ _ _ _ _ 19 _
      refine j_aload_n C dX11_print_19 rfl 0 rfl ?_
      refine j_iconst (v := (-1)) C dX11_print_20 (by decide) ?_
      refine j_puti (f := 1110) C flX11_23 (by decide) rfl rfl dX11_print_21 hm hk rfl ?_
      refine j_aload_n C dX11_print_24 rfl 0 rfl ?_
      refine j_iconst (v := (-1)) C dX11_print_25 (by decide) ?_
      refine j_puti (f := 1111) C flX11_27 (by decide) rfl rfl dX11_print_26 hm hk rfl ?_
      refine j_aload_n C dX11_print_29 rfl 0 rfl ?_
      refine j_getr (f := 1106) (v := g) C flX11_33 dX11_print_30 hm hk (by decide) rfl rg ?_
      show J _ _ _ _ _ 33 _
      have hf_3 : Fm (fun f9 b9 => (f9 = 1105 ∧ b9 = h) ∨ (f9 = 1109 ∧ b9 = h) ∨ (f9 = 1110 ∧ b9 = h) ∨ (f9 = 1111 ∧ b9 = h) ∨ (f9 = 601 ∧ b9 = g) ∨ (f9 = 602 ∧ b9 = g) ∨ (f9 = 603 ∧ b9 = g) ∨ (f9 = 916 ∧ b9 = w) ∨ (f9 = 2 ∧ b9 = c0) ∨ (f9 = 3 ∧ b9 = c0) ∨ (f9 = 4 ∧ b9 = c0) ∨ (f9 = 5 ∧ b9 = c0)) (fun _ _ => False) (fun b9 => b9 = d0) S (sI (sI (sI S 1109 h 0) 1110 h (-1)) 1111 h (-1)) := ((((Fm.refl (WI := (fun f9 b9 => (f9 = 1105 ∧ b9 = h) ∨ (f9 = 1109 ∧ b9 = h) ∨ (f9 = 1110 ∧ b9 = h) ∨ (f9 = 1111 ∧ b9 = h) ∨ (f9 = 601 ∧ b9 = g) ∨ (f9 = 602 ∧ b9 = g) ∨ (f9 = 603 ∧ b9 = g) ∨ (f9 = 916 ∧ b9 = w) ∨ (f9 = 2 ∧ b9 = c0) ∨ (f9 = 3 ∧ b9 = c0) ∨ (f9 = 4 ∧ b9 = c0) ∨ (f9 = 5 ∧ b9 = c0))) (WR := (fun _ _ => False)) (WA := (fun b9 => b9 = d0))).sI _ (fun _ => (Or.inr (Or.inl ⟨rfl, rfl⟩)))).sI _ (fun _ => (Or.inr (Or.inr (Or.inl ⟨rfl, rfl⟩))))).sI _ (fun _ => (Or.inr (Or.inr (Or.inr (Or.inl ⟨rfl, rfl⟩))))))
      obtain ⟨S_1, eS_2⟩ : ∃ S9 : Hp, S9 = (sI (sI (sI S 1109 h 0) 1110 h (-1)) 1111 h (-1)) := ⟨_, rfl⟩
      refine J.eq (S' := S_1) eS_2.symm rfl rfl ?_
      have hm_4 : c0 ∈ hL S_1 := by rw [eS_2]; exact mc0
      have hk_5 : Kd S_1 c0 0 := by rw [eS_2]; exact kc0
      have hm_6 : d0 ∈ hL S_1 := by rw [eS_2]; exact md0
      have hk_7 : Kd S_1 d0 14 := by rw [eS_2]; exact kd0
      have hn_8 : Ln S_1 d0 20000 := by rw [eS_2]; exact ld0
      have hm_9 : g ∈ hL S_1 := by rw [eS_2]; exact mg
      have hk_10 : Kd S_1 g 6 := by rw [eS_2]; exact kg
      have hm_11 : h ∈ hL S_1 := by rw [eS_2]; exact hm
      have hk_12 : Kd S_1 h 11 := by rw [eS_2]; exact hk
      have hm_13 : w ∈ hL S_1 := by rw [eS_2]; exact mw
      have hk_14 : Kd S_1 w 9 := by rw [eS_2]; exact kw
      have hv_15 : hI S_1 1105 h = 0 := by rw [eS_2]; exact (rd_sIf (S := (sI (sI S 1109 h 0) 1110 h (-1))) (g := 1111) (a := h) (v := (-1)) (by decide) (rd_sIf (S := (sI S 1109 h 0)) (g := 1110) (a := h) (v := (-1)) (by decide) (rd_sIf (S := S) (g := 1109) (a := h) (v := 0) (by decide) i0)))
      have hv_16 : hI S_1 1109 h = 0 := by rw [eS_2]; exact (rd_sIf (S := (sI (sI S 1109 h 0) 1110 h (-1))) (g := 1111) (a := h) (v := (-1)) (by decide) (rd_sIf (S := (sI S 1109 h 0)) (g := 1110) (a := h) (v := (-1)) (by decide) (rd_sI (S := S) (g := 1109) (a := h) (v := 0))))
      have hv_17 : hI S_1 1110 h = (-1) := by rw [eS_2]; exact (rd_sIf (S := (sI (sI S 1109 h 0) 1110 h (-1))) (g := 1111) (a := h) (v := (-1)) (by decide) (rd_sI (S := (sI S 1109 h 0)) (g := 1110) (a := h) (v := (-1))))
      have hv_18 : hI S_1 1111 h = (-1) := by rw [eS_2]; exact (rd_sI (S := (sI (sI S 1109 h 0) 1110 h (-1))) (g := 1111) (a := h) (v := (-1)))
      have hv_19 : hR S_1 0 c0 = (some d0) := by rw [eS_2]; exact rd0
      have hv_20 : hR S_1 1106 h = (some g) := by rw [eS_2]; exact rg
      have hv_21 : hR S_1 1107 h = (some w) := by rw [eS_2]; exact rw
      have hv_22 : hR S_1 901 w = (some c0) := by rw [eS_2]; exact rc0
      have hf_23 : Fm (fun f9 b9 => (f9 = 1105 ∧ b9 = h) ∨ (f9 = 1109 ∧ b9 = h) ∨ (f9 = 1110 ∧ b9 = h) ∨ (f9 = 1111 ∧ b9 = h) ∨ (f9 = 601 ∧ b9 = g) ∨ (f9 = 602 ∧ b9 = g) ∨ (f9 = 603 ∧ b9 = g) ∨ (f9 = 916 ∧ b9 = w) ∨ (f9 = 2 ∧ b9 = c0) ∨ (f9 = 3 ∧ b9 = c0) ∨ (f9 = 4 ∧ b9 = c0) ∨ (f9 = 5 ∧ b9 = c0)) (fun _ _ => False) (fun b9 => b9 = d0) S S_1 := by rw [eS_2]; exact hf_3
      refine j_callV (ci := 6) C [] [] mlX11_72 mcX6_clear (c_X6_clear S_1 g hm_9 hk_10) hm_9 hk_10 rfl (M.rm (by decide) (by decide) (Nat.le_of_ble_eq_true rfl) (Nat.le_of_ble_eq_true rfl)) rfl rfl (Nat.le_of_ble_eq_true rfl) dX11_print_33 (fun r_26 S_27 hp_28 => ?_)
      obtain ⟨rfl, hf_29, e_24, e_25⟩ := hp_28
      refine J.eq (st' := []) rfl rfl rfl ?_
      have hm_30 : c0 ∈ hL S_27 := hf_29.mem hm_4
      have hk_31 : Kd S_27 c0 0 := hf_29.kd hm_4 hk_5
      have hm_32 : d0 ∈ hL S_27 := hf_29.mem hm_6
      have hk_33 : Kd S_27 d0 14 := hf_29.kd hm_6 hk_7
      have hn_34 : Ln S_27 d0 20000 := hf_29.ln hm_6 hn_8
      have hm_35 : g ∈ hL S_27 := hf_29.mem hm_9
      have hk_36 : Kd S_27 g 6 := hf_29.kd hm_9 hk_10
      have hm_37 : h ∈ hL S_27 := hf_29.mem hm_11
      have hk_38 : Kd S_27 h 11 := hf_29.kd hm_11 hk_12
      have hm_39 : w ∈ hL S_27 := hf_29.mem hm_13
      have hk_40 : Kd S_27 w 9 := hf_29.kd hm_13 hk_14
      have hv_41 : hI S_27 1105 h = 0 := hf_29.fi hm_11 (fun h9 => h9.elim (fun q9 => absurd q9.1 (by decide)) (fun h9 => h9.elim (fun q9 => absurd q9.1 (by decide)) (fun q9 => absurd q9.1 (by decide)))) hv_15
      have hv_42 : hI S_27 1109 h = 0 := hf_29.fi hm_11 (fun h9 => h9.elim (fun q9 => absurd q9.1 (by decide)) (fun h9 => h9.elim (fun q9 => absurd q9.1 (by decide)) (fun q9 => absurd q9.1 (by decide)))) hv_16
      have hv_43 : hI S_27 1110 h = (-1) := hf_29.fi hm_11 (fun h9 => h9.elim (fun q9 => absurd q9.1 (by decide)) (fun h9 => h9.elim (fun q9 => absurd q9.1 (by decide)) (fun q9 => absurd q9.1 (by decide)))) hv_17
      have hv_44 : hI S_27 1111 h = (-1) := hf_29.fi hm_11 (fun h9 => h9.elim (fun q9 => absurd q9.1 (by decide)) (fun h9 => h9.elim (fun q9 => absurd q9.1 (by decide)) (fun q9 => absurd q9.1 (by decide)))) hv_18
      have hv_45 : hR S_27 0 c0 = (some d0) := hf_29.fr hm_4 (fun h9 => h9) hv_19
      have hv_46 : hR S_27 1106 h = (some g) := hf_29.fr hm_11 (fun h9 => h9) hv_20
      have hv_47 : hR S_27 1107 h = (some w) := hf_29.fr hm_11 (fun h9 => h9) hv_21
      have hv_48 : hR S_27 901 w = (some c0) := hf_29.fr hm_13 (fun h9 => h9) hv_22
      have hf_49 : Fm (fun f9 b9 => (f9 = 1105 ∧ b9 = h) ∨ (f9 = 1109 ∧ b9 = h) ∨ (f9 = 1110 ∧ b9 = h) ∨ (f9 = 1111 ∧ b9 = h) ∨ (f9 = 601 ∧ b9 = g) ∨ (f9 = 602 ∧ b9 = g) ∨ (f9 = 603 ∧ b9 = g) ∨ (f9 = 916 ∧ b9 = w) ∨ (f9 = 2 ∧ b9 = c0) ∨ (f9 = 3 ∧ b9 = c0) ∨ (f9 = 4 ∧ b9 = c0) ∨ (f9 = 5 ∧ b9 = c0)) (fun _ _ => False) (fun b9 => b9 = d0) S S_27 := hf_23.then hf_29 (fun a9 ha9 => ⟨(fun f9 h9 => (fun h9 => h9.elim (fun h8 => (Or.inr (Or.inr (Or.inr (Or.inr (Or.inl h8)))))) (fun h9 => h9.elim (fun h8 => (Or.inr (Or.inr (Or.inr (Or.inr (Or.inr (Or.inl h8))))))) (fun h8 => (Or.inr (Or.inr (Or.inr (Or.inr (Or.inr (Or.inr (Or.inl h8)))))))))) h9), (fun f9 h9 => h9.elim), (fun h9 => h9.elim)⟩)
      refine j_aload_n C dX11_print_36 rfl 0 rfl ?_
      refine j_getr (f := 1107) (v := w) C flX11_42 dX11_print_37 hm_37 hk_38 (by decide) rfl hv_47 ?_
      refine j_callV (ci := 9) C [] [] mlX11_75 mcX9_startJob (c_X9_startJob S_27 w hm_39 hk_40 c0 hv_48 hm_30 hk_31 d0 hv_45 hm_32 hk_33 hn_34) hm_39 hk_40 rfl (M.rm (by decide) (by decide) (Nat.le_of_ble_eq_true rfl) (Nat.le_of_ble_eq_true rfl)) rfl rfl (Nat.le_of_ble_eq_true rfl) dX11_print_40 (fun r_50 S_51 hp_52 => ?_)
      obtain ⟨rfl, hf_53⟩ := hp_52
      refine J.eq (st' := []) rfl rfl rfl ?_
      have hm_54 : c0 ∈ hL S_51 := hf_53.mem hm_30
      have hk_55 : Kd S_51 c0 0 := hf_53.kd hm_30 hk_31
      have hm_56 : d0 ∈ hL S_51 := hf_53.mem hm_32
      have hk_57 : Kd S_51 d0 14 := hf_53.kd hm_32 hk_33
      have hn_58 : Ln S_51 d0 20000 := hf_53.ln hm_32 hn_34
      have hm_59 : g ∈ hL S_51 := hf_53.mem hm_35
      have hk_60 : Kd S_51 g 6 := hf_53.kd hm_35 hk_36
      have hm_61 : h ∈ hL S_51 := hf_53.mem hm_37
      have hk_62 : Kd S_51 h 11 := hf_53.kd hm_37 hk_38
      have hm_63 : w ∈ hL S_51 := hf_53.mem hm_39
      have hk_64 : Kd S_51 w 9 := hf_53.kd hm_39 hk_40
      have hv_65 : hI S_51 1105 h = 0 := hf_53.fi hm_37 (fun h9 => h9.elim (fun q9 => absurd q9.1 (by decide)) (fun h9 => h9.elim (fun q9 => absurd q9.1 (by decide)) (fun h9 => h9.elim (fun q9 => absurd q9.1 (by decide)) (fun h9 => h9.elim (fun q9 => absurd q9.1 (by decide)) (fun q9 => absurd q9.1 (by decide)))))) hv_41
      have hv_66 : hI S_51 1109 h = 0 := hf_53.fi hm_37 (fun h9 => h9.elim (fun q9 => absurd q9.1 (by decide)) (fun h9 => h9.elim (fun q9 => absurd q9.1 (by decide)) (fun h9 => h9.elim (fun q9 => absurd q9.1 (by decide)) (fun h9 => h9.elim (fun q9 => absurd q9.1 (by decide)) (fun q9 => absurd q9.1 (by decide)))))) hv_42
      have hv_67 : hI S_51 1110 h = (-1) := hf_53.fi hm_37 (fun h9 => h9.elim (fun q9 => absurd q9.1 (by decide)) (fun h9 => h9.elim (fun q9 => absurd q9.1 (by decide)) (fun h9 => h9.elim (fun q9 => absurd q9.1 (by decide)) (fun h9 => h9.elim (fun q9 => absurd q9.1 (by decide)) (fun q9 => absurd q9.1 (by decide)))))) hv_43
      have hv_68 : hI S_51 1111 h = (-1) := hf_53.fi hm_37 (fun h9 => h9.elim (fun q9 => absurd q9.1 (by decide)) (fun h9 => h9.elim (fun q9 => absurd q9.1 (by decide)) (fun h9 => h9.elim (fun q9 => absurd q9.1 (by decide)) (fun h9 => h9.elim (fun q9 => absurd q9.1 (by decide)) (fun q9 => absurd q9.1 (by decide)))))) hv_44
      have hv_69 : hI S_51 601 g = 0 := hf_53.fi hm_35 (fun h9 => h9.elim (fun q9 => absurd q9.1 (by decide)) (fun h9 => h9.elim (fun q9 => absurd q9.1 (by decide)) (fun h9 => h9.elim (fun q9 => absurd q9.1 (by decide)) (fun h9 => h9.elim (fun q9 => absurd q9.1 (by decide)) (fun q9 => absurd q9.1 (by decide)))))) e_24
      have hv_70 : hI S_51 602 g = 0 := hf_53.fi hm_35 (fun h9 => h9.elim (fun q9 => absurd q9.1 (by decide)) (fun h9 => h9.elim (fun q9 => absurd q9.1 (by decide)) (fun h9 => h9.elim (fun q9 => absurd q9.1 (by decide)) (fun h9 => h9.elim (fun q9 => absurd q9.1 (by decide)) (fun q9 => absurd q9.1 (by decide)))))) e_25
      have hv_71 : hR S_51 0 c0 = (some d0) := hf_53.fr hm_30 (fun h9 => h9) hv_45
      have hv_72 : hR S_51 1106 h = (some g) := hf_53.fr hm_37 (fun h9 => h9) hv_46
      have hv_73 : hR S_51 1107 h = (some w) := hf_53.fr hm_37 (fun h9 => h9) hv_47
      have hv_74 : hR S_51 901 w = (some c0) := hf_53.fr hm_39 (fun h9 => h9) hv_48
      have hf_75 : Fm (fun f9 b9 => (f9 = 1105 ∧ b9 = h) ∨ (f9 = 1109 ∧ b9 = h) ∨ (f9 = 1110 ∧ b9 = h) ∨ (f9 = 1111 ∧ b9 = h) ∨ (f9 = 601 ∧ b9 = g) ∨ (f9 = 602 ∧ b9 = g) ∨ (f9 = 603 ∧ b9 = g) ∨ (f9 = 916 ∧ b9 = w) ∨ (f9 = 2 ∧ b9 = c0) ∨ (f9 = 3 ∧ b9 = c0) ∨ (f9 = 4 ∧ b9 = c0) ∨ (f9 = 5 ∧ b9 = c0)) (fun _ _ => False) (fun b9 => b9 = d0) S S_51 := hf_49.then hf_53 (fun a9 ha9 => ⟨(fun f9 h9 => (fun h9 => h9.elim (fun h8 => (Or.inr (Or.inr (Or.inr (Or.inr (Or.inr (Or.inr (Or.inr (Or.inl h8))))))))) (fun h9 => h9.elim (fun h8 => (Or.inr (Or.inr (Or.inr (Or.inr (Or.inr (Or.inr (Or.inr (Or.inr (Or.inl h8)))))))))) (fun h9 => h9.elim (fun h8 => (Or.inr (Or.inr (Or.inr (Or.inr (Or.inr (Or.inr (Or.inr (Or.inr (Or.inr (Or.inl h8))))))))))) (fun h9 => h9.elim (fun h8 => (Or.inr (Or.inr (Or.inr (Or.inr (Or.inr (Or.inr (Or.inr (Or.inr (Or.inr (Or.inr (Or.inl h8)))))))))))) (fun h8 => (Or.inr (Or.inr (Or.inr (Or.inr (Or.inr (Or.inr (Or.inr (Or.inr (Or.inr (Or.inr (Or.inr h8)))))))))))))))) h9), (fun f9 h9 => h9.elim), (fun h9 => (fun h8 => h8) h9)⟩)
      refine j_iconst (v := 0) C dX11_print_43 (by decide) ?_
      refine j_istore_n (lv' := [(2, .int 0), (0, .ref h), (1, .int n1)]) C dX11_print_44 rfl (by rw [hn9]; decide) rfl ?_
      refine j_iload_n C dX11_print_45 rfl 0 rfl ?_
      refine j_aload_n C dX11_print_46 rfl 1 rfl ?_
      show J _ _ _ _ _ 47 _
      refine j_geti (f := 1105) (v := 0) C flX11_60 dX11_print_47 hm_61 hk_62 (by decide) (by decide) rfl hv_65 ?_
      refine j_ic_ge (tgt := 191) C dX11_print_50 (by decide) (fun c9 => ?_) (fun c9 => absurd (by decide) c9)
      refine j_aload_n C dX11_print_191 rfl 1 rfl ?_
      refine j_iconst (v := 0) C dX11_print_192 (by decide) ?_
      refine j_puti (f := 1105) C flX11_60 (by decide) rfl rfl dX11_print_193 hm_61 hk_62 rfl ?_
      refine j_aload_n C dX11_print_196 rfl 1 rfl ?_
      refine j_geti (f := 1109) (v := 0) C flX11_69 dX11_print_197 hm_61 hk_62 (by decide) (by decide) rfl (rd_sIf (S := S_51) (g := 1105) (a := h) (v := 0) (by decide) hv_66) ?_
      refine j_if_ne (tgt := 211) C dX11_print_200 (by decide) (fun c9 => absurd c9 (by decide)) (fun c9 => ?_)
      show J _ _ _ _ _ 203 _
      refine j_aload_n C dX11_print_203 rfl 1 rfl ?_
      refine j_getr (f := 1106) (v := g) C flX11_33 dX11_print_204 hm_61 hk_62 (by decide) rfl hv_72 ?_
      refine j_geti (f := 602) (v := 0) C flX11_93 dX11_print_207 hm_59 hk_60 (by decide) (by decide) rfl (rd_sIf (S := S_51) (g := 1105) (a := h) (v := 0) (by decide) hv_70) ?_
      exact j_iret C M dX11_print_210 (Nat.le_of_ble_eq_true rfl) (Nat.le_of_ble_eq_true rfl) ⟨(congrArg (fun z9 => some (Value.int z9)) (by unfold an_print; first | (rw [if_neg c_2, if_pos c_9]) | (rw [if_neg c_2, if_neg c_9]) | (rw [if_pos c_2]))), (hf_75.sI _ (fun _ => (Or.inl ⟨rfl, rfl⟩)))⟩
    · skip
      refine j_iconst (v := (-1)) C dX11_print_12 (by decide) ?_
      exact j_iret C M dX11_print_13 (by decide) (by decide) ⟨(congrArg (fun z9 => some (Value.int z9)) (by unfold an_print; first | (rw [if_neg c_2, if_pos c_9]) | (rw [if_neg c_2, if_neg c_9]) | (rw [if_pos c_2]))), (Fm.refl (WI := (fun f9 b9 => (f9 = 1105 ∧ b9 = h) ∨ (f9 = 1109 ∧ b9 = h) ∨ (f9 = 1110 ∧ b9 = h) ∨ (f9 = 1111 ∧ b9 = h) ∨ (f9 = 601 ∧ b9 = g) ∨ (f9 = 602 ∧ b9 = g) ∨ (f9 = 603 ∧ b9 = g) ∨ (f9 = 916 ∧ b9 = w) ∨ (f9 = 2 ∧ b9 = c0) ∨ (f9 = 3 ∧ b9 = c0) ∨ (f9 = 4 ∧ b9 = c0) ∨ (f9 = 5 ∧ b9 = c0))) (WR := (fun _ _ => False)) (WA := (fun b9 => b9 = d0)))⟩

theorem dX11_fault_0 : decode cX11_fault 0 = .ok (.iload_n 1, 1) := by decide +kernel
theorem dX11_fault_1 : decode cX11_fault 1 = .ok (.tableswitch 42 0 2 #[27, 32, 37], 27) := by decide +kernel
theorem dX11_fault_28 : decode cX11_fault 28 = .ok (.aload_n 0, 1) := by decide +kernel
theorem dX11_fault_29 : decode cX11_fault 29 = .ok (.getfield 69, 3) := by decide +kernel
theorem dX11_fault_32 : decode cX11_fault 32 = .ok (.ireturn, 1) := by decide +kernel
theorem dX11_fault_33 : decode cX11_fault 33 = .ok (.aload_n 0, 1) := by decide +kernel
theorem dX11_fault_34 : decode cX11_fault 34 = .ok (.getfield 23, 3) := by decide +kernel
theorem dX11_fault_37 : decode cX11_fault 37 = .ok (.ireturn, 1) := by decide +kernel
theorem dX11_fault_38 : decode cX11_fault 38 = .ok (.aload_n 0, 1) := by decide +kernel
theorem dX11_fault_39 : decode cX11_fault 39 = .ok (.getfield 27, 3) := by decide +kernel
theorem dX11_fault_42 : decode cX11_fault 42 = .ok (.ireturn, 1) := by decide +kernel
theorem dX11_fault_43 : decode cX11_fault 43 = .ok (.iconst (-1), 1) := by decide +kernel
theorem dX11_fault_44 : decode cX11_fault 44 = .ok (.ireturn, 1) := by decide +kernel
set_option maxRecDepth 100000 in
set_option maxHeartbeats 4000000 in
theorem c_X11_fault (S : Hp) (h : Nat) (hm : h ∈ hL S) (hk : hK S h = 11) (i0 : hI S 1109 h = 0) (i1 : hI S 1110 h = (-1)) (i2 : hI S 1111 h = (-1)) (w0 : Int32) : Ct 1 yX11_fault cX11_fault 2 (some .int) 0 0 [.ref h, .int w0] S (fun r S' => r = some (.int (an_fault w0)) ∧ Fm (fun _ _ => False) (fun _ _ => False) (fun _ => False) S S') := by
  refine ct_of (by decide) (Nat.le_of_ble_eq_true rfl) fun x hn9 C M hm9 => ?_
  have C : CB x RX11 cX11_fault := C
  refine J.eq (lv' := [(0, .ref h), (1, .int w0)]) rfl rfl rfl ?_
  refine j_iload_n C dX11_fault_0 rfl 1 rfl ?_
  by_cases hs_1_0 : w0 = 0
  · skip
    subst hs_1_0
    refine j_tabIn (off := 27) (tgt := 28) C dX11_fault_1 (by decide) (by decide) (by decide) (by decide) ?_
    refine j_aload_n C dX11_fault_28 rfl 0 rfl ?_
    refine j_geti (f := 1109) (v := 0) C flX11_69 dX11_fault_29 hm hk (by decide) (by decide) rfl i0 ?_
    exact j_iret C M dX11_fault_32 (by decide) (by decide) ⟨rfl, (Fm.refl (WI := (fun _ _ => False)) (WR := (fun _ _ => False)) (WA := (fun _ => False)))⟩
  by_cases hs_1_1 : w0 = 1
  · skip
    subst hs_1_1
    refine j_tabIn (off := 32) (tgt := 33) C dX11_fault_1 (by decide) (by decide) (by decide) (by decide) ?_
    refine j_aload_n C dX11_fault_33 rfl 0 rfl ?_
    refine j_geti (f := 1110) (v := (-1)) C flX11_23 dX11_fault_34 hm hk (by decide) (by decide) rfl i1 ?_
    exact j_iret C M dX11_fault_37 (by decide) (by decide) ⟨rfl, (Fm.refl (WI := (fun _ _ => False)) (WR := (fun _ _ => False)) (WA := (fun _ => False)))⟩
  by_cases hs_1_2 : w0 = 2
  · skip
    subst hs_1_2
    refine j_tabIn (off := 37) (tgt := 38) C dX11_fault_1 (by decide) (by decide) (by decide) (by decide) ?_
    refine j_aload_n C dX11_fault_38 rfl 0 rfl ?_
    refine j_geti (f := 1111) (v := (-1)) C flX11_27 dX11_fault_39 hm hk (by decide) (by decide) rfl i2 ?_
    exact j_iret C M dX11_fault_42 (by decide) (by decide) ⟨rfl, (Fm.refl (WI := (fun _ _ => False)) (WR := (fun _ _ => False)) (WA := (fun _ => False)))⟩
  refine j_tabOut (tgt := 43) C dX11_fault_1 (by have t09 : (w0).toInt ≠ 0 := ne_toInt hs_1_0 (by decide); have t19 : (w0).toInt ≠ 1 := ne_toInt hs_1_1 (by decide); have t29 : (w0).toInt ≠ 2 := ne_toInt hs_1_2 (by decide); omega) (by decide) ?_
  show J _ _ _ _ _ 43 _
  refine j_iconst (v := (-1)) C dX11_fault_43 (by decide) ?_
  exact j_iret C M dX11_fault_44 (by decide) (by decide) ⟨(congrArg (fun z9 => some (Value.int z9)) (by unfold an_fault; simp [hs_1_0, hs_1_1, hs_1_2])), (Fm.refl (WI := (fun _ _ => False)) (WR := (fun _ _ => False)) (WA := (fun _ => False)))⟩

theorem dX11_outs_0 : decode cX11_outs 0 = .ok (.aload_n 0, 1) := by decide +kernel
theorem dX11_outs_1 : decode cX11_outs 1 = .ok (.getfield 33, 3) := by decide +kernel
theorem dX11_outs_4 : decode cX11_outs 4 = .ok (.getfield 99, 3) := by decide +kernel
theorem dX11_outs_7 : decode cX11_outs 7 = .ok (.ireturn, 1) := by decide +kernel
set_option maxRecDepth 100000 in
set_option maxHeartbeats 4000000 in
theorem c_X11_outs (S : Hp) (h : Nat) (hm : h ∈ hL S) (hk : hK S h = 11) (g : Nat) (rg : hR S 1106 h = some g) (mg : g ∈ hL S) (kg : Kd S g 6) (i0 : hI S 601 g = 0) : Ct 1 yX11_outs cX11_outs 1 (some .int) 0 0 [.ref h] S (fun r S' => r = some (.int 0) ∧ Fm (fun _ _ => False) (fun _ _ => False) (fun _ => False) S S') := by
  refine ct_of (by decide) (Nat.le_of_ble_eq_true rfl) fun x hn9 C M hm9 => ?_
  have C : CB x RX11 cX11_outs := C
  refine J.eq (lv' := [(0, .ref h)]) rfl rfl rfl ?_
  refine j_aload_n C dX11_outs_0 rfl 0 rfl ?_
  refine j_getr (f := 1106) (v := g) C flX11_33 dX11_outs_1 hm hk (by decide) rfl rg ?_
  refine j_geti (f := 601) (v := 0) C flX11_99 dX11_outs_4 mg kg (by decide) (by decide) rfl i0 ?_
  exact j_iret C M dX11_outs_7 (by decide) (by decide) ⟨rfl, (Fm.refl (WI := (fun _ _ => False)) (WR := (fun _ _ => False)) (WA := (fun _ => False)))⟩

theorem dX11_out_0 : decode cX11_out 0 = .ok (.aload_n 0, 1) := by decide +kernel
theorem dX11_out_1 : decode cX11_out 1 = .ok (.getfield 33, 3) := by decide +kernel
theorem dX11_out_4 : decode cX11_out 4 = .ok (.iload_n 1, 1) := by decide +kernel
theorem dX11_out_5 : decode cX11_out 5 = .ok (.invokevirtual 102, 3) := by decide +kernel
theorem dX11_out_8 : decode cX11_out 8 = .ok (.ireturn, 1) := by decide +kernel
set_option maxRecDepth 100000 in
set_option maxHeartbeats 4000000 in
theorem c_X11_out (S : Hp) (h : Nat) (hm : h ∈ hL S) (hk : hK S h = 11) (g : Nat) (rg : hR S 1106 h = some g) (mg : g ∈ hL S) (kg : Kd S g 6) (b0 : Nat) (rb0 : hR S 600 g = some b0) (mb0 : b0 ∈ hL S) (kb0 : Kd S b0 13) (lb0 : Ln S b0 60000) (i0 : hI S 601 g = 0) (w0 : Int32) : Ct 2 yX11_out cX11_out 2 (some .int) 0 0 [.ref h, .int w0] S (fun r S' => r = some (.int (-1)) ∧ Fm (fun _ _ => False) (fun _ _ => False) (fun _ => False) S S') := by
  refine ct_of (by decide) (Nat.le_of_ble_eq_true rfl) fun x hn9 C M hm9 => ?_
  have C : CB x RX11 cX11_out := C
  refine J.eq (lv' := [(0, .ref h), (1, .int w0)]) rfl rfl rfl ?_
  refine j_aload_n C dX11_out_0 rfl 0 rfl ?_
  refine j_getr (f := 1106) (v := g) C flX11_33 dX11_out_1 hm hk (by decide) rfl rg ?_
  refine j_iload_n C dX11_out_4 rfl 1 rfl ?_
  refine j_callV (ci := 6) C [.int w0] [] mlX11_102 mcX6_byteAt (c_X6_byteAt S g mg kg b0 rb0 mb0 kb0 lb0 i0 w0) mg kg rfl (M.rm (by decide) (by decide) (Nat.le_of_ble_eq_true rfl) (Nat.le_of_ble_eq_true rfl)) rfl rfl (Nat.le_of_ble_eq_true rfl) dX11_out_5 (fun r_1 S_2 hp_3 => ?_)
  obtain ⟨rfl, hf_4⟩ := hp_3
  refine J.eq (st' := [.int (-1)]) rfl rfl rfl ?_
  have hm_5 : b0 ∈ hL S_2 := hf_4.mem mb0
  have hk_6 : Kd S_2 b0 13 := hf_4.kd mb0 kb0
  have hn_7 : Ln S_2 b0 60000 := hf_4.ln mb0 lb0
  have hm_8 : g ∈ hL S_2 := hf_4.mem mg
  have hk_9 : Kd S_2 g 6 := hf_4.kd mg kg
  have hm_10 : h ∈ hL S_2 := hf_4.mem hm
  have hk_11 : Kd S_2 h 11 := hf_4.kd hm hk
  have hv_12 : hI S_2 601 g = 0 := hf_4.fi mg (fun h9 => h9) i0
  have hv_13 : hR S_2 1106 h = (some g) := hf_4.fr hm (fun h9 => h9) rg
  have hv_14 : hR S_2 600 g = (some b0) := hf_4.fr mg (fun h9 => h9) rb0
  have hf_15 : Fm (fun _ _ => False) (fun _ _ => False) (fun _ => False) S S_2 := (Fm.refl (WI := (fun _ _ => False)) (WR := (fun _ _ => False)) (WA := (fun _ => False))).then hf_4 (fun a9 ha9 => ⟨(fun f9 h9 => h9.elim), (fun f9 h9 => h9.elim), (fun h9 => h9.elim)⟩)
  exact j_iret C M dX11_out_8 (Nat.le_of_ble_eq_true rfl) (Nat.le_of_ble_eq_true rfl) ⟨rfl, hf_15⟩

theorem dX11_sum_0 : decode cX11_sum 0 = .ok (.aload_n 0, 1) := by decide +kernel
theorem dX11_sum_1 : decode cX11_sum 1 = .ok (.getfield 33, 3) := by decide +kernel
theorem dX11_sum_4 : decode cX11_sum 4 = .ok (.invokevirtual 106, 3) := by decide +kernel
theorem dX11_sum_7 : decode cX11_sum 7 = .ok (.ireturn, 1) := by decide +kernel
set_option maxRecDepth 100000 in
set_option maxHeartbeats 4000000 in
theorem c_X11_sum (S : Hp) (h : Nat) (hm : h ∈ hL S) (hk : hK S h = 11) (g : Nat) (rg : hR S 1106 h = some g) (mg : g ∈ hL S) (kg : Kd S g 6) (b0 : Nat) (rb0 : hR S 600 g = some b0) (mb0 : b0 ∈ hL S) (kb0 : Kd S b0 13) (lb0 : Ln S b0 60000) (i0 : hI S 601 g = 0) : Ct 2 yX11_sum cX11_sum 1 (some .int) 0 0 [.ref h] S (fun r S' => r = some (.int 0) ∧ Fm (fun _ _ => False) (fun _ _ => False) (fun _ => False) S S') := by
  refine ct_of (by decide) (Nat.le_of_ble_eq_true rfl) fun x hn9 C M hm9 => ?_
  have C : CB x RX11 cX11_sum := C
  refine J.eq (lv' := [(0, .ref h)]) rfl rfl rfl ?_
  refine j_aload_n C dX11_sum_0 rfl 0 rfl ?_
  refine j_getr (f := 1106) (v := g) C flX11_33 dX11_sum_1 hm hk (by decide) rfl rg ?_
  refine j_callV (ci := 6) C [] [] mlX11_106 mcX6_sumOfBytes (c_X6_sumOfBytes S g mg kg b0 rb0 mb0 kb0 lb0 i0) mg kg rfl (M.rm (by decide) (by decide) (Nat.le_of_ble_eq_true rfl) (Nat.le_of_ble_eq_true rfl)) rfl rfl (Nat.le_of_ble_eq_true rfl) dX11_sum_4 (fun r_1 S_2 hp_3 => ?_)
  obtain ⟨rfl, hf_4⟩ := hp_3
  refine J.eq (st' := [.int 0]) rfl rfl rfl ?_
  have hm_5 : b0 ∈ hL S_2 := hf_4.mem mb0
  have hk_6 : Kd S_2 b0 13 := hf_4.kd mb0 kb0
  have hn_7 : Ln S_2 b0 60000 := hf_4.ln mb0 lb0
  have hm_8 : g ∈ hL S_2 := hf_4.mem mg
  have hk_9 : Kd S_2 g 6 := hf_4.kd mg kg
  have hm_10 : h ∈ hL S_2 := hf_4.mem hm
  have hk_11 : Kd S_2 h 11 := hf_4.kd hm hk
  have hv_12 : hI S_2 601 g = 0 := hf_4.fi mg (fun h9 => h9) i0
  have hv_13 : hR S_2 1106 h = (some g) := hf_4.fr hm (fun h9 => h9) rg
  have hv_14 : hR S_2 600 g = (some b0) := hf_4.fr mg (fun h9 => h9) rb0
  have hf_15 : Fm (fun _ _ => False) (fun _ _ => False) (fun _ => False) S S_2 := (Fm.refl (WI := (fun _ _ => False)) (WR := (fun _ _ => False)) (WA := (fun _ => False))).then hf_4 (fun a9 ha9 => ⟨(fun f9 h9 => h9.elim), (fun f9 h9 => h9.elim), (fun h9 => h9.elim)⟩)
  exact j_iret C M dX11_sum_7 (Nat.le_of_ble_eq_true rfl) (Nat.le_of_ble_eq_true rfl) ⟨rfl, hf_15⟩

theorem dX11_take_0 : decode cX11_take 0 = .ok (.aload_n 0, 1) := by decide +kernel
theorem dX11_take_1 : decode cX11_take 1 = .ok (.getfield 33, 3) := by decide +kernel
theorem dX11_take_4 : decode cX11_take 4 = .ok (.getfield 99, 3) := by decide +kernel
theorem dX11_take_7 : decode cX11_take 7 = .ok (.istore_n 1, 1) := by decide +kernel
theorem dX11_take_8 : decode cX11_take 8 = .ok (.iload_n 1, 1) := by decide +kernel
theorem dX11_take_9 : decode cX11_take 9 = .ok (.sipush 8000, 3) := by decide +kernel
theorem dX11_take_12 : decode cX11_take 12 = .ok (.if_icmp .le 5, 3) := by decide +kernel
theorem dX11_take_15 : decode cX11_take 15 = .ok (.iconst (-1), 1) := by decide +kernel
theorem dX11_take_16 : decode cX11_take 16 = .ok (.ireturn, 1) := by decide +kernel
theorem dX11_take_17 : decode cX11_take 17 = .ok (.aload_n 0, 1) := by decide +kernel
theorem dX11_take_18 : decode cX11_take 18 = .ok (.getfield 33, 3) := by decide +kernel
theorem dX11_take_21 : decode cX11_take 21 = .ok (.getfield 110, 3) := by decide +kernel
theorem dX11_take_24 : decode cX11_take 24 = .ok (.iconst 0, 1) := by decide +kernel
theorem dX11_take_25 : decode cX11_take 25 = .ok (.aload_n 0, 1) := by decide +kernel
theorem dX11_take_26 : decode cX11_take 26 = .ok (.getfield 9, 3) := by decide +kernel
theorem dX11_take_29 : decode cX11_take 29 = .ok (.iconst 0, 1) := by decide +kernel
theorem dX11_take_30 : decode cX11_take 30 = .ok (.iload_n 1, 1) := by decide +kernel
theorem dX11_take_31 : decode cX11_take 31 = .ok (.invokestatic 63, 3) := by decide +kernel
theorem dX11_take_34 : decode cX11_take 34 = .ok (.aload_n 0, 1) := by decide +kernel
theorem dX11_take_35 : decode cX11_take 35 = .ok (.iload_n 1, 1) := by decide +kernel
theorem dX11_take_36 : decode cX11_take 36 = .ok (.putfield 53, 3) := by decide +kernel
theorem dX11_take_39 : decode cX11_take 39 = .ok (.aload_n 0, 1) := by decide +kernel
theorem dX11_take_40 : decode cX11_take 40 = .ok (.getfield 53, 3) := by decide +kernel
theorem dX11_take_43 : decode cX11_take 43 = .ok (.ireturn, 1) := by decide +kernel
set_option maxRecDepth 100000 in
set_option maxHeartbeats 4000000 in
theorem c_X11_take (S : Hp) (h : Nat) (hm : h ∈ hL S) (hk : hK S h = 11) (t : Nat) (rt : hR S 1100 h = some t) (mt : t ∈ hL S) (kt : Kd S t 13) (lt : Ln S t 8000) (g : Nat) (rg : hR S 1106 h = some g) (mg : g ∈ hL S) (kg : Kd S g 6) (b0 : Nat) (rb0 : hR S 600 g = some b0) (mb0 : b0 ∈ hL S) (kb0 : Kd S b0 13) (lb0 : Ln S b0 60000) (i0 : hI S 601 g = 0) : Ct 1 yX11_take cX11_take 2 (some .int) 0 0 [.ref h] S (fun r S' => r = some (.int 0) ∧ Fm (fun f9 b9 => (f9 = 1101 ∧ b9 = h)) (fun _ _ => False) (fun b9 => b9 = t) S S') := by
  refine ct_of (by decide) (Nat.le_of_ble_eq_true rfl) fun x hn9 C M hm9 => ?_
  have C : CB x RX11 cX11_take := C
  refine J.eq (lv' := [(0, .ref h)]) rfl rfl rfl ?_
  refine j_aload_n C dX11_take_0 rfl 0 rfl ?_
  refine j_getr (f := 1106) (v := g) C flX11_33 dX11_take_1 hm hk (by decide) rfl rg ?_
  refine j_geti (f := 601) (v := 0) C flX11_99 dX11_take_4 mg kg (by decide) (by decide) rfl i0 ?_
  refine j_istore_n (lv' := [(1, .int 0), (0, .ref h)]) C dX11_take_7 rfl (by rw [hn9]; decide) rfl ?_
  refine j_iload_n C dX11_take_8 rfl 0 rfl ?_
  refine j_sipush (v := 8000) C dX11_take_9 (by decide) ?_
  refine j_ic_le (tgt := 17) C dX11_take_12 (by decide) (fun c9 => ?_) (fun c9 => absurd (by decide) c9)
  refine j_aload_n C dX11_take_17 rfl 1 rfl ?_
  show J _ _ _ _ _ 18 _
  refine j_getr (f := 1106) (v := g) C flX11_33 dX11_take_18 hm hk (by decide) rfl rg ?_
  refine j_getr (f := 600) (v := b0) C flX11_110 dX11_take_21 mg kg (by decide) rfl rb0 ?_
  refine j_iconst (v := 0) C dX11_take_24 (by decide) ?_
  refine j_aload_n C dX11_take_25 rfl 1 rfl ?_
  refine j_getr (f := 1100) (v := t) C flX11_9 dX11_take_26 hm hk (by decide) rfl rt ?_
  refine j_iconst (v := 0) C dX11_take_29 (by decide) ?_
  refine j_iload_n C dX11_take_30 rfl 0 rfl ?_
  refine j_copy (kd := 13) (ty := .byte) (p0 := 0) (p1 := 0) (m0 := 0) C mlX11_63 (by decide) mb0 kb0 lb0 mt kt lt (by decide) (by decide) (by decide) (by decide) (by decide) (by decide) (by decide) (by decide) (fun i h => absurd h (Nat.not_lt_zero i)) (M.fl (by decide)) dX11_take_31 ?_
  show J _ _ _ _ _ 34 _
  refine j_aload_n C dX11_take_34 rfl 1 rfl ?_
  refine j_iload_n C dX11_take_35 rfl 0 rfl ?_
  refine j_puti (f := 1101) C flX11_53 (by decide) rfl rfl dX11_take_36 hm hk rfl ?_
  refine j_aload_n C dX11_take_39 rfl 1 rfl ?_
  refine j_geti (f := 1101) (v := 0) C flX11_53 dX11_take_40 hm hk (by decide) (by decide) rfl (rd_sI (S := (rI S t (va_cpy (aI S b0) (aI S t) 0 0 0))) (g := 1101) (a := h) (v := 0)) ?_
  exact j_iret C M dX11_take_43 (by decide) (by decide) ⟨rfl, (((Fm.refl (WI := (fun f9 b9 => (f9 = 1101 ∧ b9 = h))) (WR := (fun _ _ => False)) (WA := (fun b9 => b9 = t))).rI _ (fun _ => rfl)).sI _ (fun _ => ⟨rfl, rfl⟩))⟩

theorem dX11_pages_0 : decode cX11_pages 0 = .ok (.aload_n 0, 1) := by decide +kernel
theorem dX11_pages_1 : decode cX11_pages 1 = .ok (.getfield 33, 3) := by decide +kernel
theorem dX11_pages_4 : decode cX11_pages 4 = .ok (.getfield 93, 3) := by decide +kernel
theorem dX11_pages_7 : decode cX11_pages 7 = .ok (.ireturn, 1) := by decide +kernel
set_option maxRecDepth 100000 in
set_option maxHeartbeats 4000000 in
theorem c_X11_pages (S : Hp) (h : Nat) (hm : h ∈ hL S) (hk : hK S h = 11) (g : Nat) (rg : hR S 1106 h = some g) (mg : g ∈ hL S) (kg : Kd S g 6) (i0 : hI S 602 g = 0) : Ct 1 yX11_pages cX11_pages 1 (some .int) 0 0 [.ref h] S (fun r S' => r = some (.int 0) ∧ Fm (fun _ _ => False) (fun _ _ => False) (fun _ => False) S S') := by
  refine ct_of (by decide) (Nat.le_of_ble_eq_true rfl) fun x hn9 C M hm9 => ?_
  have C : CB x RX11 cX11_pages := C
  refine J.eq (lv' := [(0, .ref h)]) rfl rfl rfl ?_
  refine j_aload_n C dX11_pages_0 rfl 0 rfl ?_
  refine j_getr (f := 1106) (v := g) C flX11_33 dX11_pages_1 hm hk (by decide) rfl rg ?_
  refine j_geti (f := 602) (v := 0) C flX11_93 dX11_pages_4 mg kg (by decide) (by decide) rfl i0 ?_
  exact j_iret C M dX11_pages_7 (by decide) (by decide) ⟨rfl, (Fm.refl (WI := (fun _ _ => False)) (WR := (fun _ _ => False)) (WA := (fun _ => False)))⟩

theorem dX11_width_0 : decode cX11_width 0 = .ok (.aload_n 0, 1) := by decide +kernel
theorem dX11_width_1 : decode cX11_width 1 = .ok (.getfield 33, 3) := by decide +kernel
theorem dX11_width_4 : decode cX11_width 4 = .ok (.iload_n 1, 1) := by decide +kernel
theorem dX11_width_5 : decode cX11_width 5 = .ok (.invokevirtual 113, 3) := by decide +kernel
theorem dX11_width_8 : decode cX11_width 8 = .ok (.ifCond .eq 15, 3) := by decide +kernel
theorem dX11_width_11 : decode cX11_width 11 = .ok (.aload_n 0, 1) := by decide +kernel
theorem dX11_width_12 : decode cX11_width 12 = .ok (.getfield 33, 3) := by decide +kernel
theorem dX11_width_15 : decode cX11_width 15 = .ok (.getfield 117, 3) := by decide +kernel
theorem dX11_width_18 : decode cX11_width 18 = .ok (.iload_n 1, 1) := by decide +kernel
theorem dX11_width_19 : decode cX11_width 19 = .ok (.iaload, 1) := by decide +kernel
theorem dX11_width_20 : decode cX11_width 20 = .ok (.goto 4, 3) := by decide +kernel
theorem dX11_width_23 : decode cX11_width 23 = .ok (.iconst (-1), 1) := by decide +kernel
theorem dX11_width_24 : decode cX11_width 24 = .ok (.ireturn, 1) := by decide +kernel
set_option maxRecDepth 100000 in
set_option maxHeartbeats 4000000 in
theorem c_X11_width (S : Hp) (h : Nat) (hm : h ∈ hL S) (hk : hK S h = 11) (g : Nat) (rg : hR S 1106 h = some g) (mg : g ∈ hL S) (kg : Kd S g 6) (i0 : hI S 602 g = 0) (w0 : Int32) : Ct 2 yX11_width cX11_width 2 (some .int) 0 0 [.ref h, .int w0] S (fun r S' => r = some (.int (-1)) ∧ Fm (fun _ _ => False) (fun _ _ => False) (fun _ => False) S S') := by
  refine ct_of (by decide) (Nat.le_of_ble_eq_true rfl) fun x hn9 C M hm9 => ?_
  have C : CB x RX11 cX11_width := C
  refine J.eq (lv' := [(0, .ref h), (1, .int w0)]) rfl rfl rfl ?_
  refine j_aload_n C dX11_width_0 rfl 0 rfl ?_
  refine j_getr (f := 1106) (v := g) C flX11_33 dX11_width_1 hm hk (by decide) rfl rg ?_
  refine j_iload_n C dX11_width_4 rfl 1 rfl ?_
  refine j_callV (ci := 6) C [.int w0] [] mlX11_113 mcX6_hasPage (c_X6_hasPage S g mg kg i0 w0) mg kg rfl (M.rm (by decide) (by decide) (Nat.le_of_ble_eq_true rfl) (Nat.le_of_ble_eq_true rfl)) rfl rfl (Nat.le_of_ble_eq_true rfl) dX11_width_5 (fun r_1 S_2 hp_3 => ?_)
  obtain ⟨rfl, hf_4⟩ := hp_3
  refine J.eq (st' := [.int 0]) rfl rfl rfl ?_
  have hm_5 : g ∈ hL S_2 := hf_4.mem mg
  have hk_6 : Kd S_2 g 6 := hf_4.kd mg kg
  have hm_7 : h ∈ hL S_2 := hf_4.mem hm
  have hk_8 : Kd S_2 h 11 := hf_4.kd hm hk
  have hv_9 : hI S_2 602 g = 0 := hf_4.fi mg (fun h9 => h9) i0
  have hv_10 : hR S_2 1106 h = (some g) := hf_4.fr hm (fun h9 => h9) rg
  have hf_11 : Fm (fun _ _ => False) (fun _ _ => False) (fun _ => False) S S_2 := (Fm.refl (WI := (fun _ _ => False)) (WR := (fun _ _ => False)) (WA := (fun _ => False))).then hf_4 (fun a9 ha9 => ⟨(fun f9 h9 => h9.elim), (fun f9 h9 => h9.elim), (fun h9 => h9.elim)⟩)
  refine j_if_eq (tgt := 23) C dX11_width_8 (by decide) (fun c9 => ?_) (fun c9 => absurd (by decide) c9)
  refine j_iconst (v := (-1)) C dX11_width_23 (by decide) ?_
  exact j_iret C M dX11_width_24 (Nat.le_of_ble_eq_true rfl) (Nat.le_of_ble_eq_true rfl) ⟨rfl, hf_11⟩

theorem dX11_height_0 : decode cX11_height 0 = .ok (.aload_n 0, 1) := by decide +kernel
theorem dX11_height_1 : decode cX11_height 1 = .ok (.getfield 33, 3) := by decide +kernel
theorem dX11_height_4 : decode cX11_height 4 = .ok (.iload_n 1, 1) := by decide +kernel
theorem dX11_height_5 : decode cX11_height 5 = .ok (.invokevirtual 113, 3) := by decide +kernel
theorem dX11_height_8 : decode cX11_height 8 = .ok (.ifCond .eq 15, 3) := by decide +kernel
theorem dX11_height_11 : decode cX11_height 11 = .ok (.aload_n 0, 1) := by decide +kernel
theorem dX11_height_12 : decode cX11_height 12 = .ok (.getfield 33, 3) := by decide +kernel
theorem dX11_height_15 : decode cX11_height 15 = .ok (.getfield 120, 3) := by decide +kernel
theorem dX11_height_18 : decode cX11_height 18 = .ok (.iload_n 1, 1) := by decide +kernel
theorem dX11_height_19 : decode cX11_height 19 = .ok (.iaload, 1) := by decide +kernel
theorem dX11_height_20 : decode cX11_height 20 = .ok (.goto 4, 3) := by decide +kernel
theorem dX11_height_23 : decode cX11_height 23 = .ok (.iconst (-1), 1) := by decide +kernel
theorem dX11_height_24 : decode cX11_height 24 = .ok (.ireturn, 1) := by decide +kernel
set_option maxRecDepth 100000 in
set_option maxHeartbeats 4000000 in
theorem c_X11_height (S : Hp) (h : Nat) (hm : h ∈ hL S) (hk : hK S h = 11) (g : Nat) (rg : hR S 1106 h = some g) (mg : g ∈ hL S) (kg : Kd S g 6) (i0 : hI S 602 g = 0) (w0 : Int32) : Ct 2 yX11_height cX11_height 2 (some .int) 0 0 [.ref h, .int w0] S (fun r S' => r = some (.int (-1)) ∧ Fm (fun _ _ => False) (fun _ _ => False) (fun _ => False) S S') := by
  refine ct_of (by decide) (Nat.le_of_ble_eq_true rfl) fun x hn9 C M hm9 => ?_
  have C : CB x RX11 cX11_height := C
  refine J.eq (lv' := [(0, .ref h), (1, .int w0)]) rfl rfl rfl ?_
  refine j_aload_n C dX11_height_0 rfl 0 rfl ?_
  refine j_getr (f := 1106) (v := g) C flX11_33 dX11_height_1 hm hk (by decide) rfl rg ?_
  refine j_iload_n C dX11_height_4 rfl 1 rfl ?_
  refine j_callV (ci := 6) C [.int w0] [] mlX11_113 mcX6_hasPage (c_X6_hasPage S g mg kg i0 w0) mg kg rfl (M.rm (by decide) (by decide) (Nat.le_of_ble_eq_true rfl) (Nat.le_of_ble_eq_true rfl)) rfl rfl (Nat.le_of_ble_eq_true rfl) dX11_height_5 (fun r_1 S_2 hp_3 => ?_)
  obtain ⟨rfl, hf_4⟩ := hp_3
  refine J.eq (st' := [.int 0]) rfl rfl rfl ?_
  have hm_5 : g ∈ hL S_2 := hf_4.mem mg
  have hk_6 : Kd S_2 g 6 := hf_4.kd mg kg
  have hm_7 : h ∈ hL S_2 := hf_4.mem hm
  have hk_8 : Kd S_2 h 11 := hf_4.kd hm hk
  have hv_9 : hI S_2 602 g = 0 := hf_4.fi mg (fun h9 => h9) i0
  have hv_10 : hR S_2 1106 h = (some g) := hf_4.fr hm (fun h9 => h9) rg
  have hf_11 : Fm (fun _ _ => False) (fun _ _ => False) (fun _ => False) S S_2 := (Fm.refl (WI := (fun _ _ => False)) (WR := (fun _ _ => False)) (WA := (fun _ => False))).then hf_4 (fun a9 ha9 => ⟨(fun f9 h9 => h9.elim), (fun f9 h9 => h9.elim), (fun h9 => h9.elim)⟩)
  refine j_if_eq (tgt := 23) C dX11_height_8 (by decide) (fun c9 => ?_) (fun c9 => absurd (by decide) c9)
  refine j_iconst (v := (-1)) C dX11_height_23 (by decide) ?_
  exact j_iret C M dX11_height_24 (Nat.le_of_ble_eq_true rfl) (Nat.le_of_ble_eq_true rfl) ⟨rfl, hf_11⟩

theorem dX11_dot_0 : decode cX11_dot 0 = .ok (.aload_n 0, 1) := by decide +kernel
theorem dX11_dot_1 : decode cX11_dot 1 = .ok (.getfield 33, 3) := by decide +kernel
theorem dX11_dot_4 : decode cX11_dot 4 = .ok (.iload_n 1, 1) := by decide +kernel
theorem dX11_dot_5 : decode cX11_dot 5 = .ok (.iload_n 3, 1) := by decide +kernel
theorem dX11_dot_6 : decode cX11_dot 6 = .ok (.invokevirtual 123, 3) := by decide +kernel
theorem dX11_dot_9 : decode cX11_dot 9 = .ok (.ifCond .eq 20, 3) := by decide +kernel
theorem dX11_dot_12 : decode cX11_dot 12 = .ok (.iload_n 2, 1) := by decide +kernel
theorem dX11_dot_13 : decode cX11_dot 13 = .ok (.ifCond .lt 16, 3) := by decide +kernel
theorem dX11_dot_16 : decode cX11_dot 16 = .ok (.iload_n 2, 1) := by decide +kernel
theorem dX11_dot_17 : decode cX11_dot 17 = .ok (.aload_n 0, 1) := by decide +kernel
theorem dX11_dot_18 : decode cX11_dot 18 = .ok (.getfield 33, 3) := by decide +kernel
theorem dX11_dot_21 : decode cX11_dot 21 = .ok (.getfield 117, 3) := by decide +kernel
theorem dX11_dot_24 : decode cX11_dot 24 = .ok (.iload_n 1, 1) := by decide +kernel
theorem dX11_dot_25 : decode cX11_dot 25 = .ok (.iaload, 1) := by decide +kernel
theorem dX11_dot_26 : decode cX11_dot 26 = .ok (.if_icmp .lt 5, 3) := by decide +kernel
theorem dX11_dot_29 : decode cX11_dot 29 = .ok (.iconst (-1), 1) := by decide +kernel
theorem dX11_dot_30 : decode cX11_dot 30 = .ok (.ireturn, 1) := by decide +kernel
theorem dX11_dot_31 : decode cX11_dot 31 = .ok (.aload_n 0, 1) := by decide +kernel
theorem dX11_dot_32 : decode cX11_dot 32 = .ok (.getfield 33, 3) := by decide +kernel
theorem dX11_dot_35 : decode cX11_dot 35 = .ok (.getfield 127, 3) := by decide +kernel
theorem dX11_dot_38 : decode cX11_dot 38 = .ok (.iload_n 1, 1) := by decide +kernel
theorem dX11_dot_39 : decode cX11_dot 39 = .ok (.aaload, 1) := by decide +kernel
theorem dX11_dot_40 : decode cX11_dot 40 = .ok (.iload_n 3, 1) := by decide +kernel
theorem dX11_dot_41 : decode cX11_dot 41 = .ok (.bipush 20, 2) := by decide +kernel
theorem dX11_dot_43 : decode cX11_dot 43 = .ok (.imul, 1) := by decide +kernel
theorem dX11_dot_44 : decode cX11_dot 44 = .ok (.iload_n 2, 1) := by decide +kernel
theorem dX11_dot_45 : decode cX11_dot 45 = .ok (.invokestatic 131, 3) := by decide +kernel
theorem dX11_dot_48 : decode cX11_dot 48 = .ok (.ireturn, 1) := by decide +kernel
set_option maxRecDepth 100000 in
set_option maxHeartbeats 4000000 in
theorem c_X11_dot (S : Hp) (h : Nat) (hm : h ∈ hL S) (hk : hK S h = 11) (g : Nat) (rg : hR S 1106 h = some g) (mg : g ∈ hL S) (kg : Kd S g 6) (i0 : hI S 602 g = 0) (w0 : Int32) (w1 : Int32) (w2 : Int32) : Ct 3 yX11_dot cX11_dot 4 (some .int) 0 0 [.ref h, .int w0, .int w1, .int w2] S (fun r S' => r = some (.int (-1)) ∧ Fm (fun _ _ => False) (fun _ _ => False) (fun _ => False) S S') := by
  refine ct_of (by decide) (Nat.le_of_ble_eq_true rfl) fun x hn9 C M hm9 => ?_
  have C : CB x RX11 cX11_dot := C
  refine J.eq (lv' := [(0, .ref h), (1, .int w0), (2, .int w1), (3, .int w2)]) rfl rfl rfl ?_
  refine j_aload_n C dX11_dot_0 rfl 0 rfl ?_
  refine j_getr (f := 1106) (v := g) C flX11_33 dX11_dot_1 hm hk (by decide) rfl rg ?_
  refine j_iload_n C dX11_dot_4 rfl 1 rfl ?_
  refine j_iload_n C dX11_dot_5 rfl 3 rfl ?_
  refine j_callV (ci := 6) C [.int w0, .int w2] [] mlX11_123 mcX6_hasRow (c_X6_hasRow S g mg kg i0 w0 w2) mg kg rfl (M.rm (by decide) (by decide) (Nat.le_of_ble_eq_true rfl) (Nat.le_of_ble_eq_true rfl)) rfl rfl (Nat.le_of_ble_eq_true rfl) dX11_dot_6 (fun r_1 S_2 hp_3 => ?_)
  obtain ⟨rfl, hf_4⟩ := hp_3
  refine J.eq (st' := [.int 0]) rfl rfl rfl ?_
  have hm_5 : g ∈ hL S_2 := hf_4.mem mg
  have hk_6 : Kd S_2 g 6 := hf_4.kd mg kg
  have hm_7 : h ∈ hL S_2 := hf_4.mem hm
  have hk_8 : Kd S_2 h 11 := hf_4.kd hm hk
  have hv_9 : hI S_2 602 g = 0 := hf_4.fi mg (fun h9 => h9) i0
  have hv_10 : hR S_2 1106 h = (some g) := hf_4.fr hm (fun h9 => h9) rg
  have hf_11 : Fm (fun _ _ => False) (fun _ _ => False) (fun _ => False) S S_2 := (Fm.refl (WI := (fun _ _ => False)) (WR := (fun _ _ => False)) (WA := (fun _ => False))).then hf_4 (fun a9 ha9 => ⟨(fun f9 h9 => h9.elim), (fun f9 h9 => h9.elim), (fun h9 => h9.elim)⟩)
  refine j_if_eq (tgt := 29) C dX11_dot_9 (by decide) (fun c9 => ?_) (fun c9 => absurd (by decide) c9)
  refine j_iconst (v := (-1)) C dX11_dot_29 (by decide) ?_
  exact j_iret C M dX11_dot_30 (Nat.le_of_ble_eq_true rfl) (Nat.le_of_ble_eq_true rfl) ⟨rfl, hf_11⟩

theorem dX11_black_0 : decode cX11_black 0 = .ok (.aload_n 0, 1) := by decide +kernel
theorem dX11_black_1 : decode cX11_black 1 = .ok (.getfield 33, 3) := by decide +kernel
theorem dX11_black_4 : decode cX11_black 4 = .ok (.iload_n 1, 1) := by decide +kernel
theorem dX11_black_5 : decode cX11_black 5 = .ok (.iload_n 2, 1) := by decide +kernel
theorem dX11_black_6 : decode cX11_black 6 = .ok (.invokevirtual 123, 3) := by decide +kernel
theorem dX11_black_9 : decode cX11_black 9 = .ok (.ifCond .eq 15, 3) := by decide +kernel
theorem dX11_black_12 : decode cX11_black 12 = .ok (.aload_n 0, 1) := by decide +kernel
theorem dX11_black_13 : decode cX11_black 13 = .ok (.getfield 33, 3) := by decide +kernel
theorem dX11_black_16 : decode cX11_black 16 = .ok (.iload_n 1, 1) := by decide +kernel
theorem dX11_black_17 : decode cX11_black 17 = .ok (.iload_n 2, 1) := by decide +kernel
theorem dX11_black_18 : decode cX11_black 18 = .ok (.invokevirtual 135, 3) := by decide +kernel
theorem dX11_black_21 : decode cX11_black 21 = .ok (.goto 4, 3) := by decide +kernel
theorem dX11_black_24 : decode cX11_black 24 = .ok (.iconst (-1), 1) := by decide +kernel
theorem dX11_black_25 : decode cX11_black 25 = .ok (.ireturn, 1) := by decide +kernel
set_option maxRecDepth 100000 in
set_option maxHeartbeats 4000000 in
theorem c_X11_black (S : Hp) (h : Nat) (hm : h ∈ hL S) (hk : hK S h = 11) (g : Nat) (rg : hR S 1106 h = some g) (mg : g ∈ hL S) (kg : Kd S g 6) (i0 : hI S 602 g = 0) (w0 : Int32) (w1 : Int32) : Ct 3 yX11_black cX11_black 3 (some .int) 0 0 [.ref h, .int w0, .int w1] S (fun r S' => r = some (.int (-1)) ∧ Fm (fun _ _ => False) (fun _ _ => False) (fun _ => False) S S') := by
  refine ct_of (by decide) (Nat.le_of_ble_eq_true rfl) fun x hn9 C M hm9 => ?_
  have C : CB x RX11 cX11_black := C
  refine J.eq (lv' := [(0, .ref h), (1, .int w0), (2, .int w1)]) rfl rfl rfl ?_
  refine j_aload_n C dX11_black_0 rfl 0 rfl ?_
  refine j_getr (f := 1106) (v := g) C flX11_33 dX11_black_1 hm hk (by decide) rfl rg ?_
  refine j_iload_n C dX11_black_4 rfl 1 rfl ?_
  refine j_iload_n C dX11_black_5 rfl 2 rfl ?_
  refine j_callV (ci := 6) C [.int w0, .int w1] [] mlX11_123 mcX6_hasRow (c_X6_hasRow S g mg kg i0 w0 w1) mg kg rfl (M.rm (by decide) (by decide) (Nat.le_of_ble_eq_true rfl) (Nat.le_of_ble_eq_true rfl)) rfl rfl (Nat.le_of_ble_eq_true rfl) dX11_black_6 (fun r_1 S_2 hp_3 => ?_)
  obtain ⟨rfl, hf_4⟩ := hp_3
  refine J.eq (st' := [.int 0]) rfl rfl rfl ?_
  have hm_5 : g ∈ hL S_2 := hf_4.mem mg
  have hk_6 : Kd S_2 g 6 := hf_4.kd mg kg
  have hm_7 : h ∈ hL S_2 := hf_4.mem hm
  have hk_8 : Kd S_2 h 11 := hf_4.kd hm hk
  have hv_9 : hI S_2 602 g = 0 := hf_4.fi mg (fun h9 => h9) i0
  have hv_10 : hR S_2 1106 h = (some g) := hf_4.fr hm (fun h9 => h9) rg
  have hf_11 : Fm (fun _ _ => False) (fun _ _ => False) (fun _ => False) S S_2 := (Fm.refl (WI := (fun _ _ => False)) (WR := (fun _ _ => False)) (WA := (fun _ => False))).then hf_4 (fun a9 ha9 => ⟨(fun f9 h9 => h9.elim), (fun f9 h9 => h9.elim), (fun h9 => h9.elim)⟩)
  refine j_if_eq (tgt := 24) C dX11_black_9 (by decide) (fun c9 => ?_) (fun c9 => absurd (by decide) c9)
  refine j_iconst (v := (-1)) C dX11_black_24 (by decide) ?_
  exact j_iret C M dX11_black_25 (Nat.le_of_ble_eq_true rfl) (Nat.le_of_ble_eq_true rfl) ⟨rfl, hf_11⟩

theorem dX11_state_0 : decode cX11_state 0 = .ok (.aload_n 0, 1) := by decide +kernel
theorem dX11_state_1 : decode cX11_state 1 = .ok (.getfield 42, 3) := by decide +kernel
theorem dX11_state_4 : decode cX11_state 4 = .ok (.iload_n 1, 1) := by decide +kernel
theorem dX11_state_5 : decode cX11_state 5 = .ok (.invokevirtual 139, 3) := by decide +kernel
theorem dX11_state_8 : decode cX11_state 8 = .ok (.ireturn, 1) := by decide +kernel
set_option maxRecDepth 100000 in
set_option maxHeartbeats 4000000 in
theorem c_X11_state (S : Hp) (h : Nat) (hm : h ∈ hL S) (hk : hK S h = 11) (w : Nat) (rw : hR S 1107 h = some w) (mw : w ∈ hL S) (kw : Kd S w 9) (q : Nat) (rq : hR S 917 w = some q) (mq : q ∈ hL S) (kq : Kd S q 14) (lq : Ln S q 12) (i0 : hI S 918 w = 0) (w0 : Int32) : Ct 2 yX11_state cX11_state 2 (some .int) 0 0 [.ref h, .int w0] S (fun r S' => r = some (.int (-1)) ∧ Fm (fun _ _ => False) (fun _ _ => False) (fun _ => False) S S') := by
  refine ct_of (by decide) (Nat.le_of_ble_eq_true rfl) fun x hn9 C M hm9 => ?_
  have C : CB x RX11 cX11_state := C
  refine J.eq (lv' := [(0, .ref h), (1, .int w0)]) rfl rfl rfl ?_
  refine j_aload_n C dX11_state_0 rfl 0 rfl ?_
  refine j_getr (f := 1107) (v := w) C flX11_42 dX11_state_1 hm hk (by decide) rfl rw ?_
  refine j_iload_n C dX11_state_4 rfl 1 rfl ?_
  refine j_callV (ci := 9) C [.int w0] [] mlX11_139 mcX9_lastState (c_X9_lastState S w mw kw q rq mq kq lq i0 w0) mw kw rfl (M.rm (by decide) (by decide) (Nat.le_of_ble_eq_true rfl) (Nat.le_of_ble_eq_true rfl)) rfl rfl (Nat.le_of_ble_eq_true rfl) dX11_state_5 (fun r_1 S_2 hp_3 => ?_)
  obtain ⟨rfl, hf_4⟩ := hp_3
  refine J.eq (st' := [.int (-1)]) rfl rfl rfl ?_
  have hm_5 : h ∈ hL S_2 := hf_4.mem hm
  have hk_6 : Kd S_2 h 11 := hf_4.kd hm hk
  have hm_7 : q ∈ hL S_2 := hf_4.mem mq
  have hk_8 : Kd S_2 q 14 := hf_4.kd mq kq
  have hn_9 : Ln S_2 q 12 := hf_4.ln mq lq
  have hm_10 : w ∈ hL S_2 := hf_4.mem mw
  have hk_11 : Kd S_2 w 9 := hf_4.kd mw kw
  have hv_12 : hI S_2 918 w = 0 := hf_4.fi mw (fun h9 => h9) i0
  have hv_13 : hR S_2 1107 h = (some w) := hf_4.fr hm (fun h9 => h9) rw
  have hv_14 : hR S_2 917 w = (some q) := hf_4.fr mw (fun h9 => h9) rq
  have hf_15 : Fm (fun _ _ => False) (fun _ _ => False) (fun _ => False) S S_2 := (Fm.refl (WI := (fun _ _ => False)) (WR := (fun _ _ => False)) (WA := (fun _ => False))).then hf_4 (fun a9 ha9 => ⟨(fun f9 h9 => h9.elim), (fun f9 h9 => h9.elim), (fun h9 => h9.elim)⟩)
  exact j_iret C M dX11_state_8 (Nat.le_of_ble_eq_true rfl) (Nat.le_of_ble_eq_true rfl) ⟨rfl, hf_15⟩

theorem dX11_held_0 : decode cX11_held 0 = .ok (.aload_n 0, 1) := by decide +kernel
theorem dX11_held_1 : decode cX11_held 1 = .ok (.getfield 42, 3) := by decide +kernel
theorem dX11_held_4 : decode cX11_held 4 = .ok (.iload_n 1, 1) := by decide +kernel
theorem dX11_held_5 : decode cX11_held 5 = .ok (.invokevirtual 142, 3) := by decide +kernel
theorem dX11_held_8 : decode cX11_held 8 = .ok (.ireturn, 1) := by decide +kernel
set_option maxRecDepth 100000 in
set_option maxHeartbeats 4000000 in
theorem c_X11_held (S : Hp) (h : Nat) (hm : h ∈ hL S) (hk : hK S h = 11) (w : Nat) (rw : hR S 1107 h = some w) (mw : w ∈ hL S) (kw : Kd S w 9) (f0 : Nat) (rf0 : hR S 902 w = some f0) (mf0 : f0 ∈ hL S) (kf0 : Kd S f0 2) (s : Nat) (rs : hR S 200 f0 = some s) (ms : s ∈ hL S) (ks : Kd S s 8) (q : Nat) (rq : hR S 800 s = some q) (mq : q ∈ hL S) (kq : Kd S q 14) (lq : Ln S q 16) (zq : ∀ j, aI S q j = 0) (s2 : Nat) (rs2 : hR S 903 w = some s2) (ms2 : s2 ∈ hL S) (ks2 : Kd S s2 8) (q2 : Nat) (rq2 : hR S 800 s2 = some q2) (mq2 : q2 ∈ hL S) (kq2 : Kd S q2 14) (lq2 : Ln S q2 16) (zq2 : ∀ j, aI S q2 j = 0) (s3 : Nat) (rs3 : hR S 906 w = some s3) (ms3 : s3 ∈ hL S) (ks3 : Kd S s3 8) (q3 : Nat) (rq3 : hR S 800 s3 = some q3) (mq3 : q3 ∈ hL S) (kq3 : Kd S q3 14) (lq3 : Ln S q3 16) (zq3 : ∀ j, aI S q3 j = 0) (z : Nat) (rz : hR S 908 w = some z) (mz : z ∈ hL S) (kz : Kd S z 14) (lz : Ln S z 16) (c0 : Nat) (rc0 : hR S 901 w = some c0) (mc0 : c0 ∈ hL S) (kc0 : Kd S c0 0) (i0 : hI S 206 f0 = 0) (i1 : hI S 916 w = 0) (i2 : hI S 3 c0 = 0) (w0 : Int32) : Ct 4 yX11_held cX11_held 2 (some .int) 0 0 [.ref h, .int w0] S (fun r S' => r = some (.int (an_held w0)) ∧ Fm (fun _ _ => False) (fun _ _ => False) (fun _ => False) S S') := by
  refine ct_of (by decide) (Nat.le_of_ble_eq_true rfl) fun x hn9 C M hm9 => ?_
  have C : CB x RX11 cX11_held := C
  refine J.eq (lv' := [(0, .ref h), (1, .int w0)]) rfl rfl rfl ?_
  refine j_aload_n C dX11_held_0 rfl 0 rfl ?_
  refine j_getr (f := 1107) (v := w) C flX11_42 dX11_held_1 hm hk (by decide) rfl rw ?_
  refine j_iload_n C dX11_held_4 rfl 1 rfl ?_
  refine j_callV (ci := 9) C [.int w0] [] mlX11_142 mcX9_number (c_X9_number S w mw kw f0 rf0 mf0 kf0 s rs ms ks q rq mq kq lq zq s2 rs2 ms2 ks2 q2 rq2 mq2 kq2 lq2 zq2 s3 rs3 ms3 ks3 q3 rq3 mq3 kq3 lq3 zq3 z rz mz kz lz c0 rc0 mc0 kc0 i0 i1 i2 w0) mw kw rfl (M.rm (by decide) (by decide) (Nat.le_of_ble_eq_true rfl) (Nat.le_of_ble_eq_true rfl)) rfl rfl (Nat.le_of_ble_eq_true rfl) dX11_held_5 (fun r_1 S_2 hp_3 => ?_)
  obtain ⟨rfl, hf_4⟩ := hp_3
  refine J.eq (st' := [.int (an_held w0)]) rfl rfl rfl ?_
  have hz_5 : ∀ j, aI S_2 q j = 0 := fun j9 => (hf_4.ai mq (fun h9 => h9) j9).trans (zq j9)
  have hz_6 : ∀ j, aI S_2 q2 j = 0 := fun j9 => (hf_4.ai mq2 (fun h9 => h9) j9).trans (zq2 j9)
  have hz_7 : ∀ j, aI S_2 q3 j = 0 := fun j9 => (hf_4.ai mq3 (fun h9 => h9) j9).trans (zq3 j9)
  have hm_8 : c0 ∈ hL S_2 := hf_4.mem mc0
  have hk_9 : Kd S_2 c0 0 := hf_4.kd mc0 kc0
  have hm_10 : f0 ∈ hL S_2 := hf_4.mem mf0
  have hk_11 : Kd S_2 f0 2 := hf_4.kd mf0 kf0
  have hm_12 : h ∈ hL S_2 := hf_4.mem hm
  have hk_13 : Kd S_2 h 11 := hf_4.kd hm hk
  have hm_14 : q ∈ hL S_2 := hf_4.mem mq
  have hk_15 : Kd S_2 q 14 := hf_4.kd mq kq
  have hn_16 : Ln S_2 q 16 := hf_4.ln mq lq
  have hm_17 : q2 ∈ hL S_2 := hf_4.mem mq2
  have hk_18 : Kd S_2 q2 14 := hf_4.kd mq2 kq2
  have hn_19 : Ln S_2 q2 16 := hf_4.ln mq2 lq2
  have hm_20 : q3 ∈ hL S_2 := hf_4.mem mq3
  have hk_21 : Kd S_2 q3 14 := hf_4.kd mq3 kq3
  have hn_22 : Ln S_2 q3 16 := hf_4.ln mq3 lq3
  have hm_23 : s ∈ hL S_2 := hf_4.mem ms
  have hk_24 : Kd S_2 s 8 := hf_4.kd ms ks
  have hm_25 : s2 ∈ hL S_2 := hf_4.mem ms2
  have hk_26 : Kd S_2 s2 8 := hf_4.kd ms2 ks2
  have hm_27 : s3 ∈ hL S_2 := hf_4.mem ms3
  have hk_28 : Kd S_2 s3 8 := hf_4.kd ms3 ks3
  have hm_29 : w ∈ hL S_2 := hf_4.mem mw
  have hk_30 : Kd S_2 w 9 := hf_4.kd mw kw
  have hm_31 : z ∈ hL S_2 := hf_4.mem mz
  have hk_32 : Kd S_2 z 14 := hf_4.kd mz kz
  have hn_33 : Ln S_2 z 16 := hf_4.ln mz lz
  have hv_34 : hI S_2 206 f0 = 0 := hf_4.fi mf0 (fun h9 => h9) i0
  have hv_35 : hI S_2 3 c0 = 0 := hf_4.fi mc0 (fun h9 => h9) i2
  have hv_36 : hI S_2 916 w = 0 := hf_4.fi mw (fun h9 => h9) i1
  have hv_37 : hR S_2 1107 h = (some w) := hf_4.fr hm (fun h9 => h9) rw
  have hv_38 : hR S_2 200 f0 = (some s) := hf_4.fr mf0 (fun h9 => h9) rs
  have hv_39 : hR S_2 800 s = (some q) := hf_4.fr ms (fun h9 => h9) rq
  have hv_40 : hR S_2 800 s2 = (some q2) := hf_4.fr ms2 (fun h9 => h9) rq2
  have hv_41 : hR S_2 800 s3 = (some q3) := hf_4.fr ms3 (fun h9 => h9) rq3
  have hv_42 : hR S_2 901 w = (some c0) := hf_4.fr mw (fun h9 => h9) rc0
  have hv_43 : hR S_2 902 w = (some f0) := hf_4.fr mw (fun h9 => h9) rf0
  have hv_44 : hR S_2 903 w = (some s2) := hf_4.fr mw (fun h9 => h9) rs2
  have hv_45 : hR S_2 906 w = (some s3) := hf_4.fr mw (fun h9 => h9) rs3
  have hv_46 : hR S_2 908 w = (some z) := hf_4.fr mw (fun h9 => h9) rz
  have hf_47 : Fm (fun _ _ => False) (fun _ _ => False) (fun _ => False) S S_2 := (Fm.refl (WI := (fun _ _ => False)) (WR := (fun _ _ => False)) (WA := (fun _ => False))).then hf_4 (fun a9 ha9 => ⟨(fun f9 h9 => h9.elim), (fun f9 h9 => h9.elim), (fun h9 => h9.elim)⟩)
  exact j_iret C M dX11_held_8 (Nat.le_of_ble_eq_true rfl) (Nat.le_of_ble_eq_true rfl) ⟨rfl, hf_47⟩

theorem dX11_off_0 : decode cX11_off 0 = .ok (.aload_n 0, 1) := by decide +kernel
theorem dX11_off_1 : decode cX11_off 1 = .ok (.getfield 42, 3) := by decide +kernel
theorem dX11_off_4 : decode cX11_off 4 = .ok (.invokevirtual 145, 3) := by decide +kernel
theorem dX11_off_7 : decode cX11_off 7 = .ok (.ireturn, 1) := by decide +kernel
set_option maxRecDepth 100000 in
set_option maxHeartbeats 4000000 in
theorem c_X11_off (S : Hp) (h : Nat) (hm : h ∈ hL S) (hk : hK S h = 11) (w : Nat) (rw : hR S 1107 h = some w) (mw : w ∈ hL S) (kw : Kd S w 9) (f0 : Nat) (rf0 : hR S 902 w = some f0) (mf0 : f0 ∈ hL S) (kf0 : Kd S f0 2) (s : Nat) (rs : hR S 200 f0 = some s) (ms : s ∈ hL S) (ks : Kd S s 8) (q : Nat) (rq : hR S 800 s = some q) (mq : q ∈ hL S) (kq : Kd S q 14) (lq : Ln S q 16) (zq : ∀ j, aI S q j = 0) (s2 : Nat) (rs2 : hR S 903 w = some s2) (ms2 : s2 ∈ hL S) (ks2 : Kd S s2 8) (q2 : Nat) (rq2 : hR S 800 s2 = some q2) (mq2 : q2 ∈ hL S) (kq2 : Kd S q2 14) (lq2 : Ln S q2 16) (zq2 : ∀ j, aI S q2 j = 0) (s3 : Nat) (rs3 : hR S 906 w = some s3) (ms3 : s3 ∈ hL S) (ks3 : Kd S s3 8) (q3 : Nat) (rq3 : hR S 800 s3 = some q3) (mq3 : q3 ∈ hL S) (kq3 : Kd S q3 14) (lq3 : Ln S q3 16) (zq3 : ∀ j, aI S q3 j = 0) : Ct 5 yX11_off cX11_off 1 (some .int) 0 0 [.ref h] S (fun r S' => r = some (.int 0) ∧ Fm (fun f9 b9 => (f9 = 209 ∧ b9 = f0)) (fun _ _ => False) (fun b9 => b9 = q2 ∨ b9 = q3) S S') := by
  refine ct_of (by decide) (Nat.le_of_ble_eq_true rfl) fun x hn9 C M hm9 => ?_
  have C : CB x RX11 cX11_off := C
  refine J.eq (lv' := [(0, .ref h)]) rfl rfl rfl ?_
  refine j_aload_n C dX11_off_0 rfl 0 rfl ?_
  refine j_getr (f := 1107) (v := w) C flX11_42 dX11_off_1 hm hk (by decide) rfl rw ?_
  refine j_callV (ci := 9) C [] [] mlX11_145 mcX9_dropAll (c_X9_dropAll S w mw kw f0 rf0 mf0 kf0 s rs ms ks q rq mq kq lq zq s2 rs2 ms2 ks2 q2 rq2 mq2 kq2 lq2 zq2 s3 rs3 ms3 ks3 q3 rq3 mq3 kq3 lq3 zq3) mw kw rfl (M.rm (by decide) (by decide) (Nat.le_of_ble_eq_true rfl) (Nat.le_of_ble_eq_true rfl)) rfl rfl (Nat.le_of_ble_eq_true rfl) dX11_off_4 (fun r_1 S_2 hp_3 => ?_)
  obtain ⟨rfl, hf_4⟩ := hp_3
  refine J.eq (st' := [.int 0]) rfl rfl rfl ?_
  have hm_5 : f0 ∈ hL S_2 := hf_4.mem mf0
  have hk_6 : Kd S_2 f0 2 := hf_4.kd mf0 kf0
  have hm_7 : h ∈ hL S_2 := hf_4.mem hm
  have hk_8 : Kd S_2 h 11 := hf_4.kd hm hk
  have hm_9 : q ∈ hL S_2 := hf_4.mem mq
  have hk_10 : Kd S_2 q 14 := hf_4.kd mq kq
  have hn_11 : Ln S_2 q 16 := hf_4.ln mq lq
  have hm_12 : q2 ∈ hL S_2 := hf_4.mem mq2
  have hk_13 : Kd S_2 q2 14 := hf_4.kd mq2 kq2
  have hn_14 : Ln S_2 q2 16 := hf_4.ln mq2 lq2
  have hm_15 : q3 ∈ hL S_2 := hf_4.mem mq3
  have hk_16 : Kd S_2 q3 14 := hf_4.kd mq3 kq3
  have hn_17 : Ln S_2 q3 16 := hf_4.ln mq3 lq3
  have hm_18 : s ∈ hL S_2 := hf_4.mem ms
  have hk_19 : Kd S_2 s 8 := hf_4.kd ms ks
  have hm_20 : s2 ∈ hL S_2 := hf_4.mem ms2
  have hk_21 : Kd S_2 s2 8 := hf_4.kd ms2 ks2
  have hm_22 : s3 ∈ hL S_2 := hf_4.mem ms3
  have hk_23 : Kd S_2 s3 8 := hf_4.kd ms3 ks3
  have hm_24 : w ∈ hL S_2 := hf_4.mem mw
  have hk_25 : Kd S_2 w 9 := hf_4.kd mw kw
  have hv_26 : hR S_2 1107 h = (some w) := hf_4.fr hm (fun h9 => h9) rw
  have hv_27 : hR S_2 200 f0 = (some s) := hf_4.fr mf0 (fun h9 => h9) rs
  have hv_28 : hR S_2 800 s = (some q) := hf_4.fr ms (fun h9 => h9) rq
  have hv_29 : hR S_2 800 s2 = (some q2) := hf_4.fr ms2 (fun h9 => h9) rq2
  have hv_30 : hR S_2 800 s3 = (some q3) := hf_4.fr ms3 (fun h9 => h9) rq3
  have hv_31 : hR S_2 902 w = (some f0) := hf_4.fr mw (fun h9 => h9) rf0
  have hv_32 : hR S_2 903 w = (some s2) := hf_4.fr mw (fun h9 => h9) rs2
  have hv_33 : hR S_2 906 w = (some s3) := hf_4.fr mw (fun h9 => h9) rs3
  have hf_34 : Fm (fun f9 b9 => (f9 = 209 ∧ b9 = f0)) (fun _ _ => False) (fun b9 => b9 = q2 ∨ b9 = q3) S S_2 := (Fm.refl (WI := (fun f9 b9 => (f9 = 209 ∧ b9 = f0))) (WR := (fun _ _ => False)) (WA := (fun b9 => b9 = q2 ∨ b9 = q3))).then hf_4 (fun a9 ha9 => ⟨(fun f9 h9 => (fun h8 => h8) h9), (fun f9 h9 => h9.elim), (fun h9 => (fun h9 => h9.elim (fun h8 => (Or.inl h8)) (fun h8 => (Or.inr h8))) h9)⟩)
  exact j_iret C M dX11_off_7 (Nat.le_of_ble_eq_true rfl) (Nat.le_of_ble_eq_true rfl) ⟨rfl, hf_34⟩
