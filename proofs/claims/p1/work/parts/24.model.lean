theorem dX12_feed_0 : decode cX12_feed 0 = .ok (.aload_n 0, 1) := by decide +kernel
theorem dX12_feed_1 : decode cX12_feed 1 = .ok (.getfield 146, 3) := by decide +kernel
theorem dX12_feed_4 : decode cX12_feed 4 = .ok (.bipush 20, 2) := by decide +kernel
theorem dX12_feed_6 : decode cX12_feed 6 = .ok (.iadd, 1) := by decide +kernel
theorem dX12_feed_7 : decode cX12_feed 7 = .ok (.sipush 8000, 3) := by decide +kernel
theorem dX12_feed_10 : decode cX12_feed 10 = .ok (.if_icmp .le 5, 3) := by decide +kernel
theorem dX12_feed_13 : decode cX12_feed 13 = .ok (.iconst (-1), 1) := by decide +kernel
theorem dX12_feed_14 : decode cX12_feed 14 = .ok (.ireturn, 1) := by decide +kernel
theorem dX12_feed_15 : decode cX12_feed 15 = .ok (.aload_n 0, 1) := by decide +kernel
theorem dX12_feed_16 : decode cX12_feed 16 = .ok (.iload_n 1, 1) := by decide +kernel
theorem dX12_feed_17 : decode cX12_feed 17 = .ok (.invokevirtual 149, 3) := by decide +kernel
theorem dX12_feed_20 : decode cX12_feed 20 = .ok (.aload_n 0, 1) := by decide +kernel
theorem dX12_feed_21 : decode cX12_feed 21 = .ok (.iload_n 2, 1) := by decide +kernel
theorem dX12_feed_22 : decode cX12_feed 22 = .ok (.invokevirtual 149, 3) := by decide +kernel
theorem dX12_feed_25 : decode cX12_feed 25 = .ok (.aload_n 0, 1) := by decide +kernel
theorem dX12_feed_26 : decode cX12_feed 26 = .ok (.iload_n 3, 1) := by decide +kernel
theorem dX12_feed_27 : decode cX12_feed 27 = .ok (.invokevirtual 149, 3) := by decide +kernel
theorem dX12_feed_30 : decode cX12_feed 30 = .ok (.aload_n 0, 1) := by decide +kernel
theorem dX12_feed_31 : decode cX12_feed 31 = .ok (.iload 4, 2) := by decide +kernel
theorem dX12_feed_33 : decode cX12_feed 33 = .ok (.invokevirtual 149, 3) := by decide +kernel
theorem dX12_feed_36 : decode cX12_feed 36 = .ok (.aload_n 0, 1) := by decide +kernel
theorem dX12_feed_37 : decode cX12_feed 37 = .ok (.iload 5, 2) := by decide +kernel
theorem dX12_feed_39 : decode cX12_feed 39 = .ok (.invokevirtual 149, 3) := by decide +kernel
theorem dX12_feed_42 : decode cX12_feed 42 = .ok (.aload_n 0, 1) := by decide +kernel
theorem dX12_feed_43 : decode cX12_feed 43 = .ok (.getfield 146, 3) := by decide +kernel
theorem dX12_feed_46 : decode cX12_feed 46 = .ok (.ireturn, 1) := by decide +kernel
set_option maxRecDepth 100000 in
set_option maxHeartbeats 4000000 in
theorem c_X12_feed (S : Hp) (h : Nat) (hm : h ∈ hL S) (hk : hK S h = 12) (t : Nat) (rt : hR S 1223 h = some t) (mt : t ∈ hL S) (kt : Kd S t 13) (lt : Ln S t 8000) (i0 : hI S 1224 h = 0) (a1 : Int32) (a2 : Int32) (a3 : Int32) (a4 : Int32) (a5 : Int32) : Ct 2 yX12_feed cX12_feed 6 (some .int) 0 0 [.ref h, .int a1, .int a2, .int a3, .int a4, .int a5] S (fun r S' => r = some (.int 20) ∧ Fm (fun f9 b9 => (f9 = 1224 ∧ b9 = h)) (fun _ _ => False) (fun b9 => b9 = t) S S') := by
  refine ct_of (by decide) (Nat.le_of_ble_eq_true rfl) fun x hn9 C M hm9 => ?_
  have C : CB x RX12 cX12_feed := C
  refine J.eq (lv' := [(0, .ref h), (1, .int a1), (2, .int a2), (3, .int a3), (4, .int a4), (5, .int a5)]) rfl rfl rfl ?_
  refine j_aload_n C dX12_feed_0 rfl 0 rfl ?_
  refine j_geti (f := 1224) (v := 0) C flX12_146 dX12_feed_1 hm hk (by decide) (by decide) rfl i0 ?_
  refine j_bipush (v := 20) C dX12_feed_4 (by decide) ?_
  refine j_iadd (v := 20) C dX12_feed_6 (by decide) ?_
  refine j_sipush (v := 8000) C dX12_feed_7 (by decide) ?_
  refine j_ic_le (tgt := 15) C dX12_feed_10 (by decide) (fun c9 => ?_) (fun c9 => absurd (by decide) c9)
  refine j_aload_n C dX12_feed_15 rfl 0 rfl ?_
  refine j_iload_n C dX12_feed_16 rfl 1 rfl ?_
  show J _ _ _ _ _ 17 _
  refine j_callV (ci := 12) C [.int a1] [] mlX12_149 mcX12_lay (c_X12_lay S h hm hk t rt mt kt lt a1 0 (i0.trans (by decide : (0 : Int32) = nI 0)) (by decide)) hm hk rfl (M.rm (by decide) (by decide) (Nat.le_of_ble_eq_true rfl) (Nat.le_of_ble_eq_true rfl)) rfl rfl (Nat.le_of_ble_eq_true rfl) dX12_feed_17 (fun r_2 S_3 hp_4 => ?_)
  obtain ⟨rfl, hf_5, e_1⟩ := hp_4
  refine J.eq (st' := []) rfl rfl rfl ?_
  have hm_6 : h ∈ hL S_3 := hf_5.mem hm
  have hk_7 : Kd S_3 h 12 := hf_5.kd hm hk
  have hm_8 : t ∈ hL S_3 := hf_5.mem mt
  have hk_9 : Kd S_3 t 13 := hf_5.kd mt kt
  have hn_10 : Ln S_3 t 8000 := hf_5.ln mt lt
  have hv_11 : hR S_3 1223 h = (some t) := hf_5.fr hm (fun h9 => h9) rt
  have hf_12 : Fm (fun f9 b9 => (f9 = 1224 ∧ b9 = h)) (fun _ _ => False) (fun b9 => b9 = t) S S_3 := (Fm.refl (WI := (fun f9 b9 => (f9 = 1224 ∧ b9 = h))) (WR := (fun _ _ => False)) (WA := (fun b9 => b9 = t))).then hf_5 (fun a9 ha9 => ⟨(fun f9 h9 => (fun h8 => h8) h9), (fun f9 h9 => h9.elim), (fun h9 => (fun h8 => h8) h9)⟩)
  refine j_aload_n C dX12_feed_20 rfl 0 rfl ?_
  refine j_iload_n C dX12_feed_21 rfl 2 rfl ?_
  refine j_callV (ci := 12) C [.int a2] [] mlX12_149 mcX12_lay (c_X12_lay S_3 h hm_6 hk_7 t hv_11 hm_8 hk_9 hn_10 a2 4 e_1 (by decide)) hm_6 hk_7 rfl (M.rm (by decide) (by decide) (Nat.le_of_ble_eq_true rfl) (Nat.le_of_ble_eq_true rfl)) rfl rfl (Nat.le_of_ble_eq_true rfl) dX12_feed_22 (fun r_14 S_15 hp_16 => ?_)
  obtain ⟨rfl, hf_17, e_13⟩ := hp_16
  refine J.eq (st' := []) rfl rfl rfl ?_
  have hm_18 : h ∈ hL S_15 := hf_17.mem hm_6
  have hk_19 : Kd S_15 h 12 := hf_17.kd hm_6 hk_7
  have hm_20 : t ∈ hL S_15 := hf_17.mem hm_8
  have hk_21 : Kd S_15 t 13 := hf_17.kd hm_8 hk_9
  have hn_22 : Ln S_15 t 8000 := hf_17.ln hm_8 hn_10
  have hv_23 : hR S_15 1223 h = (some t) := hf_17.fr hm_6 (fun h9 => h9) hv_11
  have hf_24 : Fm (fun f9 b9 => (f9 = 1224 ∧ b9 = h)) (fun _ _ => False) (fun b9 => b9 = t) S S_15 := hf_12.then hf_17 (fun a9 ha9 => ⟨(fun f9 h9 => (fun h8 => h8) h9), (fun f9 h9 => h9.elim), (fun h9 => (fun h8 => h8) h9)⟩)
  refine j_aload_n C dX12_feed_25 rfl 0 rfl ?_
  refine j_iload_n C dX12_feed_26 rfl 3 rfl ?_
  refine j_callV (ci := 12) C [.int a3] [] mlX12_149 mcX12_lay (c_X12_lay S_15 h hm_18 hk_19 t hv_23 hm_20 hk_21 hn_22 a3 8 e_13 (by decide)) hm_18 hk_19 rfl (M.rm (by decide) (by decide) (Nat.le_of_ble_eq_true rfl) (Nat.le_of_ble_eq_true rfl)) rfl rfl (Nat.le_of_ble_eq_true rfl) dX12_feed_27 (fun r_26 S_27 hp_28 => ?_)
  obtain ⟨rfl, hf_29, e_25⟩ := hp_28
  refine J.eq (st' := []) rfl rfl rfl ?_
  have hm_30 : h ∈ hL S_27 := hf_29.mem hm_18
  have hk_31 : Kd S_27 h 12 := hf_29.kd hm_18 hk_19
  have hm_32 : t ∈ hL S_27 := hf_29.mem hm_20
  have hk_33 : Kd S_27 t 13 := hf_29.kd hm_20 hk_21
  have hn_34 : Ln S_27 t 8000 := hf_29.ln hm_20 hn_22
  have hv_35 : hR S_27 1223 h = (some t) := hf_29.fr hm_18 (fun h9 => h9) hv_23
  have hf_36 : Fm (fun f9 b9 => (f9 = 1224 ∧ b9 = h)) (fun _ _ => False) (fun b9 => b9 = t) S S_27 := hf_24.then hf_29 (fun a9 ha9 => ⟨(fun f9 h9 => (fun h8 => h8) h9), (fun f9 h9 => h9.elim), (fun h9 => (fun h8 => h8) h9)⟩)
  refine j_aload_n C dX12_feed_30 rfl 0 rfl ?_
  show J _ _ _ _ _ 31 _
  refine j_iload C dX12_feed_31 4 rfl ?_
  refine j_callV (ci := 12) C [.int a4] [] mlX12_149 mcX12_lay (c_X12_lay S_27 h hm_30 hk_31 t hv_35 hm_32 hk_33 hn_34 a4 12 e_25 (by decide)) hm_30 hk_31 rfl (M.rm (by decide) (by decide) (Nat.le_of_ble_eq_true rfl) (Nat.le_of_ble_eq_true rfl)) rfl rfl (Nat.le_of_ble_eq_true rfl) dX12_feed_33 (fun r_38 S_39 hp_40 => ?_)
  obtain ⟨rfl, hf_41, e_37⟩ := hp_40
  refine J.eq (st' := []) rfl rfl rfl ?_
  have hm_42 : h ∈ hL S_39 := hf_41.mem hm_30
  have hk_43 : Kd S_39 h 12 := hf_41.kd hm_30 hk_31
  have hm_44 : t ∈ hL S_39 := hf_41.mem hm_32
  have hk_45 : Kd S_39 t 13 := hf_41.kd hm_32 hk_33
  have hn_46 : Ln S_39 t 8000 := hf_41.ln hm_32 hn_34
  have hv_47 : hR S_39 1223 h = (some t) := hf_41.fr hm_30 (fun h9 => h9) hv_35
  have hf_48 : Fm (fun f9 b9 => (f9 = 1224 ∧ b9 = h)) (fun _ _ => False) (fun b9 => b9 = t) S S_39 := hf_36.then hf_41 (fun a9 ha9 => ⟨(fun f9 h9 => (fun h8 => h8) h9), (fun f9 h9 => h9.elim), (fun h9 => (fun h8 => h8) h9)⟩)
  refine j_aload_n C dX12_feed_36 rfl 0 rfl ?_
  refine j_iload C dX12_feed_37 5 rfl ?_
  refine j_callV (ci := 12) C [.int a5] [] mlX12_149 mcX12_lay (c_X12_lay S_39 h hm_42 hk_43 t hv_47 hm_44 hk_45 hn_46 a5 16 e_37 (by decide)) hm_42 hk_43 rfl (M.rm (by decide) (by decide) (Nat.le_of_ble_eq_true rfl) (Nat.le_of_ble_eq_true rfl)) rfl rfl (Nat.le_of_ble_eq_true rfl) dX12_feed_39 (fun r_50 S_51 hp_52 => ?_)
  obtain ⟨rfl, hf_53, e_49⟩ := hp_52
  refine J.eq (st' := []) rfl rfl rfl ?_
  have hm_54 : h ∈ hL S_51 := hf_53.mem hm_42
  have hk_55 : Kd S_51 h 12 := hf_53.kd hm_42 hk_43
  have hm_56 : t ∈ hL S_51 := hf_53.mem hm_44
  have hk_57 : Kd S_51 t 13 := hf_53.kd hm_44 hk_45
  have hn_58 : Ln S_51 t 8000 := hf_53.ln hm_44 hn_46
  have hv_59 : hR S_51 1223 h = (some t) := hf_53.fr hm_42 (fun h9 => h9) hv_47
  have hf_60 : Fm (fun f9 b9 => (f9 = 1224 ∧ b9 = h)) (fun _ _ => False) (fun b9 => b9 = t) S S_51 := hf_48.then hf_53 (fun a9 ha9 => ⟨(fun f9 h9 => (fun h8 => h8) h9), (fun f9 h9 => h9.elim), (fun h9 => (fun h8 => h8) h9)⟩)
  refine j_aload_n C dX12_feed_42 rfl 0 rfl ?_
  refine j_geti (f := 1224) (v := nI 20) C flX12_146 dX12_feed_43 hm_54 hk_55 (by decide) (by decide) rfl e_49 ?_
  exact j_iret C M dX12_feed_46 (Nat.le_of_ble_eq_true rfl) (Nat.le_of_ble_eq_true rfl) ⟨(congrArg (fun z9 => some (Value.int z9)) (by decide)), hf_60⟩

theorem dX12_cut_0 : decode cX12_cut 0 = .ok (.iload_n 1, 1) := by decide +kernel
theorem dX12_cut_1 : decode cX12_cut 1 = .ok (.ifCond .lt 11, 3) := by decide +kernel
theorem dX12_cut_4 : decode cX12_cut 4 = .ok (.iload_n 1, 1) := by decide +kernel
theorem dX12_cut_5 : decode cX12_cut 5 = .ok (.aload_n 0, 1) := by decide +kernel
theorem dX12_cut_6 : decode cX12_cut 6 = .ok (.getfield 146, 3) := by decide +kernel
theorem dX12_cut_9 : decode cX12_cut 9 = .ok (.if_icmp .le 5, 3) := by decide +kernel
theorem dX12_cut_12 : decode cX12_cut 12 = .ok (.iconst (-1), 1) := by decide +kernel
theorem dX12_cut_13 : decode cX12_cut 13 = .ok (.ireturn, 1) := by decide +kernel
theorem dX12_cut_14 : decode cX12_cut 14 = .ok (.aload_n 0, 1) := by decide +kernel
theorem dX12_cut_15 : decode cX12_cut 15 = .ok (.getfield 146, 3) := by decide +kernel
theorem dX12_cut_18 : decode cX12_cut 18 = .ok (.iload_n 1, 1) := by decide +kernel
theorem dX12_cut_19 : decode cX12_cut 19 = .ok (.isub, 1) := by decide +kernel
theorem dX12_cut_20 : decode cX12_cut 20 = .ok (.istore_n 2, 1) := by decide +kernel
theorem dX12_cut_21 : decode cX12_cut 21 = .ok (.aload_n 0, 1) := by decide +kernel
theorem dX12_cut_22 : decode cX12_cut 22 = .ok (.iload_n 1, 1) := by decide +kernel
theorem dX12_cut_23 : decode cX12_cut 23 = .ok (.putfield 146, 3) := by decide +kernel
theorem dX12_cut_26 : decode cX12_cut 26 = .ok (.iload_n 2, 1) := by decide +kernel
theorem dX12_cut_27 : decode cX12_cut 27 = .ok (.ireturn, 1) := by decide +kernel
set_option maxRecDepth 100000 in
set_option maxHeartbeats 4000000 in
theorem c_X12_cut (S : Hp) (h : Nat) (hm : h ∈ hL S) (hk : hK S h = 12) (i0 : hI S 1224 h = 0) (n1 : Int32) : Ct 1 yX12_cut cX12_cut 3 (some .int) 0 0 [.ref h, .int n1] S (fun r S' => r = some (.int (an_cut n1)) ∧ Fm (fun f9 b9 => (f9 = 1224 ∧ b9 = h)) (fun _ _ => False) (fun _ => False) S S') := by
  refine ct_of (by decide) (Nat.le_of_ble_eq_true rfl) fun x hn9 C M hm9 => ?_
  have C : CB x RX12 cX12_cut := C
  refine J.eq (lv' := [(0, .ref h), (1, .int n1)]) rfl rfl rfl ?_
  refine j_iload_n C dX12_cut_0 rfl 1 rfl ?_
  refine j_if_lt (tgt := 12) C dX12_cut_1 (by decide) (fun c_1 => ?_) (fun c_1 => ?_)
  · skip
    refine j_iconst (v := (-1)) C dX12_cut_12 (by decide) ?_
    exact j_iret C M dX12_cut_13 (by decide) (by decide) ⟨(congrArg (fun z9 => some (Value.int z9)) (by unfold an_cut; first | (rw [if_neg c_1, if_pos c_9]) | (rw [if_neg c_1, if_neg c_9]) | (rw [if_pos c_1]))), (Fm.refl (WI := (fun f9 b9 => (f9 = 1224 ∧ b9 = h))) (WR := (fun _ _ => False)) (WA := (fun _ => False)))⟩
  · skip
    refine j_iload_n C dX12_cut_4 rfl 1 rfl ?_
    refine j_aload_n C dX12_cut_5 rfl 0 rfl ?_
    refine j_geti (f := 1224) (v := 0) C flX12_146 dX12_cut_6 hm hk (by decide) (by decide) rfl i0 ?_
    refine j_ic_le (tgt := 14) C dX12_cut_9 (by decide) (fun c_9 => ?_) (fun c_9 => ?_)
    · skip
      refine j_aload_n C dX12_cut_14 rfl 0 rfl ?_
      refine j_geti (f := 1224) (v := 0) C flX12_146 dX12_cut_15 hm hk (by decide) (by decide) rfl i0 ?_
      refine j_iload_n C dX12_cut_18 rfl 1 rfl ?_
      show J _ _ _ _ _ 19 _
      refine j_isub (v := 0) C dX12_cut_19 (cut_z c_1 c_9) ?_
      refine j_istore_n (lv' := [(2, .int 0), (0, .ref h), (1, .int n1)]) C dX12_cut_20 rfl (by rw [hn9]; decide) rfl ?_
      refine j_aload_n C dX12_cut_21 rfl 1 rfl ?_
      refine j_iload_n C dX12_cut_22 rfl 2 rfl ?_
      refine j_puti (f := 1224) C flX12_146 (by decide) rfl rfl dX12_cut_23 hm hk rfl ?_
      refine j_iload_n C dX12_cut_26 rfl 0 rfl ?_
      exact j_iret C M dX12_cut_27 (by decide) (by decide) ⟨(congrArg (fun z9 => some (Value.int z9)) (by unfold an_cut; first | (rw [if_neg c_1, if_pos c_9]) | (rw [if_neg c_1, if_neg c_9]) | (rw [if_pos c_1]))), ((Fm.refl (WI := (fun f9 b9 => (f9 = 1224 ∧ b9 = h))) (WR := (fun _ _ => False)) (WA := (fun _ => False))).sI _ (fun _ => ⟨rfl, rfl⟩))⟩
    · skip
      refine j_iconst (v := (-1)) C dX12_cut_12 (by decide) ?_
      exact j_iret C M dX12_cut_13 (by decide) (by decide) ⟨(congrArg (fun z9 => some (Value.int z9)) (by unfold an_cut; first | (rw [if_neg c_1, if_pos c_9]) | (rw [if_neg c_1, if_neg c_9]) | (rw [if_pos c_1]))), (Fm.refl (WI := (fun f9 b9 => (f9 = 1224 ∧ b9 = h))) (WR := (fun _ _ => False)) (WA := (fun _ => False)))⟩

theorem part_lo {s : Int32} (h : s < 0) : an_part s = -1 := by
  unfold an_part
  rw [if_neg (fun e => by rw [e] at h; exact absurd h (by decide)), if_neg (fun e => by rw [e] at h; exact absurd h (by decide))]
theorem part_hi {s : Int32} (h : 1 < s) : an_part s = -1 := by
  unfold an_part
  rw [if_neg (fun e => by rw [e] at h; exact absurd h (by decide)), if_neg (fun e => by rw [e] at h; exact absurd h (by decide))]
theorem part_in {s : Int32} (h1 : ¬ s < 0) (h2 : ¬ 1 < s) : an_part s = 1 := by
  unfold an_part
  by_cases e : s = 0
  · rw [if_pos e]
  · rw [if_neg e]
    refine if_pos (Int32.toInt_inj.mp ?_)
    have a1 : s.toInt ≠ 0 := ne_toInt e (by decide)
    have a2 : ¬ s.toInt < 0 := fun h => h1 (Int32.lt_iff_toInt_lt.mpr h)
    have a3 : ¬ 1 < s.toInt := fun h => h2 (Int32.lt_iff_toInt_lt.mpr h)
    show s.toInt = 1
    omega
theorem held_lo {w : Int32} (h : w < 0) : an_held w = -1 := by
  unfold an_held
  rw [if_neg (fun e => by rw [e] at h; exact absurd h (by decide)), if_neg (fun e => by rw [e] at h; exact absurd h (by decide)), if_neg (fun e => by rw [e] at h; exact absurd h (by decide)), if_neg (fun e => by rw [e] at h; exact absurd h (by decide)), if_neg (fun e => by rw [e] at h; exact absurd h (by decide)), if_neg (fun e => by rw [e] at h; exact absurd h (by decide)), if_neg (fun e => by rw [e] at h; exact absurd h (by decide))]
theorem held_hi {w : Int32} (h : 4 < w) (h5 : ¬ w = 5) (h6 : ¬ w = 6) : an_held w = -1 := by
  unfold an_held
  rw [if_neg (fun e => by rw [e] at h; exact absurd h (by decide)), if_neg (fun e => by rw [e] at h; exact absurd h (by decide)), if_neg (fun e => by rw [e] at h; exact absurd h (by decide)), if_neg (fun e => by rw [e] at h; exact absurd h (by decide)), if_neg (fun e => by rw [e] at h; exact absurd h (by decide)), if_neg h5, if_neg h6]
theorem held_in {w : Int32} (h1 : ¬ w < 0) (h2 : ¬ 4 < w) : an_held w = 0 := by
  have a2 : ¬ w.toInt < 0 := fun h => h1 (Int32.lt_iff_toInt_lt.mpr h)
  have a3 : ¬ 4 < w.toInt := fun h => h2 (Int32.lt_iff_toInt_lt.mpr h)
  have key : w.toInt = 0 ∨ w.toInt = 1 ∨ w.toInt = 2 ∨ w.toInt = 3 ∨ w.toInt = 4 := by omega
  rcases key with e | e | e | e | e
  · rw [show w = 0 from Int32.toInt_inj.mp e]; decide
  · rw [show w = 1 from Int32.toInt_inj.mp e]; decide
  · rw [show w = 2 from Int32.toInt_inj.mp e]; decide
  · rw [show w = 3 from Int32.toInt_inj.mp e]; decide
  · rw [show w = 4 from Int32.toInt_inj.mp e]; decide

theorem dX12_part_0 : decode cX12_part 0 = .ok (.aload_n 0, 1) := by decide +kernel
theorem dX12_part_1 : decode cX12_part 1 = .ok (.getfield 146, 3) := by decide +kernel
theorem dX12_part_4 : decode cX12_part 4 = .ok (.istore_n 2, 1) := by decide +kernel
theorem dX12_part_5 : decode cX12_part 5 = .ok (.aload_n 0, 1) := by decide +kernel
theorem dX12_part_6 : decode cX12_part 6 = .ok (.iconst 0, 1) := by decide +kernel
theorem dX12_part_7 : decode cX12_part 7 = .ok (.putfield 146, 3) := by decide +kernel
theorem dX12_part_10 : decode cX12_part 10 = .ok (.iload_n 1, 1) := by decide +kernel
theorem dX12_part_11 : decode cX12_part 11 = .ok (.ifCond .lt 34, 3) := by decide +kernel
theorem dX12_part_14 : decode cX12_part 14 = .ok (.iload_n 1, 1) := by decide +kernel
theorem dX12_part_15 : decode cX12_part 15 = .ok (.iconst 1, 1) := by decide +kernel
theorem dX12_part_16 : decode cX12_part 16 = .ok (.if_icmp .gt 29, 3) := by decide +kernel
theorem dX12_part_19 : decode cX12_part 19 = .ok (.aload_n 0, 1) := by decide +kernel
theorem dX12_part_20 : decode cX12_part 20 = .ok (.getfield 153, 3) := by decide +kernel
theorem dX12_part_23 : decode cX12_part 23 = .ok (.bipush 6, 2) := by decide +kernel
theorem dX12_part_25 : decode cX12_part 25 = .ok (.if_icmp .eq 20, 3) := by decide +kernel
theorem dX12_part_28 : decode cX12_part 28 = .ok (.aload_n 0, 1) := by decide +kernel
theorem dX12_part_29 : decode cX12_part 29 = .ok (.getfield 69, 3) := by decide +kernel
theorem dX12_part_32 : decode cX12_part 32 = .ok (.aload_n 0, 1) := by decide +kernel
theorem dX12_part_33 : decode cX12_part 33 = .ok (.getfield 153, 3) := by decide +kernel
theorem dX12_part_36 : decode cX12_part 36 = .ok (.iaload, 1) := by decide +kernel
theorem dX12_part_37 : decode cX12_part 37 = .ok (.iload_n 2, 1) := by decide +kernel
theorem dX12_part_38 : decode cX12_part 38 = .ok (.iadd, 1) := by decide +kernel
theorem dX12_part_39 : decode cX12_part 39 = .ok (.sipush 12000, 3) := by decide +kernel
theorem dX12_part_42 : decode cX12_part 42 = .ok (.if_icmp .le 5, 3) := by decide +kernel
theorem dX12_part_45 : decode cX12_part 45 = .ok (.iconst (-1), 1) := by decide +kernel
theorem dX12_part_46 : decode cX12_part 46 = .ok (.ireturn, 1) := by decide +kernel
theorem dX12_part_47 : decode cX12_part 47 = .ok (.iconst 0, 1) := by decide +kernel
theorem dX12_part_48 : decode cX12_part 48 = .ok (.istore_n 3, 1) := by decide +kernel
theorem dX12_part_49 : decode cX12_part 49 = .ok (.iload_n 3, 1) := by decide +kernel
theorem dX12_part_50 : decode cX12_part 50 = .ok (.iload_n 2, 1) := by decide +kernel
theorem dX12_part_51 : decode cX12_part 51 = .ok (.if_icmp .ge 31, 3) := by decide +kernel
theorem dX12_part_54 : decode cX12_part 54 = .ok (.aload_n 0, 1) := by decide +kernel
theorem dX12_part_55 : decode cX12_part 55 = .ok (.getfield 66, 3) := by decide +kernel
theorem dX12_part_58 : decode cX12_part 58 = .ok (.aload_n 0, 1) := by decide +kernel
theorem dX12_part_59 : decode cX12_part 59 = .ok (.getfield 69, 3) := by decide +kernel
theorem dX12_part_62 : decode cX12_part 62 = .ok (.aload_n 0, 1) := by decide +kernel
theorem dX12_part_63 : decode cX12_part 63 = .ok (.getfield 153, 3) := by decide +kernel
theorem dX12_part_66 : decode cX12_part 66 = .ok (.iaload, 1) := by decide +kernel
theorem dX12_part_67 : decode cX12_part 67 = .ok (.iload_n 3, 1) := by decide +kernel
theorem dX12_part_68 : decode cX12_part 68 = .ok (.iadd, 1) := by decide +kernel
theorem dX12_part_69 : decode cX12_part 69 = .ok (.aload_n 0, 1) := by decide +kernel
theorem dX12_part_70 : decode cX12_part 70 = .ok (.getfield 75, 3) := by decide +kernel
theorem dX12_part_73 : decode cX12_part 73 = .ok (.iload_n 3, 1) := by decide +kernel
theorem dX12_part_74 : decode cX12_part 74 = .ok (.baload, 1) := by decide +kernel
theorem dX12_part_75 : decode cX12_part 75 = .ok (.bastore, 1) := by decide +kernel
theorem dX12_part_76 : decode cX12_part 76 = .ok (.iinc 3 1, 3) := by decide +kernel
theorem dX12_part_79 : decode cX12_part 79 = .ok (.goto (-30), 3) := by decide +kernel
theorem dX12_part_82 : decode cX12_part 82 = .ok (.aload_n 0, 1) := by decide +kernel
theorem dX12_part_83 : decode cX12_part 83 = .ok (.getfield 72, 3) := by decide +kernel
theorem dX12_part_86 : decode cX12_part 86 = .ok (.aload_n 0, 1) := by decide +kernel
theorem dX12_part_87 : decode cX12_part 87 = .ok (.getfield 153, 3) := by decide +kernel
theorem dX12_part_90 : decode cX12_part 90 = .ok (.iload_n 1, 1) := by decide +kernel
theorem dX12_part_91 : decode cX12_part 91 = .ok (.iastore, 1) := by decide +kernel
theorem dX12_part_92 : decode cX12_part 92 = .ok (.aload_n 0, 1) := by decide +kernel
theorem dX12_part_93 : decode cX12_part 93 = .ok (.dup, 1) := by decide +kernel
theorem dX12_part_94 : decode cX12_part 94 = .ok (.getfield 153, 3) := by decide +kernel
theorem dX12_part_97 : decode cX12_part 97 = .ok (.iconst 1, 1) := by decide +kernel
theorem dX12_part_98 : decode cX12_part 98 = .ok (.iadd, 1) := by decide +kernel
theorem dX12_part_99 : decode cX12_part 99 = .ok (.putfield 153, 3) := by decide +kernel
theorem dX12_part_102 : decode cX12_part 102 = .ok (.aload_n 0, 1) := by decide +kernel
theorem dX12_part_103 : decode cX12_part 103 = .ok (.getfield 69, 3) := by decide +kernel
theorem dX12_part_106 : decode cX12_part 106 = .ok (.aload_n 0, 1) := by decide +kernel
theorem dX12_part_107 : decode cX12_part 107 = .ok (.getfield 153, 3) := by decide +kernel
theorem dX12_part_110 : decode cX12_part 110 = .ok (.aload_n 0, 1) := by decide +kernel
theorem dX12_part_111 : decode cX12_part 111 = .ok (.getfield 69, 3) := by decide +kernel
theorem dX12_part_114 : decode cX12_part 114 = .ok (.aload_n 0, 1) := by decide +kernel
theorem dX12_part_115 : decode cX12_part 115 = .ok (.getfield 153, 3) := by decide +kernel
theorem dX12_part_118 : decode cX12_part 118 = .ok (.iconst 1, 1) := by decide +kernel
theorem dX12_part_119 : decode cX12_part 119 = .ok (.isub, 1) := by decide +kernel
theorem dX12_part_120 : decode cX12_part 120 = .ok (.iaload, 1) := by decide +kernel
theorem dX12_part_121 : decode cX12_part 121 = .ok (.iload_n 2, 1) := by decide +kernel
theorem dX12_part_122 : decode cX12_part 122 = .ok (.iadd, 1) := by decide +kernel
theorem dX12_part_123 : decode cX12_part 123 = .ok (.iastore, 1) := by decide +kernel
theorem dX12_part_124 : decode cX12_part 124 = .ok (.aload_n 0, 1) := by decide +kernel
theorem dX12_part_125 : decode cX12_part 125 = .ok (.getfield 153, 3) := by decide +kernel
theorem dX12_part_128 : decode cX12_part 128 = .ok (.ireturn, 1) := by decide +kernel
set_option maxRecDepth 100000 in
set_option maxHeartbeats 4000000 in
theorem c_X12_part (S : Hp) (h : Nat) (hm : h ∈ hL S) (hk : hK S h = 12) (t : Nat) (rt : hR S 1223 h = some t) (mt : t ∈ hL S) (kt : Kd S t 13) (lt : Ln S t 8000) (j : Nat) (rj : hR S 1219 h = some j) (mj : j ∈ hL S) (kj : Kd S j 13) (lj : Ln S j 12000) (o : Nat) (ro : hR S 1221 h = some o) (mo : o ∈ hL S) (ko : Kd S o 14) (lo : Ln S o 6) (u : Nat) (ru : hR S 1220 h = some u) (mu : u ∈ hL S) (ku : Kd S u 14) (lu : Ln S u 7) (zu : ∀ j, aI S u j = 0) (i0 : hI S 1224 h = 0) (i1 : hI S 1222 h = 0) (n1 : Int32) : Ct 1 yX12_part cX12_part 4 (some .int) 0 0 [.ref h, .int n1] S (fun r S' => r = some (.int (an_part n1)) ∧ Fm (fun f9 b9 => (f9 = 1224 ∧ b9 = h) ∨ (f9 = 1222 ∧ b9 = h)) (fun _ _ => False) (fun b9 => b9 = o ∨ b9 = u) S S') := by
  refine ct_of (by decide) (Nat.le_of_ble_eq_true rfl) fun x hn9 C M hm9 => ?_
  have C : CB x RX12 cX12_part := C
  refine J.eq (lv' := [(0, .ref h), (1, .int n1)]) rfl rfl rfl ?_
  refine j_aload_n C dX12_part_0 rfl 0 rfl ?_
  refine j_geti (f := 1224) (v := 0) C flX12_146 dX12_part_1 hm hk (by decide) (by decide) rfl i0 ?_
  refine j_istore_n (lv' := [(2, .int 0), (0, .ref h), (1, .int n1)]) C dX12_part_4 rfl (by rw [hn9]; decide) rfl ?_
  refine j_aload_n C dX12_part_5 rfl 1 rfl ?_
  refine j_iconst (v := 0) C dX12_part_6 (by decide) ?_
  refine j_puti (f := 1224) C flX12_146 (by decide) rfl rfl dX12_part_7 hm hk rfl ?_
  refine j_iload_n C dX12_part_10 rfl 2 rfl ?_
  refine j_if_lt (tgt := 45) C dX12_part_11 (by decide) (fun c_11 => ?_) (fun c_11 => ?_)
  · skip
    refine j_iconst (v := (-1)) C dX12_part_45 (by decide) ?_
    show J _ _ _ _ _ 46 _
    exact j_iret C M dX12_part_46 (by decide) (by decide) ⟨(congrArg (fun z9 => some (Value.int z9)) (by first | exact (part_in c_11 c_16).symm | exact (part_hi c_16).symm | exact (part_lo c_11).symm)), ((Fm.refl (WI := (fun f9 b9 => (f9 = 1224 ∧ b9 = h) ∨ (f9 = 1222 ∧ b9 = h))) (WR := (fun _ _ => False)) (WA := (fun b9 => b9 = o ∨ b9 = u))).sI _ (fun _ => (Or.inl ⟨rfl, rfl⟩)))⟩
  · skip
    refine j_iload_n C dX12_part_14 rfl 2 rfl ?_
    refine j_iconst (v := 1) C dX12_part_15 (by decide) ?_
    refine j_ic_gt (tgt := 45) C dX12_part_16 (by decide) (fun c_16 => ?_) (fun c_16 => ?_)
    · skip
      refine j_iconst (v := (-1)) C dX12_part_45 (by decide) ?_
      exact j_iret C M dX12_part_46 (by decide) (by decide) ⟨(congrArg (fun z9 => some (Value.int z9)) (by first | exact (part_in c_11 c_16).symm | exact (part_hi c_16).symm | exact (part_lo c_11).symm)), ((Fm.refl (WI := (fun f9 b9 => (f9 = 1224 ∧ b9 = h) ∨ (f9 = 1222 ∧ b9 = h))) (WR := (fun _ _ => False)) (WA := (fun b9 => b9 = o ∨ b9 = u))).sI _ (fun _ => (Or.inl ⟨rfl, rfl⟩)))⟩
    · skip
      refine j_aload_n C dX12_part_19 rfl 1 rfl ?_
      refine j_geti (f := 1222) (v := 0) C flX12_153 dX12_part_20 hm hk (by decide) (by decide) rfl (rd_sIf (S := S) (g := 1224) (a := h) (v := 0) (by decide) i1) ?_
      refine j_bipush (v := 6) C dX12_part_23 (by decide) ?_
      refine j_ic_eq (tgt := 45) C dX12_part_25 (by decide) (fun c9 => absurd c9 (by decide)) (fun c9 => ?_)
      refine j_aload_n C dX12_part_28 rfl 1 rfl ?_
      show J _ _ _ _ _ 29 _
      refine j_getr (f := 1220) (v := u) C flX12_69 dX12_part_29 hm hk (by decide) rfl ru ?_
      refine j_aload_n C dX12_part_32 rfl 1 rfl ?_
      refine j_geti (f := 1222) (v := 0) C flX12_153 dX12_part_33 hm hk (by decide) (by decide) rfl (rd_sIf (S := S) (g := 1224) (a := h) (v := 0) (by decide) i1) ?_
      refine j_iald (j := 0) (v := 0) C dX12_part_36 mu ku (inr_of (n := 7) lu (vp_lit (by decide))) (by decide) (zu 0) ?_
      refine j_iload_n C dX12_part_37 rfl 0 rfl ?_
      refine j_iadd (v := 0) C dX12_part_38 (by decide) ?_
      refine j_sipush (v := 12000) C dX12_part_39 (by decide) ?_
      refine j_ic_le (tgt := 47) C dX12_part_42 (by decide) (fun c9 => ?_) (fun c9 => absurd (by decide) c9)
      show J _ _ _ _ _ 47 _
      refine j_iconst (v := 0) C dX12_part_47 (by decide) ?_
      refine j_istore_n (lv' := [(3, .int 0), (2, .int 0), (0, .ref h), (1, .int n1)]) C dX12_part_48 rfl (by rw [hn9]; decide) rfl ?_
      refine j_iload_n C dX12_part_49 rfl 0 rfl ?_
      refine j_iload_n C dX12_part_50 rfl 1 rfl ?_
      refine j_ic_ge (tgt := 82) C dX12_part_51 (by decide) (fun c9 => ?_) (fun c9 => absurd (by decide) c9)
      refine j_aload_n C dX12_part_82 rfl 2 rfl ?_
      refine j_getr (f := 1221) (v := o) C flX12_72 dX12_part_83 hm hk (by decide) rfl ro ?_
      refine j_aload_n C dX12_part_86 rfl 2 rfl ?_
      show J _ _ _ _ _ 87 _
      refine j_geti (f := 1222) (v := 0) C flX12_153 dX12_part_87 hm hk (by decide) (by decide) rfl (rd_sIf (S := S) (g := 1224) (a := h) (v := 0) (by decide) i1) ?_
      refine j_iload_n C dX12_part_90 rfl 3 rfl ?_
      refine j_iast (j := 0) C dX12_part_91 mo ko (inr_of (n := 6) lo (vp_lit (by decide))) (by decide) ?_
      refine j_aload_n C dX12_part_92 rfl 2 rfl ?_
      refine j_dup C dX12_part_93 rfl ?_
      refine j_geti (f := 1222) (v := 0) C flX12_153 dX12_part_94 hm hk (by decide) (by decide) rfl (rd_sIf (S := S) (g := 1224) (a := h) (v := 0) (by decide) i1) ?_
      refine j_iconst (v := 1) C dX12_part_97 (by decide) ?_
      refine j_iadd (v := 1) C dX12_part_98 (by decide) ?_
      show J _ _ _ _ _ 99 _
      refine j_puti (f := 1222) C flX12_153 (by decide) rfl rfl dX12_part_99 hm hk rfl ?_
      refine j_aload_n C dX12_part_102 rfl 2 rfl ?_
      refine j_getr (f := 1220) (v := u) C flX12_69 dX12_part_103 hm hk (by decide) rfl ru ?_
      refine j_aload_n C dX12_part_106 rfl 2 rfl ?_
      refine j_geti (f := 1222) (v := 1) C flX12_153 dX12_part_107 hm hk (by decide) (by decide) rfl (rd_sI (S := (tI (sI S 1224 h 0) o 0 n1)) (g := 1222) (a := h) (v := 1)) ?_
      refine j_aload_n C dX12_part_110 rfl 2 rfl ?_
      refine j_getr (f := 1220) (v := u) C flX12_69 dX12_part_111 hm hk (by decide) rfl ru ?_
      refine j_aload_n C dX12_part_114 rfl 2 rfl ?_
      show J _ _ _ _ _ 115 _
      refine j_geti (f := 1222) (v := 1) C flX12_153 dX12_part_115 hm hk (by decide) (by decide) rfl (rd_sI (S := (tI (sI S 1224 h 0) o 0 n1)) (g := 1222) (a := h) (v := 1)) ?_
      refine j_iconst (v := 1) C dX12_part_118 (by decide) ?_
      refine j_isub (v := 0) C dX12_part_119 (by decide) ?_
      refine j_iald (j := 0) (v := aI (sI (tI (sI S 1224 h 0) o 0 n1) 1222 h 1) u 0) C dX12_part_120 mu ku (inr_of (n := 7) lu (vp_lit (by decide))) (by decide) rfl ?_
      refine j_iload_n C dX12_part_121 rfl 1 rfl ?_
      refine j_iadd C dX12_part_122 rfl ?_
      refine j_iast (j := 1) C dX12_part_123 mu ku (inr_of (n := 7) lu (vp_lit (by decide))) (by decide) ?_
      refine j_aload_n C dX12_part_124 rfl 2 rfl ?_
      show J _ _ _ _ _ 125 _
      refine j_geti (f := 1222) (v := 1) C flX12_153 dX12_part_125 hm hk (by decide) (by decide) rfl (rd_sI (S := (tI (sI S 1224 h 0) o 0 n1)) (g := 1222) (a := h) (v := 1)) ?_
      exact j_iret C M dX12_part_128 (by decide) (by decide) ⟨(congrArg (fun z9 => some (Value.int z9)) (by first | exact (part_in c_11 c_16).symm | exact (part_hi c_16).symm | exact (part_lo c_11).symm)), (((((Fm.refl (WI := (fun f9 b9 => (f9 = 1224 ∧ b9 = h) ∨ (f9 = 1222 ∧ b9 = h))) (WR := (fun _ _ => False)) (WA := (fun b9 => b9 = o ∨ b9 = u))).sI _ (fun _ => (Or.inl ⟨rfl, rfl⟩))).tI _ _ (fun _ => (Or.inl rfl))).sI _ (fun _ => (Or.inr ⟨rfl, rfl⟩))).tI _ _ (fun _ => (Or.inr rfl)))⟩

theorem dX12_drop_0 : decode cX12_drop 0 = .ok (.aload_n 0, 1) := by decide +kernel
theorem dX12_drop_1 : decode cX12_drop 1 = .ok (.getfield 153, 3) := by decide +kernel
theorem dX12_drop_4 : decode cX12_drop 4 = .ok (.istore_n 1, 1) := by decide +kernel
theorem dX12_drop_5 : decode cX12_drop 5 = .ok (.aload_n 0, 1) := by decide +kernel
theorem dX12_drop_6 : decode cX12_drop 6 = .ok (.iconst 0, 1) := by decide +kernel
theorem dX12_drop_7 : decode cX12_drop 7 = .ok (.putfield 153, 3) := by decide +kernel
theorem dX12_drop_10 : decode cX12_drop 10 = .ok (.iload_n 1, 1) := by decide +kernel
theorem dX12_drop_11 : decode cX12_drop 11 = .ok (.ireturn, 1) := by decide +kernel
set_option maxRecDepth 100000 in
set_option maxHeartbeats 4000000 in
theorem c_X12_drop (S : Hp) (h : Nat) (hm : h ∈ hL S) (hk : hK S h = 12) (i0 : hI S 1222 h = 0) : Ct 1 yX12_drop cX12_drop 2 (some .int) 0 0 [.ref h] S (fun r S' => r = some (.int 0) ∧ Fm (fun f9 b9 => (f9 = 1222 ∧ b9 = h)) (fun _ _ => False) (fun _ => False) S S') := by
  refine ct_of (by decide) (Nat.le_of_ble_eq_true rfl) fun x hn9 C M hm9 => ?_
  have C : CB x RX12 cX12_drop := C
  refine J.eq (lv' := [(0, .ref h)]) rfl rfl rfl ?_
  refine j_aload_n C dX12_drop_0 rfl 0 rfl ?_
  refine j_geti (f := 1222) (v := 0) C flX12_153 dX12_drop_1 hm hk (by decide) (by decide) rfl i0 ?_
  refine j_istore_n (lv' := [(1, .int 0), (0, .ref h)]) C dX12_drop_4 rfl (by rw [hn9]; decide) rfl ?_
  refine j_aload_n C dX12_drop_5 rfl 1 rfl ?_
  refine j_iconst (v := 0) C dX12_drop_6 (by decide) ?_
  refine j_puti (f := 1222) C flX12_153 (by decide) rfl rfl dX12_drop_7 hm hk rfl ?_
  refine j_iload_n C dX12_drop_10 rfl 0 rfl ?_
  exact j_iret C M dX12_drop_11 (by decide) (by decide) ⟨rfl, ((Fm.refl (WI := (fun f9 b9 => (f9 = 1222 ∧ b9 = h))) (WR := (fun _ _ => False)) (WA := (fun _ => False))).sI _ (fun _ => ⟨rfl, rfl⟩))⟩

theorem dX12_white_0 : decode cX12_white 0 = .ok (.iconst 0, 1) := by decide +kernel
theorem dX12_white_1 : decode cX12_white 1 = .ok (.istore_n 1, 1) := by decide +kernel
theorem dX12_white_2 : decode cX12_white 2 = .ok (.iload_n 1, 1) := by decide +kernel
theorem dX12_white_3 : decode cX12_white 3 = .ok (.ldc 81, 2) := by decide +kernel
theorem dX12_white_5 : decode cX12_white 5 = .ok (.if_icmp .ge 16, 3) := by decide +kernel
theorem dX12_white_8 : decode cX12_white 8 = .ok (.aload_n 0, 1) := by decide +kernel
theorem dX12_white_9 : decode cX12_white 9 = .ok (.getfield 82, 3) := by decide +kernel
theorem dX12_white_12 : decode cX12_white 12 = .ok (.iload_n 1, 1) := by decide +kernel
theorem dX12_white_13 : decode cX12_white 13 = .ok (.iconst 0, 1) := by decide +kernel
theorem dX12_white_14 : decode cX12_white 14 = .ok (.bastore, 1) := by decide +kernel
theorem dX12_white_15 : decode cX12_white 15 = .ok (.iinc 1 1, 3) := by decide +kernel
theorem dX12_white_18 : decode cX12_white 18 = .ok (.goto (-16), 3) := by decide +kernel
theorem dX12_white_21 : decode cX12_white 21 = .ok (.aload_n 0, 1) := by decide +kernel
theorem dX12_white_22 : decode cX12_white 22 = .ok (.iconst 0, 1) := by decide +kernel
theorem dX12_white_23 : decode cX12_white 23 = .ok (.putfield 182, 3) := by decide +kernel
theorem dX12_white_26 : decode cX12_white 26 = .ok (.return_, 1) := by decide +kernel
set_option maxRecDepth 100000 in
set_option maxHeartbeats 4000000 in
theorem c_X12_white (S : Hp) (h : Nat) (hm : h ∈ hL S) (hk : hK S h = 12) (p4 : Nat) (rp4 : hR S 1234 h = some p4) (mp4 : p4 ∈ hL S) (kp4 : Kd S p4 13) (lp4 : Ln S p4 64000) : Ct 1 yX12_white cX12_white 2 none 0 0 [.ref h] S (fun r S' => r = none ∧ Fm (fun f9 b9 => (f9 = 1235 ∧ b9 = h)) (fun _ _ => False) (fun b9 => b9 = p4) S S') := by
  refine ct_of (by decide) (Nat.le_of_ble_eq_true rfl) fun x hn9 C M hm9 => ?_
  have C : CB x RX12 cX12_white := C
  refine J.eq (lv' := [(0, .ref h)]) rfl rfl rfl ?_
  refine j_iconst (v := 0) C dX12_white_0 (by decide) ?_
  refine j_istore_n (lv' := [(1, .int 0), (0, .ref h)]) C dX12_white_1 rfl (by rw [hn9]; decide) rfl ?_
  have loop_5 : ∀ (m9 k1 : Nat) (S_2 : Hp), k1 + m9 = 64000 → Fm (fun _ _ => False) (fun _ _ => False) (fun b9 => b9 = p4) S S_2 → J x (0) (0) S_2 [(1, .int (nI k1)), (0, .ref h)] 2 [] := by
    intro m9
    induction m9 with
    | zero =>
      intro k1 S_2  hi_6 hl_3 
      have hm_7 : h ∈ hL S_2 := hl_3.mem hm
      have hk_8 : Kd S_2 h 12 := hl_3.kd hm hk
      have hm_9 : p4 ∈ hL S_2 := hl_3.mem mp4
      have hk_10 : Kd S_2 p4 13 := hl_3.kd mp4 kp4
      have hn_11 : Ln S_2 p4 64000 := hl_3.ln mp4 lp4
      have hv_12 : hR S_2 1234 h = (some p4) := hl_3.fr hm (fun h9 => h9) rp4
      have hf_13 : Fm (fun f9 b9 => (f9 = 1235 ∧ b9 = h)) (fun _ _ => False) (fun b9 => b9 = p4) S S_2 := (Fm.refl (WI := (fun f9 b9 => (f9 = 1235 ∧ b9 = h))) (WR := (fun _ _ => False)) (WA := (fun b9 => b9 = p4))).then hl_3 (fun a9 ha9 => ⟨(fun f9 h9 => h9.elim), (fun f9 h9 => h9.elim), (fun h9 => (fun h8 => h8) h9)⟩)
      refine j_iload_n C dX12_white_2 rfl 0 rfl ?_
      refine j_ldc (v := 64000) C dX12_white_3 kcX12_81 ?_
      refine j_ic_ge (tgt := 21) C dX12_white_5 (by decide) (fun c_5 => ?_) (fun c_5 => absurd (nI_le (a := 64000) (by omega) (by omega)) c_5)
      refine j_aload_n C dX12_white_21 rfl 1 rfl ?_
      refine j_iconst (v := 0) C dX12_white_22 (by decide) ?_
      refine j_puti (f := 1235) C flX12_182 (by decide) rfl rfl dX12_white_23 hm_7 hk_8 rfl ?_
      exact j_vret C M dX12_white_26 (by decide) (by decide) ⟨rfl, (hf_13.sI _ (fun _ => ⟨rfl, rfl⟩))⟩
    | succ m9 ih_4 =>
      intro k1 S_2  hi_6 hl_3 
      have hm_14 : h ∈ hL S_2 := hl_3.mem hm
      have hk_15 : Kd S_2 h 12 := hl_3.kd hm hk
      have hm_16 : p4 ∈ hL S_2 := hl_3.mem mp4
      have hk_17 : Kd S_2 p4 13 := hl_3.kd mp4 kp4
      have hn_18 : Ln S_2 p4 64000 := hl_3.ln mp4 lp4
      have hv_19 : hR S_2 1234 h = (some p4) := hl_3.fr hm (fun h9 => h9) rp4
      have hf_20 : Fm (fun f9 b9 => (f9 = 1235 ∧ b9 = h)) (fun _ _ => False) (fun b9 => b9 = p4) S S_2 := (Fm.refl (WI := (fun f9 b9 => (f9 = 1235 ∧ b9 = h))) (WR := (fun _ _ => False)) (WA := (fun b9 => b9 = p4))).then hl_3 (fun a9 ha9 => ⟨(fun f9 h9 => h9.elim), (fun f9 h9 => h9.elim), (fun h9 => (fun h8 => h8) h9)⟩)
      refine j_iload_n C dX12_white_2 rfl 0 rfl ?_
      refine j_ldc (v := 64000) C dX12_white_3 kcX12_81 ?_
      show J _ _ _ _ _ 5 _
      refine j_ic_ge (tgt := 21) C dX12_white_5 (by decide) (fun c_5 => absurd c_5 (nI_ge (b := 64000) (by omega) (by omega))) (fun c_5 => ?_)
      refine j_aload_n C dX12_white_8 rfl 1 rfl ?_
      refine j_getr (f := 1234) (v := p4) C flX12_82 dX12_white_9 hm_14 hk_15 (by decide) rfl hv_19 ?_
      refine j_iload_n C dX12_white_12 rfl 0 rfl ?_
      refine j_iconst (v := 0) C dX12_white_13 (by decide) ?_
      refine j_bast (j := k1) C dX12_white_14 hm_16 hk_17 (inr_of (n := 64000) hn_18 (vp_in_nI (by omega) (by omega))) (nI_clamp (by omega)) ?_
      refine j_iinc (q := 0) (v := nI (k1 + 1)) (lv' := [(1, .int (nI (k1 + 1))), (0, .ref h)]) C dX12_white_15 rfl (by rw [show Int32.ofInt 1 = 1 by decide]; exact nI_add k1 1) (by rw [hn9]; decide) rfl ?_
      refine j_goto (tgt := 2) C dX12_white_18 (by decide) ?_
      show J _ _ _ _ _ 2 _
      refine J.sub [0, 1] (lv' := [(1, .int (nI (k1 + 1))), (0, .ref h)]) (by rfl) ?_
      exact ih_4 (k1 + 1) _  (by omega) (hl_3.tI _ _ (fun _ => rfl)) 
  refine J.sub [0, 1] (lv' := [(1, .int (nI 0)), (0, .ref h)]) (by rw [nI_0]; rfl) ?_
  exact loop_5 64000 0 _  (by omega) Fm.refl 

theorem dX12_print_0 : decode cX12_print 0 = .ok (.iload_n 1, 1) := by decide +kernel
theorem dX12_print_1 : decode cX12_print 1 = .ok (.iconst 1, 1) := by decide +kernel
theorem dX12_print_2 : decode cX12_print 2 = .ok (.if_icmp .lt 10, 3) := by decide +kernel
theorem dX12_print_5 : decode cX12_print 5 = .ok (.iload_n 1, 1) := by decide +kernel
theorem dX12_print_6 : decode cX12_print 6 = .ok (.sipush 800, 3) := by decide +kernel
theorem dX12_print_9 : decode cX12_print 9 = .ok (.if_icmp .le 5, 3) := by decide +kernel
theorem dX12_print_12 : decode cX12_print 12 = .ok (.iconst (-1), 1) := by decide +kernel
theorem dX12_print_13 : decode cX12_print 13 = .ok (.ireturn, 1) := by decide +kernel
theorem dX12_print_14 : decode cX12_print 14 = .ok (.aload_n 0, 1) := by decide +kernel
theorem dX12_print_15 : decode cX12_print 15 = .ok (.iconst 0, 1) := by decide +kernel
theorem dX12_print_16 : decode cX12_print 16 = .ok (.putfield 275, 3) := by decide +kernel
theorem dX12_print_19 : decode cX12_print 19 = .ok (.aload_n 0, 1) := by decide +kernel
theorem dX12_print_20 : decode cX12_print 20 = .ok (.iconst 0, 1) := by decide +kernel
theorem dX12_print_21 : decode cX12_print 21 = .ok (.putfield 191, 3) := by decide +kernel
theorem dX12_print_24 : decode cX12_print 24 = .ok (.aload_n 0, 1) := by decide +kernel
theorem dX12_print_25 : decode cX12_print 25 = .ok (.iconst 0, 1) := by decide +kernel
theorem dX12_print_26 : decode cX12_print 26 = .ok (.putfield 195, 3) := by decide +kernel
theorem dX12_print_29 : decode cX12_print 29 = .ok (.aload_n 0, 1) := by decide +kernel
theorem dX12_print_30 : decode cX12_print 30 = .ok (.lconst 0, 1) := by decide +kernel
theorem dX12_print_31 : decode cX12_print 31 = .ok (.putfield 185, 3) := by decide +kernel
theorem dX12_print_34 : decode cX12_print 34 = .ok (.aload_n 0, 1) := by decide +kernel
theorem dX12_print_35 : decode cX12_print 35 = .ok (.iconst 0, 1) := by decide +kernel
theorem dX12_print_36 : decode cX12_print 36 = .ok (.putfield 198, 3) := by decide +kernel
theorem dX12_print_39 : decode cX12_print 39 = .ok (.aload_n 0, 1) := by decide +kernel
theorem dX12_print_40 : decode cX12_print 40 = .ok (.iconst 0, 1) := by decide +kernel
theorem dX12_print_41 : decode cX12_print 41 = .ok (.putfield 543, 3) := by decide +kernel
theorem dX12_print_44 : decode cX12_print 44 = .ok (.aload_n 0, 1) := by decide +kernel
theorem dX12_print_45 : decode cX12_print 45 = .ok (.iconst 0, 1) := by decide +kernel
theorem dX12_print_46 : decode cX12_print 46 = .ok (.putfield 586, 3) := by decide +kernel
theorem dX12_print_49 : decode cX12_print 49 = .ok (.aload_n 0, 1) := by decide +kernel
theorem dX12_print_50 : decode cX12_print 50 = .ok (.iconst (-1), 1) := by decide +kernel
theorem dX12_print_51 : decode cX12_print 51 = .ok (.putfield 136, 3) := by decide +kernel
theorem dX12_print_54 : decode cX12_print 54 = .ok (.aload_n 0, 1) := by decide +kernel
theorem dX12_print_55 : decode cX12_print 55 = .ok (.iconst (-1), 1) := by decide +kernel
theorem dX12_print_56 : decode cX12_print 56 = .ok (.putfield 140, 3) := by decide +kernel
theorem dX12_print_59 : decode cX12_print 59 = .ok (.aload_n 0, 1) := by decide +kernel
theorem dX12_print_60 : decode cX12_print 60 = .ok (.iconst 0, 1) := by decide +kernel
theorem dX12_print_61 : decode cX12_print 61 = .ok (.putfield 222, 3) := by decide +kernel
theorem dX12_print_64 : decode cX12_print 64 = .ok (.aload_n 0, 1) := by decide +kernel
theorem dX12_print_65 : decode cX12_print 65 = .ok (.iconst 0, 1) := by decide +kernel
theorem dX12_print_66 : decode cX12_print 66 = .ok (.putfield 279, 3) := by decide +kernel
theorem dX12_print_69 : decode cX12_print 69 = .ok (.aload_n 0, 1) := by decide +kernel
theorem dX12_print_70 : decode cX12_print 70 = .ok (.iconst 0, 1) := by decide +kernel
theorem dX12_print_71 : decode cX12_print 71 = .ok (.putfield 219, 3) := by decide +kernel
theorem dX12_print_74 : decode cX12_print 74 = .ok (.aload_n 0, 1) := by decide +kernel
theorem dX12_print_75 : decode cX12_print 75 = .ok (.invokevirtual 241, 3) := by decide +kernel
theorem dX12_print_78 : decode cX12_print 78 = .ok (.iconst 0, 1) := by decide +kernel
theorem dX12_print_79 : decode cX12_print 79 = .ok (.istore_n 2, 1) := by decide +kernel
theorem dX12_print_80 : decode cX12_print 80 = .ok (.iload_n 2, 1) := by decide +kernel
theorem dX12_print_81 : decode cX12_print 81 = .ok (.aload_n 0, 1) := by decide +kernel
theorem dX12_print_82 : decode cX12_print 82 = .ok (.getfield 153, 3) := by decide +kernel
theorem dX12_print_85 : decode cX12_print 85 = .ok (.if_icmp .ge 68, 3) := by decide +kernel
theorem dX12_print_88 : decode cX12_print 88 = .ok (.aload_n 0, 1) := by decide +kernel
theorem dX12_print_89 : decode cX12_print 89 = .ok (.getfield 586, 3) := by decide +kernel
theorem dX12_print_92 : decode cX12_print 92 = .ok (.ifCond .ne 61, 3) := by decide +kernel
theorem dX12_print_95 : decode cX12_print 95 = .ok (.aload_n 0, 1) := by decide +kernel
theorem dX12_print_96 : decode cX12_print 96 = .ok (.getfield 72, 3) := by decide +kernel
theorem dX12_print_99 : decode cX12_print 99 = .ok (.iload_n 2, 1) := by decide +kernel
theorem dX12_print_100 : decode cX12_print 100 = .ok (.iaload, 1) := by decide +kernel
theorem dX12_print_101 : decode cX12_print 101 = .ok (.ifCond .ne 11, 3) := by decide +kernel
theorem dX12_print_104 : decode cX12_print 104 = .ok (.aload_n 0, 1) := by decide +kernel
theorem dX12_print_105 : decode cX12_print 105 = .ok (.iload_n 2, 1) := by decide +kernel
theorem dX12_print_106 : decode cX12_print 106 = .ok (.invokevirtual 655, 3) := by decide +kernel
theorem dX12_print_109 : decode cX12_print 109 = .ok (.goto 9, 3) := by decide +kernel
theorem dX12_print_112 : decode cX12_print 112 = .ok (.aload_n 0, 1) := by decide +kernel
theorem dX12_print_113 : decode cX12_print 113 = .ok (.iload_n 2, 1) := by decide +kernel
theorem dX12_print_114 : decode cX12_print 114 = .ok (.invokevirtual 658, 3) := by decide +kernel
theorem dX12_print_117 : decode cX12_print 117 = .ok (.istore_n 3, 1) := by decide +kernel
theorem dX12_print_118 : decode cX12_print 118 = .ok (.aload_n 0, 1) := by decide +kernel
theorem dX12_print_119 : decode cX12_print 119 = .ok (.getfield 191, 3) := by decide +kernel
theorem dX12_print_122 : decode cX12_print 122 = .ok (.ifCond .eq 13, 3) := by decide +kernel
theorem dX12_print_125 : decode cX12_print 125 = .ok (.aload_n 0, 1) := by decide +kernel
theorem dX12_print_126 : decode cX12_print 126 = .ok (.iconst 1, 1) := by decide +kernel
theorem dX12_print_127 : decode cX12_print 127 = .ok (.putfield 586, 3) := by decide +kernel
theorem dX12_print_130 : decode cX12_print 130 = .ok (.aload_n 0, 1) := by decide +kernel
theorem dX12_print_131 : decode cX12_print 131 = .ok (.iconst (-1), 1) := by decide +kernel
theorem dX12_print_132 : decode cX12_print 132 = .ok (.putfield 140, 3) := by decide +kernel
theorem dX12_print_135 : decode cX12_print 135 = .ok (.aload_n 0, 1) := by decide +kernel
theorem dX12_print_136 : decode cX12_print 136 = .ok (.getfield 586, 3) := by decide +kernel
theorem dX12_print_139 : decode cX12_print 139 = .ok (.ifCond .eq 8, 3) := by decide +kernel
theorem dX12_print_142 : decode cX12_print 142 = .ok (.aload_n 0, 1) := by decide +kernel
theorem dX12_print_143 : decode cX12_print 143 = .ok (.iload_n 2, 1) := by decide +kernel
theorem dX12_print_144 : decode cX12_print 144 = .ok (.putfield 136, 3) := by decide +kernel
theorem dX12_print_147 : decode cX12_print 147 = .ok (.iinc 2 1, 3) := by decide +kernel
theorem dX12_print_150 : decode cX12_print 150 = .ok (.goto (-70), 3) := by decide +kernel
theorem dX12_print_153 : decode cX12_print 153 = .ok (.aload_n 0, 1) := by decide +kernel
theorem dX12_print_154 : decode cX12_print 154 = .ok (.iconst 0, 1) := by decide +kernel
theorem dX12_print_155 : decode cX12_print 155 = .ok (.putfield 153, 3) := by decide +kernel
theorem dX12_print_158 : decode cX12_print 158 = .ok (.aload_n 0, 1) := by decide +kernel
theorem dX12_print_159 : decode cX12_print 159 = .ok (.getfield 586, 3) := by decide +kernel
theorem dX12_print_162 : decode cX12_print 162 = .ok (.ifCond .eq 25, 3) := by decide +kernel
theorem dX12_print_165 : decode cX12_print 165 = .ok (.aload_n 0, 1) := by decide +kernel
theorem dX12_print_166 : decode cX12_print 166 = .ok (.invokevirtual 387, 3) := by decide +kernel
theorem dX12_print_169 : decode cX12_print 169 = .ok (.aload_n 0, 1) := by decide +kernel
theorem dX12_print_170 : decode cX12_print 170 = .ok (.iconst 0, 1) := by decide +kernel
theorem dX12_print_171 : decode cX12_print 171 = .ok (.putfield 198, 3) := by decide +kernel
theorem dX12_print_174 : decode cX12_print 174 = .ok (.aload_n 0, 1) := by decide +kernel
theorem dX12_print_175 : decode cX12_print 175 = .ok (.iconst 0, 1) := by decide +kernel
theorem dX12_print_176 : decode cX12_print 176 = .ok (.putfield 543, 3) := by decide +kernel
theorem dX12_print_179 : decode cX12_print 179 = .ok (.bipush (-10), 2) := by decide +kernel
theorem dX12_print_181 : decode cX12_print 181 = .ok (.aload_n 0, 1) := by decide +kernel
theorem dX12_print_182 : decode cX12_print 182 = .ok (.getfield 586, 3) := by decide +kernel
theorem dX12_print_185 : decode cX12_print 185 = .ok (.isub, 1) := by decide +kernel
theorem dX12_print_186 : decode cX12_print 186 = .ok (.ireturn, 1) := by decide +kernel
theorem dX12_print_187 : decode cX12_print 187 = .ok (.aload_n 0, 1) := by decide +kernel
theorem dX12_print_188 : decode cX12_print 188 = .ok (.getfield 198, 3) := by decide +kernel
theorem dX12_print_191 : decode cX12_print 191 = .ok (.ireturn, 1) := by decide +kernel
set_option maxRecDepth 100000 in
set_option maxHeartbeats 4000000 in
theorem c_X12_print (S : Hp) (h : Nat) (hm : h ∈ hL S) (hk : hK S h = 12) (p4 : Nat) (rp4 : hR S 1234 h = some p4) (mp4 : p4 ∈ hL S) (kp4 : Kd S p4 13) (lp4 : Ln S p4 64000) (o : Nat) (ro : hR S 1221 h = some o) (mo : o ∈ hL S) (ko : Kd S o 14) (lo : Ln S o 6) (i0 : hI S 1222 h = 0) (n1 : Int32) : Ct 2 yX12_print cX12_print 4 (some .int) 0 0 [.ref h, .int n1] S (fun r S' => r = some (.int (an_print n1)) ∧ Fm (fun f9 b9 => (f9 = 1232 ∧ b9 = h) ∨ (f9 = 1233 ∧ b9 = h) ∨ (f9 = 1236 ∧ b9 = h) ∨ (f9 = 1240 ∧ b9 = h) ∨ (f9 = 1242 ∧ b9 = h) ∨ (f9 = 1243 ∧ b9 = h) ∨ (f9 = 1244 ∧ b9 = h) ∨ (f9 = 1245 ∧ b9 = h) ∨ (f9 = 1229 ∧ b9 = h) ∨ (f9 = 1230 ∧ b9 = h) ∨ (f9 = 1231 ∧ b9 = h) ∨ (f9 = 1222 ∧ b9 = h) ∨ (f9 = 1235 ∧ b9 = h) ∨ (f9 = 1249 ∧ b9 = h)) (fun _ _ => False) (fun b9 => b9 = p4) S S') := by
  refine ct_of (by decide) (Nat.le_of_ble_eq_true rfl) fun x hn9 C M hm9 => ?_
  have C : CB x RX12 cX12_print := C
  refine J.eq (lv' := [(0, .ref h), (1, .int n1)]) rfl rfl rfl ?_
  refine j_iload_n C dX12_print_0 rfl 1 rfl ?_
  refine j_iconst (v := 1) C dX12_print_1 (by decide) ?_
  refine j_ic_lt (tgt := 12) C dX12_print_2 (by decide) (fun c_2 => ?_) (fun c_2 => ?_)
  · skip
    refine j_iconst (v := (-1)) C dX12_print_12 (by decide) ?_
    exact j_iret C M dX12_print_13 (by decide) (by decide) ⟨(congrArg (fun z9 => some (Value.int z9)) (by unfold an_print; first | (rw [if_neg c_2, if_pos c_9]) | (rw [if_neg c_2, if_neg c_9]) | (rw [if_pos c_2]))), (Fm.refl (WI := (fun f9 b9 => (f9 = 1232 ∧ b9 = h) ∨ (f9 = 1233 ∧ b9 = h) ∨ (f9 = 1236 ∧ b9 = h) ∨ (f9 = 1240 ∧ b9 = h) ∨ (f9 = 1242 ∧ b9 = h) ∨ (f9 = 1243 ∧ b9 = h) ∨ (f9 = 1244 ∧ b9 = h) ∨ (f9 = 1245 ∧ b9 = h) ∨ (f9 = 1229 ∧ b9 = h) ∨ (f9 = 1230 ∧ b9 = h) ∨ (f9 = 1231 ∧ b9 = h) ∨ (f9 = 1222 ∧ b9 = h) ∨ (f9 = 1235 ∧ b9 = h) ∨ (f9 = 1249 ∧ b9 = h))) (WR := (fun _ _ => False)) (WA := (fun b9 => b9 = p4)))⟩
  · skip
    refine j_iload_n C dX12_print_5 rfl 1 rfl ?_
    refine j_sipush (v := 800) C dX12_print_6 (by decide) ?_
    refine j_ic_le (tgt := 14) C dX12_print_9 (by decide) (fun c_9 => ?_) (fun c_9 => ?_)
    · skip
      refine j_aload_n C dX12_print_14 rfl 0 rfl ?_
      refine j_iconst (v := 0) C dX12_print_15 (by decide) ?_
      refine j_puti (f := 1232) C flX12_275 (by decide) rfl rfl dX12_print_16 hm hk rfl ?_
      show J _ _ _ _ _ 19 _
      refine j_aload_n C dX12_print_19 rfl 0 rfl ?_
      refine j_iconst (v := 0) C dX12_print_20 (by decide) ?_
      refine j_putz (f := 1233) C flX12_191 (by decide) rfl rfl (by decide) dX12_print_21 hm hk rfl ?_
      refine j_aload_n C dX12_print_24 rfl 0 rfl ?_
      refine j_iconst (v := 0) C dX12_print_25 (by decide) ?_
      refine j_puti (f := 1236) C flX12_195 (by decide) rfl rfl dX12_print_26 hm hk rfl ?_
      refine j_aload_n C dX12_print_29 rfl 0 rfl ?_
      refine j_lconst (v := 0) C dX12_print_30 (by decide) ?_
      show J _ _ _ _ _ 31 _
      refine j_putl (f := 1249) C flX12_185 (by decide) rfl rfl dX12_print_31 hm hk rfl ?_
      refine j_aload_n C dX12_print_34 rfl 0 rfl ?_
      refine j_iconst (v := 0) C dX12_print_35 (by decide) ?_
      refine j_puti (f := 1240) C flX12_198 (by decide) rfl rfl dX12_print_36 hm hk rfl ?_
      have hf_3 : Fm (fun f9 b9 => (f9 = 1232 ∧ b9 = h) ∨ (f9 = 1233 ∧ b9 = h) ∨ (f9 = 1236 ∧ b9 = h) ∨ (f9 = 1240 ∧ b9 = h) ∨ (f9 = 1242 ∧ b9 = h) ∨ (f9 = 1243 ∧ b9 = h) ∨ (f9 = 1244 ∧ b9 = h) ∨ (f9 = 1245 ∧ b9 = h) ∨ (f9 = 1229 ∧ b9 = h) ∨ (f9 = 1230 ∧ b9 = h) ∨ (f9 = 1231 ∧ b9 = h) ∨ (f9 = 1222 ∧ b9 = h) ∨ (f9 = 1235 ∧ b9 = h) ∨ (f9 = 1249 ∧ b9 = h)) (fun _ _ => False) (fun b9 => b9 = p4) S (sI (sJ (sI (sI (sI S 1232 h 0) 1233 h 0) 1236 h 0) 1249 h 0) 1240 h 0) := ((((((Fm.refl (WI := (fun f9 b9 => (f9 = 1232 ∧ b9 = h) ∨ (f9 = 1233 ∧ b9 = h) ∨ (f9 = 1236 ∧ b9 = h) ∨ (f9 = 1240 ∧ b9 = h) ∨ (f9 = 1242 ∧ b9 = h) ∨ (f9 = 1243 ∧ b9 = h) ∨ (f9 = 1244 ∧ b9 = h) ∨ (f9 = 1245 ∧ b9 = h) ∨ (f9 = 1229 ∧ b9 = h) ∨ (f9 = 1230 ∧ b9 = h) ∨ (f9 = 1231 ∧ b9 = h) ∨ (f9 = 1222 ∧ b9 = h) ∨ (f9 = 1235 ∧ b9 = h) ∨ (f9 = 1249 ∧ b9 = h))) (WR := (fun _ _ => False)) (WA := (fun b9 => b9 = p4))).sI _ (fun _ => (Or.inl ⟨rfl, rfl⟩))).sI _ (fun _ => (Or.inr (Or.inl ⟨rfl, rfl⟩)))).sI _ (fun _ => (Or.inr (Or.inr (Or.inl ⟨rfl, rfl⟩))))).sJ _ (fun _ => (Or.inr (Or.inr (Or.inr (Or.inr (Or.inr (Or.inr (Or.inr (Or.inr (Or.inr (Or.inr (Or.inr (Or.inr (Or.inr ⟨rfl, rfl⟩))))))))))))))).sI _ (fun _ => (Or.inr (Or.inr (Or.inr (Or.inl ⟨rfl, rfl⟩))))))
      obtain ⟨S_1, eS_2⟩ : ∃ S9 : Hp, S9 = (sI (sJ (sI (sI (sI S 1232 h 0) 1233 h 0) 1236 h 0) 1249 h 0) 1240 h 0) := ⟨_, rfl⟩
      refine J.eq (S' := S_1) eS_2.symm rfl rfl ?_
      have hm_4 : h ∈ hL S_1 := by rw [eS_2]; exact hm
      have hk_5 : Kd S_1 h 12 := by rw [eS_2]; exact hk
      have hm_6 : o ∈ hL S_1 := by rw [eS_2]; exact mo
      have hk_7 : Kd S_1 o 14 := by rw [eS_2]; exact ko
      have hn_8 : Ln S_1 o 6 := by rw [eS_2]; exact lo
      have hm_9 : p4 ∈ hL S_1 := by rw [eS_2]; exact mp4
      have hk_10 : Kd S_1 p4 13 := by rw [eS_2]; exact kp4
      have hn_11 : Ln S_1 p4 64000 := by rw [eS_2]; exact lp4
      have hv_12 : hI S_1 1222 h = 0 := by rw [eS_2]; exact (rd_sIf (S := (sJ (sI (sI (sI S 1232 h 0) 1233 h 0) 1236 h 0) 1249 h 0)) (g := 1240) (a := h) (v := 0) (by decide) (rd_sIf (S := (sI (sI S 1232 h 0) 1233 h 0)) (g := 1236) (a := h) (v := 0) (by decide) (rd_sIf (S := (sI S 1232 h 0)) (g := 1233) (a := h) (v := 0) (by decide) (rd_sIf (S := S) (g := 1232) (a := h) (v := 0) (by decide) i0))))
      have hv_13 : hI S_1 1232 h = 0 := by rw [eS_2]; exact (rd_sIf (S := (sJ (sI (sI (sI S 1232 h 0) 1233 h 0) 1236 h 0) 1249 h 0)) (g := 1240) (a := h) (v := 0) (by decide) (rd_sIf (S := (sI (sI S 1232 h 0) 1233 h 0)) (g := 1236) (a := h) (v := 0) (by decide) (rd_sIf (S := (sI S 1232 h 0)) (g := 1233) (a := h) (v := 0) (by decide) (rd_sI (S := S) (g := 1232) (a := h) (v := 0)))))
      have hv_14 : hI S_1 1233 h = 0 := by rw [eS_2]; exact (rd_sIf (S := (sJ (sI (sI (sI S 1232 h 0) 1233 h 0) 1236 h 0) 1249 h 0)) (g := 1240) (a := h) (v := 0) (by decide) (rd_sIf (S := (sI (sI S 1232 h 0) 1233 h 0)) (g := 1236) (a := h) (v := 0) (by decide) (rd_sI (S := (sI S 1232 h 0)) (g := 1233) (a := h) (v := 0))))
      have hv_15 : hI S_1 1236 h = 0 := by rw [eS_2]; exact (rd_sIf (S := (sJ (sI (sI (sI S 1232 h 0) 1233 h 0) 1236 h 0) 1249 h 0)) (g := 1240) (a := h) (v := 0) (by decide) (rd_sI (S := (sI (sI S 1232 h 0) 1233 h 0)) (g := 1236) (a := h) (v := 0)))
      have hv_16 : hI S_1 1240 h = 0 := by rw [eS_2]; exact (rd_sI (S := (sJ (sI (sI (sI S 1232 h 0) 1233 h 0) 1236 h 0) 1249 h 0)) (g := 1240) (a := h) (v := 0))
      have hv_17 : hJ S_1 1249 h = 0 := by rw [eS_2]; exact (rd_sJ (S := (sI (sI (sI S 1232 h 0) 1233 h 0) 1236 h 0)) (g := 1249) (a := h) (v := 0))
      have hv_18 : hR S_1 1221 h = (some o) := by rw [eS_2]; exact ro
      have hv_19 : hR S_1 1234 h = (some p4) := by rw [eS_2]; exact rp4
      have hf_20 : Fm (fun f9 b9 => (f9 = 1232 ∧ b9 = h) ∨ (f9 = 1233 ∧ b9 = h) ∨ (f9 = 1236 ∧ b9 = h) ∨ (f9 = 1240 ∧ b9 = h) ∨ (f9 = 1242 ∧ b9 = h) ∨ (f9 = 1243 ∧ b9 = h) ∨ (f9 = 1244 ∧ b9 = h) ∨ (f9 = 1245 ∧ b9 = h) ∨ (f9 = 1229 ∧ b9 = h) ∨ (f9 = 1230 ∧ b9 = h) ∨ (f9 = 1231 ∧ b9 = h) ∨ (f9 = 1222 ∧ b9 = h) ∨ (f9 = 1235 ∧ b9 = h) ∨ (f9 = 1249 ∧ b9 = h)) (fun _ _ => False) (fun b9 => b9 = p4) S S_1 := by rw [eS_2]; exact hf_3
      refine j_aload_n C dX12_print_39 rfl 0 rfl ?_
      refine j_iconst (v := 0) C dX12_print_40 (by decide) ?_
      refine j_puti (f := 1242) C flX12_543 (by decide) rfl rfl dX12_print_41 hm_4 hk_5 rfl ?_
      refine j_aload_n C dX12_print_44 rfl 0 rfl ?_
      show J _ _ _ _ _ 45 _
      refine j_iconst (v := 0) C dX12_print_45 (by decide) ?_
      refine j_puti (f := 1243) C flX12_586 (by decide) rfl rfl dX12_print_46 hm_4 hk_5 rfl ?_
      refine j_aload_n C dX12_print_49 rfl 0 rfl ?_
      refine j_iconst (v := (-1)) C dX12_print_50 (by decide) ?_
      refine j_puti (f := 1244) C flX12_136 (by decide) rfl rfl dX12_print_51 hm_4 hk_5 rfl ?_
      refine j_aload_n C dX12_print_54 rfl 0 rfl ?_
      refine j_iconst (v := (-1)) C dX12_print_55 (by decide) ?_
      refine j_puti (f := 1245) C flX12_140 (by decide) rfl rfl dX12_print_56 hm_4 hk_5 rfl ?_
      show J _ _ _ _ _ 59 _
      refine j_aload_n C dX12_print_59 rfl 0 rfl ?_
      refine j_iconst (v := 0) C dX12_print_60 (by decide) ?_
      refine j_puti (f := 1229) C flX12_222 (by decide) rfl rfl dX12_print_61 hm_4 hk_5 rfl ?_
      have hf_23 : Fm (fun f9 b9 => (f9 = 1232 ∧ b9 = h) ∨ (f9 = 1233 ∧ b9 = h) ∨ (f9 = 1236 ∧ b9 = h) ∨ (f9 = 1240 ∧ b9 = h) ∨ (f9 = 1242 ∧ b9 = h) ∨ (f9 = 1243 ∧ b9 = h) ∨ (f9 = 1244 ∧ b9 = h) ∨ (f9 = 1245 ∧ b9 = h) ∨ (f9 = 1229 ∧ b9 = h) ∨ (f9 = 1230 ∧ b9 = h) ∨ (f9 = 1231 ∧ b9 = h) ∨ (f9 = 1222 ∧ b9 = h) ∨ (f9 = 1235 ∧ b9 = h) ∨ (f9 = 1249 ∧ b9 = h)) (fun _ _ => False) (fun b9 => b9 = p4) S (sI (sI (sI (sI (sI S_1 1242 h 0) 1243 h 0) 1244 h (-1)) 1245 h (-1)) 1229 h 0) := (((((hf_20.sI _ (fun _ => (Or.inr (Or.inr (Or.inr (Or.inr (Or.inl ⟨rfl, rfl⟩))))))).sI _ (fun _ => (Or.inr (Or.inr (Or.inr (Or.inr (Or.inr (Or.inl ⟨rfl, rfl⟩)))))))).sI _ (fun _ => (Or.inr (Or.inr (Or.inr (Or.inr (Or.inr (Or.inr (Or.inl ⟨rfl, rfl⟩))))))))).sI _ (fun _ => (Or.inr (Or.inr (Or.inr (Or.inr (Or.inr (Or.inr (Or.inr (Or.inl ⟨rfl, rfl⟩)))))))))).sI _ (fun _ => (Or.inr (Or.inr (Or.inr (Or.inr (Or.inr (Or.inr (Or.inr (Or.inr (Or.inl ⟨rfl, rfl⟩)))))))))))
      obtain ⟨S_21, eS_22⟩ : ∃ S9 : Hp, S9 = (sI (sI (sI (sI (sI S_1 1242 h 0) 1243 h 0) 1244 h (-1)) 1245 h (-1)) 1229 h 0) := ⟨_, rfl⟩
      refine J.eq (S' := S_21) eS_22.symm rfl rfl ?_
      have hm_24 : h ∈ hL S_21 := by rw [eS_22]; exact hm_4
      have hk_25 : Kd S_21 h 12 := by rw [eS_22]; exact hk_5
      have hm_26 : o ∈ hL S_21 := by rw [eS_22]; exact hm_6
      have hk_27 : Kd S_21 o 14 := by rw [eS_22]; exact hk_7
      have hn_28 : Ln S_21 o 6 := by rw [eS_22]; exact hn_8
      have hm_29 : p4 ∈ hL S_21 := by rw [eS_22]; exact hm_9
      have hk_30 : Kd S_21 p4 13 := by rw [eS_22]; exact hk_10
      have hn_31 : Ln S_21 p4 64000 := by rw [eS_22]; exact hn_11
      have hv_32 : hI S_21 1222 h = 0 := by rw [eS_22]; exact (rd_sIf (S := (sI (sI (sI (sI S_1 1242 h 0) 1243 h 0) 1244 h (-1)) 1245 h (-1))) (g := 1229) (a := h) (v := 0) (by decide) (rd_sIf (S := (sI (sI (sI S_1 1242 h 0) 1243 h 0) 1244 h (-1))) (g := 1245) (a := h) (v := (-1)) (by decide) (rd_sIf (S := (sI (sI S_1 1242 h 0) 1243 h 0)) (g := 1244) (a := h) (v := (-1)) (by decide) (rd_sIf (S := (sI S_1 1242 h 0)) (g := 1243) (a := h) (v := 0) (by decide) (rd_sIf (S := S_1) (g := 1242) (a := h) (v := 0) (by decide) hv_12)))))
      have hv_33 : hI S_21 1229 h = 0 := by rw [eS_22]; exact (rd_sI (S := (sI (sI (sI (sI S_1 1242 h 0) 1243 h 0) 1244 h (-1)) 1245 h (-1))) (g := 1229) (a := h) (v := 0))
      have hv_34 : hI S_21 1232 h = 0 := by rw [eS_22]; exact (rd_sIf (S := (sI (sI (sI (sI S_1 1242 h 0) 1243 h 0) 1244 h (-1)) 1245 h (-1))) (g := 1229) (a := h) (v := 0) (by decide) (rd_sIf (S := (sI (sI (sI S_1 1242 h 0) 1243 h 0) 1244 h (-1))) (g := 1245) (a := h) (v := (-1)) (by decide) (rd_sIf (S := (sI (sI S_1 1242 h 0) 1243 h 0)) (g := 1244) (a := h) (v := (-1)) (by decide) (rd_sIf (S := (sI S_1 1242 h 0)) (g := 1243) (a := h) (v := 0) (by decide) (rd_sIf (S := S_1) (g := 1242) (a := h) (v := 0) (by decide) hv_13)))))
      have hv_35 : hI S_21 1233 h = 0 := by rw [eS_22]; exact (rd_sIf (S := (sI (sI (sI (sI S_1 1242 h 0) 1243 h 0) 1244 h (-1)) 1245 h (-1))) (g := 1229) (a := h) (v := 0) (by decide) (rd_sIf (S := (sI (sI (sI S_1 1242 h 0) 1243 h 0) 1244 h (-1))) (g := 1245) (a := h) (v := (-1)) (by decide) (rd_sIf (S := (sI (sI S_1 1242 h 0) 1243 h 0)) (g := 1244) (a := h) (v := (-1)) (by decide) (rd_sIf (S := (sI S_1 1242 h 0)) (g := 1243) (a := h) (v := 0) (by decide) (rd_sIf (S := S_1) (g := 1242) (a := h) (v := 0) (by decide) hv_14)))))
      have hv_36 : hI S_21 1236 h = 0 := by rw [eS_22]; exact (rd_sIf (S := (sI (sI (sI (sI S_1 1242 h 0) 1243 h 0) 1244 h (-1)) 1245 h (-1))) (g := 1229) (a := h) (v := 0) (by decide) (rd_sIf (S := (sI (sI (sI S_1 1242 h 0) 1243 h 0) 1244 h (-1))) (g := 1245) (a := h) (v := (-1)) (by decide) (rd_sIf (S := (sI (sI S_1 1242 h 0) 1243 h 0)) (g := 1244) (a := h) (v := (-1)) (by decide) (rd_sIf (S := (sI S_1 1242 h 0)) (g := 1243) (a := h) (v := 0) (by decide) (rd_sIf (S := S_1) (g := 1242) (a := h) (v := 0) (by decide) hv_15)))))
      have hv_37 : hI S_21 1240 h = 0 := by rw [eS_22]; exact (rd_sIf (S := (sI (sI (sI (sI S_1 1242 h 0) 1243 h 0) 1244 h (-1)) 1245 h (-1))) (g := 1229) (a := h) (v := 0) (by decide) (rd_sIf (S := (sI (sI (sI S_1 1242 h 0) 1243 h 0) 1244 h (-1))) (g := 1245) (a := h) (v := (-1)) (by decide) (rd_sIf (S := (sI (sI S_1 1242 h 0) 1243 h 0)) (g := 1244) (a := h) (v := (-1)) (by decide) (rd_sIf (S := (sI S_1 1242 h 0)) (g := 1243) (a := h) (v := 0) (by decide) (rd_sIf (S := S_1) (g := 1242) (a := h) (v := 0) (by decide) hv_16)))))
      have hv_38 : hI S_21 1242 h = 0 := by rw [eS_22]; exact (rd_sIf (S := (sI (sI (sI (sI S_1 1242 h 0) 1243 h 0) 1244 h (-1)) 1245 h (-1))) (g := 1229) (a := h) (v := 0) (by decide) (rd_sIf (S := (sI (sI (sI S_1 1242 h 0) 1243 h 0) 1244 h (-1))) (g := 1245) (a := h) (v := (-1)) (by decide) (rd_sIf (S := (sI (sI S_1 1242 h 0) 1243 h 0)) (g := 1244) (a := h) (v := (-1)) (by decide) (rd_sIf (S := (sI S_1 1242 h 0)) (g := 1243) (a := h) (v := 0) (by decide) (rd_sI (S := S_1) (g := 1242) (a := h) (v := 0))))))
      have hv_39 : hI S_21 1243 h = 0 := by rw [eS_22]; exact (rd_sIf (S := (sI (sI (sI (sI S_1 1242 h 0) 1243 h 0) 1244 h (-1)) 1245 h (-1))) (g := 1229) (a := h) (v := 0) (by decide) (rd_sIf (S := (sI (sI (sI S_1 1242 h 0) 1243 h 0) 1244 h (-1))) (g := 1245) (a := h) (v := (-1)) (by decide) (rd_sIf (S := (sI (sI S_1 1242 h 0) 1243 h 0)) (g := 1244) (a := h) (v := (-1)) (by decide) (rd_sI (S := (sI S_1 1242 h 0)) (g := 1243) (a := h) (v := 0)))))
      have hv_40 : hI S_21 1244 h = (-1) := by rw [eS_22]; exact (rd_sIf (S := (sI (sI (sI (sI S_1 1242 h 0) 1243 h 0) 1244 h (-1)) 1245 h (-1))) (g := 1229) (a := h) (v := 0) (by decide) (rd_sIf (S := (sI (sI (sI S_1 1242 h 0) 1243 h 0) 1244 h (-1))) (g := 1245) (a := h) (v := (-1)) (by decide) (rd_sI (S := (sI (sI S_1 1242 h 0) 1243 h 0)) (g := 1244) (a := h) (v := (-1)))))
      have hv_41 : hI S_21 1245 h = (-1) := by rw [eS_22]; exact (rd_sIf (S := (sI (sI (sI (sI S_1 1242 h 0) 1243 h 0) 1244 h (-1)) 1245 h (-1))) (g := 1229) (a := h) (v := 0) (by decide) (rd_sI (S := (sI (sI (sI S_1 1242 h 0) 1243 h 0) 1244 h (-1))) (g := 1245) (a := h) (v := (-1))))
      have hv_42 : hJ S_21 1249 h = 0 := by rw [eS_22]; exact hv_17
      have hv_43 : hR S_21 1221 h = (some o) := by rw [eS_22]; exact hv_18
      have hv_44 : hR S_21 1234 h = (some p4) := by rw [eS_22]; exact hv_19
      have hf_45 : Fm (fun f9 b9 => (f9 = 1232 ∧ b9 = h) ∨ (f9 = 1233 ∧ b9 = h) ∨ (f9 = 1236 ∧ b9 = h) ∨ (f9 = 1240 ∧ b9 = h) ∨ (f9 = 1242 ∧ b9 = h) ∨ (f9 = 1243 ∧ b9 = h) ∨ (f9 = 1244 ∧ b9 = h) ∨ (f9 = 1245 ∧ b9 = h) ∨ (f9 = 1229 ∧ b9 = h) ∨ (f9 = 1230 ∧ b9 = h) ∨ (f9 = 1231 ∧ b9 = h) ∨ (f9 = 1222 ∧ b9 = h) ∨ (f9 = 1235 ∧ b9 = h) ∨ (f9 = 1249 ∧ b9 = h)) (fun _ _ => False) (fun b9 => b9 = p4) S S_21 := by rw [eS_22]; exact hf_23
      refine j_aload_n C dX12_print_64 rfl 0 rfl ?_
      refine j_iconst (v := 0) C dX12_print_65 (by decide) ?_
      refine j_putz (f := 1230) C flX12_279 (by decide) rfl rfl (by decide) dX12_print_66 hm_24 hk_25 rfl ?_
      refine j_aload_n C dX12_print_69 rfl 0 rfl ?_
      refine j_iconst (v := 0) C dX12_print_70 (by decide) ?_
      show J _ _ _ _ _ 71 _
      refine j_putz (f := 1231) C flX12_219 (by decide) rfl rfl (by decide) dX12_print_71 hm_24 hk_25 rfl ?_
      refine j_aload_n C dX12_print_74 rfl 0 rfl ?_
      have hf_46 : Fm (fun f9 b9 => (f9 = 1232 ∧ b9 = h) ∨ (f9 = 1233 ∧ b9 = h) ∨ (f9 = 1236 ∧ b9 = h) ∨ (f9 = 1240 ∧ b9 = h) ∨ (f9 = 1242 ∧ b9 = h) ∨ (f9 = 1243 ∧ b9 = h) ∨ (f9 = 1244 ∧ b9 = h) ∨ (f9 = 1245 ∧ b9 = h) ∨ (f9 = 1229 ∧ b9 = h) ∨ (f9 = 1230 ∧ b9 = h) ∨ (f9 = 1231 ∧ b9 = h) ∨ (f9 = 1222 ∧ b9 = h) ∨ (f9 = 1235 ∧ b9 = h) ∨ (f9 = 1249 ∧ b9 = h)) (fun _ _ => False) (fun b9 => b9 = p4) S (sI (sI S_21 1230 h 0) 1231 h 0) := ((hf_45.sI _ (fun _ => (Or.inr (Or.inr (Or.inr (Or.inr (Or.inr (Or.inr (Or.inr (Or.inr (Or.inr (Or.inl ⟨rfl, rfl⟩)))))))))))).sI _ (fun _ => (Or.inr (Or.inr (Or.inr (Or.inr (Or.inr (Or.inr (Or.inr (Or.inr (Or.inr (Or.inr (Or.inl ⟨rfl, rfl⟩)))))))))))))
      refine j_callV (ci := 12) C [] [] mlX12_241 mcX12_white (c_X12_white (sI (sI S_21 1230 h 0) 1231 h 0) h hm_24 hk_25 p4 hv_44 hm_29 hk_30 hn_31) hm_24 hk_25 rfl (M.rm (by decide) (by decide) (Nat.le_of_ble_eq_true rfl) (Nat.le_of_ble_eq_true rfl)) rfl rfl (Nat.le_of_ble_eq_true rfl) dX12_print_75 (fun r_47 S_48 hp_49 => ?_)
      obtain ⟨rfl, hf_50⟩ := hp_49
      refine J.eq (st' := []) rfl rfl rfl ?_
      have hm_51 : h ∈ hL S_48 := hf_50.mem hm_24
      have hk_52 : Kd S_48 h 12 := hf_50.kd hm_24 hk_25
      have hm_53 : o ∈ hL S_48 := hf_50.mem hm_26
      have hk_54 : Kd S_48 o 14 := hf_50.kd hm_26 hk_27
      have hn_55 : Ln S_48 o 6 := hf_50.ln hm_26 hn_28
      have hm_56 : p4 ∈ hL S_48 := hf_50.mem hm_29
      have hk_57 : Kd S_48 p4 13 := hf_50.kd hm_29 hk_30
      have hn_58 : Ln S_48 p4 64000 := hf_50.ln hm_29 hn_31
      have hv_59 : hI S_48 1222 h = 0 := hf_50.fi hm_24 (fun q9 => absurd q9.1 (by decide)) (rd_sIf (S := (sI S_21 1230 h 0)) (g := 1231) (a := h) (v := 0) (by decide) (rd_sIf (S := S_21) (g := 1230) (a := h) (v := 0) (by decide) hv_32))
      have hv_60 : hI S_48 1229 h = 0 := hf_50.fi hm_24 (fun q9 => absurd q9.1 (by decide)) (rd_sIf (S := (sI S_21 1230 h 0)) (g := 1231) (a := h) (v := 0) (by decide) (rd_sIf (S := S_21) (g := 1230) (a := h) (v := 0) (by decide) hv_33))
      have hv_61 : hI S_48 1230 h = 0 := hf_50.fi hm_24 (fun q9 => absurd q9.1 (by decide)) (rd_sIf (S := (sI S_21 1230 h 0)) (g := 1231) (a := h) (v := 0) (by decide) (rd_sI (S := S_21) (g := 1230) (a := h) (v := 0)))
      have hv_62 : hI S_48 1231 h = 0 := hf_50.fi hm_24 (fun q9 => absurd q9.1 (by decide)) (rd_sI (S := (sI S_21 1230 h 0)) (g := 1231) (a := h) (v := 0))
      have hv_63 : hI S_48 1232 h = 0 := hf_50.fi hm_24 (fun q9 => absurd q9.1 (by decide)) (rd_sIf (S := (sI S_21 1230 h 0)) (g := 1231) (a := h) (v := 0) (by decide) (rd_sIf (S := S_21) (g := 1230) (a := h) (v := 0) (by decide) hv_34))
      have hv_64 : hI S_48 1233 h = 0 := hf_50.fi hm_24 (fun q9 => absurd q9.1 (by decide)) (rd_sIf (S := (sI S_21 1230 h 0)) (g := 1231) (a := h) (v := 0) (by decide) (rd_sIf (S := S_21) (g := 1230) (a := h) (v := 0) (by decide) hv_35))
      have hv_65 : hI S_48 1236 h = 0 := hf_50.fi hm_24 (fun q9 => absurd q9.1 (by decide)) (rd_sIf (S := (sI S_21 1230 h 0)) (g := 1231) (a := h) (v := 0) (by decide) (rd_sIf (S := S_21) (g := 1230) (a := h) (v := 0) (by decide) hv_36))
      have hv_66 : hI S_48 1240 h = 0 := hf_50.fi hm_24 (fun q9 => absurd q9.1 (by decide)) (rd_sIf (S := (sI S_21 1230 h 0)) (g := 1231) (a := h) (v := 0) (by decide) (rd_sIf (S := S_21) (g := 1230) (a := h) (v := 0) (by decide) hv_37))
      have hv_67 : hI S_48 1242 h = 0 := hf_50.fi hm_24 (fun q9 => absurd q9.1 (by decide)) (rd_sIf (S := (sI S_21 1230 h 0)) (g := 1231) (a := h) (v := 0) (by decide) (rd_sIf (S := S_21) (g := 1230) (a := h) (v := 0) (by decide) hv_38))
      have hv_68 : hI S_48 1243 h = 0 := hf_50.fi hm_24 (fun q9 => absurd q9.1 (by decide)) (rd_sIf (S := (sI S_21 1230 h 0)) (g := 1231) (a := h) (v := 0) (by decide) (rd_sIf (S := S_21) (g := 1230) (a := h) (v := 0) (by decide) hv_39))
      have hv_69 : hI S_48 1244 h = (-1) := hf_50.fi hm_24 (fun q9 => absurd q9.1 (by decide)) (rd_sIf (S := (sI S_21 1230 h 0)) (g := 1231) (a := h) (v := 0) (by decide) (rd_sIf (S := S_21) (g := 1230) (a := h) (v := 0) (by decide) hv_40))
      have hv_70 : hI S_48 1245 h = (-1) := hf_50.fi hm_24 (fun q9 => absurd q9.1 (by decide)) (rd_sIf (S := (sI S_21 1230 h 0)) (g := 1231) (a := h) (v := 0) (by decide) (rd_sIf (S := S_21) (g := 1230) (a := h) (v := 0) (by decide) hv_41))
      have hv_71 : hJ S_48 1249 h = 0 := hf_50.fj hm_24 (fun q9 => absurd q9.1 (by decide)) hv_42
      have hv_72 : hR S_48 1221 h = (some o) := hf_50.fr hm_24 (fun h9 => h9) hv_43
      have hv_73 : hR S_48 1234 h = (some p4) := hf_50.fr hm_24 (fun h9 => h9) hv_44
      have hf_74 : Fm (fun f9 b9 => (f9 = 1232 ∧ b9 = h) ∨ (f9 = 1233 ∧ b9 = h) ∨ (f9 = 1236 ∧ b9 = h) ∨ (f9 = 1240 ∧ b9 = h) ∨ (f9 = 1242 ∧ b9 = h) ∨ (f9 = 1243 ∧ b9 = h) ∨ (f9 = 1244 ∧ b9 = h) ∨ (f9 = 1245 ∧ b9 = h) ∨ (f9 = 1229 ∧ b9 = h) ∨ (f9 = 1230 ∧ b9 = h) ∨ (f9 = 1231 ∧ b9 = h) ∨ (f9 = 1222 ∧ b9 = h) ∨ (f9 = 1235 ∧ b9 = h) ∨ (f9 = 1249 ∧ b9 = h)) (fun _ _ => False) (fun b9 => b9 = p4) S S_48 := hf_46.then hf_50 (fun a9 ha9 => ⟨(fun f9 h9 => (fun h8 => (Or.inr (Or.inr (Or.inr (Or.inr (Or.inr (Or.inr (Or.inr (Or.inr (Or.inr (Or.inr (Or.inr (Or.inr (Or.inl h8)))))))))))))) h9), (fun f9 h9 => h9.elim), (fun h9 => (fun h8 => h8) h9)⟩)
      refine j_iconst (v := 0) C dX12_print_78 (by decide) ?_
      refine j_istore_n (lv' := [(2, .int 0), (0, .ref h), (1, .int n1)]) C dX12_print_79 rfl (by rw [hn9]; decide) rfl ?_
      refine j_iload_n C dX12_print_80 rfl 0 rfl ?_
      refine j_aload_n C dX12_print_81 rfl 1 rfl ?_
      refine j_geti (f := 1222) (v := 0) C flX12_153 dX12_print_82 hm_51 hk_52 (by decide) (by decide) rfl hv_59 ?_
      show J _ _ _ _ _ 85 _
      refine j_ic_ge (tgt := 153) C dX12_print_85 (by decide) (fun c9 => ?_) (fun c9 => absurd (by decide) c9)
      refine j_aload_n C dX12_print_153 rfl 1 rfl ?_
      refine j_iconst (v := 0) C dX12_print_154 (by decide) ?_
      refine j_puti (f := 1222) C flX12_153 (by decide) rfl rfl dX12_print_155 hm_51 hk_52 rfl ?_
      refine j_aload_n C dX12_print_158 rfl 1 rfl ?_
      refine j_geti (f := 1243) (v := 0) C flX12_586 dX12_print_159 hm_51 hk_52 (by decide) (by decide) rfl (rd_sIf (S := S_48) (g := 1222) (a := h) (v := 0) (by decide) hv_68) ?_
      refine j_if_eq (tgt := 187) C dX12_print_162 (by decide) (fun c9 => ?_) (fun c9 => absurd (by decide) c9)
      refine j_aload_n C dX12_print_187 rfl 1 rfl ?_
      show J _ _ _ _ _ 188 _
      refine j_geti (f := 1240) (v := 0) C flX12_198 dX12_print_188 hm_51 hk_52 (by decide) (by decide) rfl (rd_sIf (S := S_48) (g := 1222) (a := h) (v := 0) (by decide) hv_66) ?_
      exact j_iret C M dX12_print_191 (Nat.le_of_ble_eq_true rfl) (Nat.le_of_ble_eq_true rfl) ⟨(congrArg (fun z9 => some (Value.int z9)) (by unfold an_print; first | (rw [if_neg c_2, if_pos c_9]) | (rw [if_neg c_2, if_neg c_9]) | (rw [if_pos c_2]))), (hf_74.sI _ (fun _ => (Or.inr (Or.inr (Or.inr (Or.inr (Or.inr (Or.inr (Or.inr (Or.inr (Or.inr (Or.inr (Or.inr (Or.inl ⟨rfl, rfl⟩))))))))))))))⟩
    · skip
      refine j_iconst (v := (-1)) C dX12_print_12 (by decide) ?_
      exact j_iret C M dX12_print_13 (by decide) (by decide) ⟨(congrArg (fun z9 => some (Value.int z9)) (by unfold an_print; first | (rw [if_neg c_2, if_pos c_9]) | (rw [if_neg c_2, if_neg c_9]) | (rw [if_pos c_2]))), (Fm.refl (WI := (fun f9 b9 => (f9 = 1232 ∧ b9 = h) ∨ (f9 = 1233 ∧ b9 = h) ∨ (f9 = 1236 ∧ b9 = h) ∨ (f9 = 1240 ∧ b9 = h) ∨ (f9 = 1242 ∧ b9 = h) ∨ (f9 = 1243 ∧ b9 = h) ∨ (f9 = 1244 ∧ b9 = h) ∨ (f9 = 1245 ∧ b9 = h) ∨ (f9 = 1229 ∧ b9 = h) ∨ (f9 = 1230 ∧ b9 = h) ∨ (f9 = 1231 ∧ b9 = h) ∨ (f9 = 1222 ∧ b9 = h) ∨ (f9 = 1235 ∧ b9 = h) ∨ (f9 = 1249 ∧ b9 = h))) (WR := (fun _ _ => False)) (WA := (fun b9 => b9 = p4)))⟩

theorem dX12_fault_0 : decode cX12_fault 0 = .ok (.iload_n 1, 1) := by decide +kernel
theorem dX12_fault_1 : decode cX12_fault 1 = .ok (.ifCond .ne 8, 3) := by decide +kernel
theorem dX12_fault_4 : decode cX12_fault 4 = .ok (.aload_n 0, 1) := by decide +kernel
theorem dX12_fault_5 : decode cX12_fault 5 = .ok (.getfield 586, 3) := by decide +kernel
theorem dX12_fault_8 : decode cX12_fault 8 = .ok (.ireturn, 1) := by decide +kernel
theorem dX12_fault_9 : decode cX12_fault 9 = .ok (.iload_n 1, 1) := by decide +kernel
theorem dX12_fault_10 : decode cX12_fault 10 = .ok (.iconst 1, 1) := by decide +kernel
theorem dX12_fault_11 : decode cX12_fault 11 = .ok (.if_icmp .ne 10, 3) := by decide +kernel
theorem dX12_fault_14 : decode cX12_fault 14 = .ok (.aload_n 0, 1) := by decide +kernel
theorem dX12_fault_15 : decode cX12_fault 15 = .ok (.getfield 136, 3) := by decide +kernel
theorem dX12_fault_18 : decode cX12_fault 18 = .ok (.goto 16, 3) := by decide +kernel
theorem dX12_fault_21 : decode cX12_fault 21 = .ok (.iload_n 1, 1) := by decide +kernel
theorem dX12_fault_22 : decode cX12_fault 22 = .ok (.iconst 2, 1) := by decide +kernel
theorem dX12_fault_23 : decode cX12_fault 23 = .ok (.if_icmp .ne 10, 3) := by decide +kernel
theorem dX12_fault_26 : decode cX12_fault 26 = .ok (.aload_n 0, 1) := by decide +kernel
theorem dX12_fault_27 : decode cX12_fault 27 = .ok (.getfield 140, 3) := by decide +kernel
theorem dX12_fault_30 : decode cX12_fault 30 = .ok (.goto 4, 3) := by decide +kernel
theorem dX12_fault_33 : decode cX12_fault 33 = .ok (.iconst (-1), 1) := by decide +kernel
theorem dX12_fault_34 : decode cX12_fault 34 = .ok (.ireturn, 1) := by decide +kernel
set_option maxRecDepth 100000 in
set_option maxHeartbeats 4000000 in
theorem c_X12_fault (S : Hp) (h : Nat) (hm : h ∈ hL S) (hk : hK S h = 12) (i0 : hI S 1243 h = 0) (i1 : hI S 1244 h = (-1)) (i2 : hI S 1245 h = (-1)) (w0 : Int32) : Ct 1 yX12_fault cX12_fault 2 (some .int) 0 0 [.ref h, .int w0] S (fun r S' => r = some (.int (an_fault w0)) ∧ Fm (fun _ _ => False) (fun _ _ => False) (fun _ => False) S S') := by
  refine ct_of (by decide) (Nat.le_of_ble_eq_true rfl) fun x hn9 C M hm9 => ?_
  have C : CB x RX12 cX12_fault := C
  refine J.eq (lv' := [(0, .ref h), (1, .int w0)]) rfl rfl rfl ?_
  refine j_iload_n C dX12_fault_0 rfl 1 rfl ?_
  refine j_if_ne (tgt := 9) C dX12_fault_1 (by decide) (fun c_1 => ?_) (fun c_1 => ?_)
  · skip
    refine j_iload_n C dX12_fault_9 rfl 1 rfl ?_
    refine j_iconst (v := 1) C dX12_fault_10 (by decide) ?_
    refine j_ic_ne (tgt := 21) C dX12_fault_11 (by decide) (fun c_11 => ?_) (fun c_11 => ?_)
    · skip
      refine j_iload_n C dX12_fault_21 rfl 1 rfl ?_
      refine j_iconst (v := 2) C dX12_fault_22 (by decide) ?_
      refine j_ic_ne (tgt := 33) C dX12_fault_23 (by decide) (fun c_23 => ?_) (fun c_23 => ?_)
      · skip
        refine j_iconst (v := (-1)) C dX12_fault_33 (by decide) ?_
        exact j_iret C M dX12_fault_34 (by decide) (by decide) ⟨(congrArg (fun z9 => some (Value.int z9)) (by unfold an_fault; first | (rw [if_neg c_1]) | (rw [if_pos c_1]))), (Fm.refl (WI := (fun _ _ => False)) (WR := (fun _ _ => False)) (WA := (fun _ => False)))⟩
      · skip
        refine j_aload_n C dX12_fault_26 rfl 0 rfl ?_
        refine j_geti (f := 1245) (v := (-1)) C flX12_140 dX12_fault_27 hm hk (by decide) (by decide) rfl i2 ?_
        show J _ _ _ _ _ 30 _
        refine j_goto (tgt := 34) C dX12_fault_30 (by decide) ?_
        exact j_iret C M dX12_fault_34 (by decide) (by decide) ⟨(congrArg (fun z9 => some (Value.int z9)) (by unfold an_fault; first | (rw [if_neg c_1]) | (rw [if_pos c_1]))), (Fm.refl (WI := (fun _ _ => False)) (WR := (fun _ _ => False)) (WA := (fun _ => False)))⟩
    · skip
      refine j_aload_n C dX12_fault_14 rfl 0 rfl ?_
      refine j_geti (f := 1244) (v := (-1)) C flX12_136 dX12_fault_15 hm hk (by decide) (by decide) rfl i1 ?_
      refine j_goto (tgt := 34) C dX12_fault_18 (by decide) ?_
      exact j_iret C M dX12_fault_34 (by decide) (by decide) ⟨(congrArg (fun z9 => some (Value.int z9)) (by unfold an_fault; first | (rw [if_neg c_1]) | (rw [if_pos c_1]))), (Fm.refl (WI := (fun _ _ => False)) (WR := (fun _ _ => False)) (WA := (fun _ => False)))⟩
  · skip
    refine j_aload_n C dX12_fault_4 rfl 0 rfl ?_
    refine j_geti (f := 1243) (v := 0) C flX12_586 dX12_fault_5 hm hk (by decide) (by decide) rfl i0 ?_
    exact j_iret C M dX12_fault_8 (by decide) (by decide) ⟨(congrArg (fun z9 => some (Value.int z9)) (by unfold an_fault; first | (rw [if_neg c_1]) | (rw [if_pos c_1]))), (Fm.refl (WI := (fun _ _ => False)) (WR := (fun _ _ => False)) (WA := (fun _ => False)))⟩

theorem dX12_outs_0 : decode cX12_outs 0 = .ok (.aload_n 0, 1) := by decide +kernel
theorem dX12_outs_1 : decode cX12_outs 1 = .ok (.getfield 543, 3) := by decide +kernel
theorem dX12_outs_4 : decode cX12_outs 4 = .ok (.ireturn, 1) := by decide +kernel
set_option maxRecDepth 100000 in
set_option maxHeartbeats 4000000 in
theorem c_X12_outs (S : Hp) (h : Nat) (hm : h ∈ hL S) (hk : hK S h = 12) (i0 : hI S 1242 h = 0) : Ct 1 yX12_outs cX12_outs 1 (some .int) 0 0 [.ref h] S (fun r S' => r = some (.int 0) ∧ Fm (fun _ _ => False) (fun _ _ => False) (fun _ => False) S S') := by
  refine ct_of (by decide) (Nat.le_of_ble_eq_true rfl) fun x hn9 C M hm9 => ?_
  have C : CB x RX12 cX12_outs := C
  refine J.eq (lv' := [(0, .ref h)]) rfl rfl rfl ?_
  refine j_aload_n C dX12_outs_0 rfl 0 rfl ?_
  refine j_geti (f := 1242) (v := 0) C flX12_543 dX12_outs_1 hm hk (by decide) (by decide) rfl i0 ?_
  exact j_iret C M dX12_outs_4 (by decide) (by decide) ⟨rfl, (Fm.refl (WI := (fun _ _ => False)) (WR := (fun _ _ => False)) (WA := (fun _ => False)))⟩

theorem dX12_out_0 : decode cX12_out 0 = .ok (.iload_n 1, 1) := by decide +kernel
theorem dX12_out_1 : decode cX12_out 1 = .ok (.ifCond .lt 11, 3) := by decide +kernel
theorem dX12_out_4 : decode cX12_out 4 = .ok (.iload_n 1, 1) := by decide +kernel
theorem dX12_out_5 : decode cX12_out 5 = .ok (.aload_n 0, 1) := by decide +kernel
theorem dX12_out_6 : decode cX12_out 6 = .ok (.getfield 543, 3) := by decide +kernel
theorem dX12_out_9 : decode cX12_out 9 = .ok (.if_icmp .lt 7, 3) := by decide +kernel
theorem dX12_out_12 : decode cX12_out 12 = .ok (.iconst (-1), 1) := by decide +kernel
theorem dX12_out_13 : decode cX12_out 13 = .ok (.goto 13, 3) := by decide +kernel
theorem dX12_out_16 : decode cX12_out 16 = .ok (.aload_n 0, 1) := by decide +kernel
theorem dX12_out_17 : decode cX12_out 17 = .ok (.getfield 96, 3) := by decide +kernel
theorem dX12_out_20 : decode cX12_out 20 = .ok (.iload_n 1, 1) := by decide +kernel
theorem dX12_out_21 : decode cX12_out 21 = .ok (.baload, 1) := by decide +kernel
theorem dX12_out_22 : decode cX12_out 22 = .ok (.sipush 255, 3) := by decide +kernel
theorem dX12_out_25 : decode cX12_out 25 = .ok (.iand, 1) := by decide +kernel
theorem dX12_out_26 : decode cX12_out 26 = .ok (.ireturn, 1) := by decide +kernel
set_option maxRecDepth 100000 in
set_option maxHeartbeats 4000000 in
theorem c_X12_out (S : Hp) (h : Nat) (hm : h ∈ hL S) (hk : hK S h = 12) (i0 : hI S 1242 h = 0) (w0 : Int32) : Ct 1 yX12_out cX12_out 2 (some .int) 0 0 [.ref h, .int w0] S (fun r S' => r = some (.int (-1)) ∧ Fm (fun _ _ => False) (fun _ _ => False) (fun _ => False) S S') := by
  refine ct_of (by decide) (Nat.le_of_ble_eq_true rfl) fun x hn9 C M hm9 => ?_
  have C : CB x RX12 cX12_out := C
  refine J.eq (lv' := [(0, .ref h), (1, .int w0)]) rfl rfl rfl ?_
  refine j_iload_n C dX12_out_0 rfl 1 rfl ?_
  refine j_if_lt (tgt := 12) C dX12_out_1 (by decide) (fun c_1 => ?_) (fun c_1 => ?_)
  · skip
    refine j_iconst (v := (-1)) C dX12_out_12 (by decide) ?_
    refine j_goto (tgt := 26) C dX12_out_13 (by decide) ?_
    exact j_iret C M dX12_out_26 (by decide) (by decide) ⟨rfl, (Fm.refl (WI := (fun _ _ => False)) (WR := (fun _ _ => False)) (WA := (fun _ => False)))⟩
  · skip
    refine j_iload_n C dX12_out_4 rfl 1 rfl ?_
    refine j_aload_n C dX12_out_5 rfl 0 rfl ?_
    refine j_geti (f := 1242) (v := 0) C flX12_543 dX12_out_6 hm hk (by decide) (by decide) rfl i0 ?_
    refine j_ic_lt (tgt := 16) C dX12_out_9 (by decide) (fun c_9 => absurd c_9 (fun h9 => c_1 h9)) (fun c_9 => ?_)
    refine j_iconst (v := (-1)) C dX12_out_12 (by decide) ?_
    show J _ _ _ _ _ 13 _
    refine j_goto (tgt := 26) C dX12_out_13 (by decide) ?_
    exact j_iret C M dX12_out_26 (by decide) (by decide) ⟨rfl, (Fm.refl (WI := (fun _ _ => False)) (WR := (fun _ _ => False)) (WA := (fun _ => False)))⟩

theorem dX12_sum_0 : decode cX12_sum 0 = .ok (.iconst 0, 1) := by decide +kernel
theorem dX12_sum_1 : decode cX12_sum 1 = .ok (.istore_n 1, 1) := by decide +kernel
theorem dX12_sum_2 : decode cX12_sum 2 = .ok (.iconst 0, 1) := by decide +kernel
theorem dX12_sum_3 : decode cX12_sum 3 = .ok (.istore_n 2, 1) := by decide +kernel
theorem dX12_sum_4 : decode cX12_sum 4 = .ok (.iload_n 2, 1) := by decide +kernel
theorem dX12_sum_5 : decode cX12_sum 5 = .ok (.aload_n 0, 1) := by decide +kernel
theorem dX12_sum_6 : decode cX12_sum 6 = .ok (.getfield 543, 3) := by decide +kernel
theorem dX12_sum_9 : decode cX12_sum 9 = .ok (.if_icmp .ge 25, 3) := by decide +kernel
theorem dX12_sum_12 : decode cX12_sum 12 = .ok (.bipush 31, 2) := by decide +kernel
theorem dX12_sum_14 : decode cX12_sum 14 = .ok (.iload_n 1, 1) := by decide +kernel
theorem dX12_sum_15 : decode cX12_sum 15 = .ok (.imul, 1) := by decide +kernel
theorem dX12_sum_16 : decode cX12_sum 16 = .ok (.aload_n 0, 1) := by decide +kernel
theorem dX12_sum_17 : decode cX12_sum 17 = .ok (.getfield 96, 3) := by decide +kernel
theorem dX12_sum_20 : decode cX12_sum 20 = .ok (.iload_n 2, 1) := by decide +kernel
theorem dX12_sum_21 : decode cX12_sum 21 = .ok (.baload, 1) := by decide +kernel
theorem dX12_sum_22 : decode cX12_sum 22 = .ok (.sipush 255, 3) := by decide +kernel
theorem dX12_sum_25 : decode cX12_sum 25 = .ok (.iand, 1) := by decide +kernel
theorem dX12_sum_26 : decode cX12_sum 26 = .ok (.iadd, 1) := by decide +kernel
theorem dX12_sum_27 : decode cX12_sum 27 = .ok (.istore_n 1, 1) := by decide +kernel
theorem dX12_sum_28 : decode cX12_sum 28 = .ok (.iinc 2 1, 3) := by decide +kernel
theorem dX12_sum_31 : decode cX12_sum 31 = .ok (.goto (-27), 3) := by decide +kernel
theorem dX12_sum_34 : decode cX12_sum 34 = .ok (.iload_n 1, 1) := by decide +kernel
theorem dX12_sum_35 : decode cX12_sum 35 = .ok (.ireturn, 1) := by decide +kernel
set_option maxRecDepth 100000 in
set_option maxHeartbeats 4000000 in
theorem c_X12_sum (S : Hp) (h : Nat) (hm : h ∈ hL S) (hk : hK S h = 12) (i0 : hI S 1242 h = 0) : Ct 1 yX12_sum cX12_sum 3 (some .int) 0 0 [.ref h] S (fun r S' => r = some (.int 0) ∧ Fm (fun _ _ => False) (fun _ _ => False) (fun _ => False) S S') := by
  refine ct_of (by decide) (Nat.le_of_ble_eq_true rfl) fun x hn9 C M hm9 => ?_
  have C : CB x RX12 cX12_sum := C
  refine J.eq (lv' := [(0, .ref h)]) rfl rfl rfl ?_
  refine j_iconst (v := 0) C dX12_sum_0 (by decide) ?_
  refine j_istore_n (lv' := [(1, .int 0), (0, .ref h)]) C dX12_sum_1 rfl (by rw [hn9]; decide) rfl ?_
  refine j_iconst (v := 0) C dX12_sum_2 (by decide) ?_
  refine j_istore_n (lv' := [(2, .int 0), (1, .int 0), (0, .ref h)]) C dX12_sum_3 rfl (by rw [hn9]; decide) rfl ?_
  refine j_iload_n C dX12_sum_4 rfl 0 rfl ?_
  refine j_aload_n C dX12_sum_5 rfl 2 rfl ?_
  refine j_geti (f := 1242) (v := 0) C flX12_543 dX12_sum_6 hm hk (by decide) (by decide) rfl i0 ?_
  refine j_ic_ge (tgt := 34) C dX12_sum_9 (by decide) (fun c9 => ?_) (fun c9 => absurd (by decide) c9)
  show J _ _ _ _ _ 34 _
  refine j_iload_n C dX12_sum_34 rfl 1 rfl ?_
  exact j_iret C M dX12_sum_35 (by decide) (by decide) ⟨rfl, (Fm.refl (WI := (fun _ _ => False)) (WR := (fun _ _ => False)) (WA := (fun _ => False)))⟩

theorem dX12_take_0 : decode cX12_take 0 = .ok (.aload_n 0, 1) := by decide +kernel
theorem dX12_take_1 : decode cX12_take 1 = .ok (.getfield 543, 3) := by decide +kernel
theorem dX12_take_4 : decode cX12_take 4 = .ok (.sipush 8000, 3) := by decide +kernel
theorem dX12_take_7 : decode cX12_take 7 = .ok (.if_icmp .le 5, 3) := by decide +kernel
theorem dX12_take_10 : decode cX12_take 10 = .ok (.iconst (-1), 1) := by decide +kernel
theorem dX12_take_11 : decode cX12_take 11 = .ok (.ireturn, 1) := by decide +kernel
theorem dX12_take_12 : decode cX12_take 12 = .ok (.iconst 0, 1) := by decide +kernel
theorem dX12_take_13 : decode cX12_take 13 = .ok (.istore_n 1, 1) := by decide +kernel
theorem dX12_take_14 : decode cX12_take 14 = .ok (.iload_n 1, 1) := by decide +kernel
theorem dX12_take_15 : decode cX12_take 15 = .ok (.aload_n 0, 1) := by decide +kernel
theorem dX12_take_16 : decode cX12_take 16 = .ok (.getfield 543, 3) := by decide +kernel
theorem dX12_take_19 : decode cX12_take 19 = .ok (.if_icmp .ge 21, 3) := by decide +kernel
theorem dX12_take_22 : decode cX12_take 22 = .ok (.aload_n 0, 1) := by decide +kernel
theorem dX12_take_23 : decode cX12_take 23 = .ok (.getfield 75, 3) := by decide +kernel
theorem dX12_take_26 : decode cX12_take 26 = .ok (.iload_n 1, 1) := by decide +kernel
theorem dX12_take_27 : decode cX12_take 27 = .ok (.aload_n 0, 1) := by decide +kernel
theorem dX12_take_28 : decode cX12_take 28 = .ok (.getfield 96, 3) := by decide +kernel
theorem dX12_take_31 : decode cX12_take 31 = .ok (.iload_n 1, 1) := by decide +kernel
theorem dX12_take_32 : decode cX12_take 32 = .ok (.baload, 1) := by decide +kernel
theorem dX12_take_33 : decode cX12_take 33 = .ok (.bastore, 1) := by decide +kernel
theorem dX12_take_34 : decode cX12_take 34 = .ok (.iinc 1 1, 3) := by decide +kernel
theorem dX12_take_37 : decode cX12_take 37 = .ok (.goto (-23), 3) := by decide +kernel
theorem dX12_take_40 : decode cX12_take 40 = .ok (.aload_n 0, 1) := by decide +kernel
theorem dX12_take_41 : decode cX12_take 41 = .ok (.aload_n 0, 1) := by decide +kernel
theorem dX12_take_42 : decode cX12_take 42 = .ok (.getfield 543, 3) := by decide +kernel
theorem dX12_take_45 : decode cX12_take 45 = .ok (.putfield 146, 3) := by decide +kernel
theorem dX12_take_48 : decode cX12_take 48 = .ok (.aload_n 0, 1) := by decide +kernel
theorem dX12_take_49 : decode cX12_take 49 = .ok (.getfield 543, 3) := by decide +kernel
theorem dX12_take_52 : decode cX12_take 52 = .ok (.ireturn, 1) := by decide +kernel
set_option maxRecDepth 100000 in
set_option maxHeartbeats 4000000 in
theorem c_X12_take (S : Hp) (h : Nat) (hm : h ∈ hL S) (hk : hK S h = 12) (i0 : hI S 1242 h = 0) : Ct 1 yX12_take cX12_take 2 (some .int) 0 0 [.ref h] S (fun r S' => r = some (.int 0) ∧ Fm (fun f9 b9 => (f9 = 1224 ∧ b9 = h)) (fun _ _ => False) (fun _ => False) S S') := by
  refine ct_of (by decide) (Nat.le_of_ble_eq_true rfl) fun x hn9 C M hm9 => ?_
  have C : CB x RX12 cX12_take := C
  refine J.eq (lv' := [(0, .ref h)]) rfl rfl rfl ?_
  refine j_aload_n C dX12_take_0 rfl 0 rfl ?_
  refine j_geti (f := 1242) (v := 0) C flX12_543 dX12_take_1 hm hk (by decide) (by decide) rfl i0 ?_
  refine j_sipush (v := 8000) C dX12_take_4 (by decide) ?_
  refine j_ic_le (tgt := 12) C dX12_take_7 (by decide) (fun c9 => ?_) (fun c9 => absurd (by decide) c9)
  refine j_iconst (v := 0) C dX12_take_12 (by decide) ?_
  refine j_istore_n (lv' := [(1, .int 0), (0, .ref h)]) C dX12_take_13 rfl (by rw [hn9]; decide) rfl ?_
  refine j_iload_n C dX12_take_14 rfl 0 rfl ?_
  refine j_aload_n C dX12_take_15 rfl 1 rfl ?_
  show J _ _ _ _ _ 16 _
  refine j_geti (f := 1242) (v := 0) C flX12_543 dX12_take_16 hm hk (by decide) (by decide) rfl i0 ?_
  refine j_ic_ge (tgt := 40) C dX12_take_19 (by decide) (fun c9 => ?_) (fun c9 => absurd (by decide) c9)
  refine j_aload_n C dX12_take_40 rfl 1 rfl ?_
  refine j_aload_n C dX12_take_41 rfl 1 rfl ?_
  refine j_geti (f := 1242) (v := 0) C flX12_543 dX12_take_42 hm hk (by decide) (by decide) rfl i0 ?_
  refine j_puti (f := 1224) C flX12_146 (by decide) rfl rfl dX12_take_45 hm hk rfl ?_
  refine j_aload_n C dX12_take_48 rfl 1 rfl ?_
  refine j_geti (f := 1242) (v := 0) C flX12_543 dX12_take_49 hm hk (by decide) (by decide) rfl (rd_sIf (S := S) (g := 1224) (a := h) (v := 0) (by decide) i0) ?_
  show J _ _ _ _ _ 52 _
  exact j_iret C M dX12_take_52 (by decide) (by decide) ⟨rfl, ((Fm.refl (WI := (fun f9 b9 => (f9 = 1224 ∧ b9 = h))) (WR := (fun _ _ => False)) (WA := (fun _ => False))).sI _ (fun _ => ⟨rfl, rfl⟩))⟩

theorem dX12_pages_0 : decode cX12_pages 0 = .ok (.aload_n 0, 1) := by decide +kernel
theorem dX12_pages_1 : decode cX12_pages 1 = .ok (.getfield 198, 3) := by decide +kernel
theorem dX12_pages_4 : decode cX12_pages 4 = .ok (.ireturn, 1) := by decide +kernel
set_option maxRecDepth 100000 in
set_option maxHeartbeats 4000000 in
theorem c_X12_pages (S : Hp) (h : Nat) (hm : h ∈ hL S) (hk : hK S h = 12) (i0 : hI S 1240 h = 0) : Ct 1 yX12_pages cX12_pages 1 (some .int) 0 0 [.ref h] S (fun r S' => r = some (.int 0) ∧ Fm (fun _ _ => False) (fun _ _ => False) (fun _ => False) S S') := by
  refine ct_of (by decide) (Nat.le_of_ble_eq_true rfl) fun x hn9 C M hm9 => ?_
  have C : CB x RX12 cX12_pages := C
  refine J.eq (lv' := [(0, .ref h)]) rfl rfl rfl ?_
  refine j_aload_n C dX12_pages_0 rfl 0 rfl ?_
  refine j_geti (f := 1240) (v := 0) C flX12_198 dX12_pages_1 hm hk (by decide) (by decide) rfl i0 ?_
  exact j_iret C M dX12_pages_4 (by decide) (by decide) ⟨rfl, (Fm.refl (WI := (fun _ _ => False)) (WR := (fun _ _ => False)) (WA := (fun _ => False)))⟩

theorem dX12_width_0 : decode cX12_width 0 = .ok (.iload_n 1, 1) := by decide +kernel
theorem dX12_width_1 : decode cX12_width 1 = .ok (.ifCond .lt 11, 3) := by decide +kernel
theorem dX12_width_4 : decode cX12_width 4 = .ok (.iload_n 1, 1) := by decide +kernel
theorem dX12_width_5 : decode cX12_width 5 = .ok (.aload_n 0, 1) := by decide +kernel
theorem dX12_width_6 : decode cX12_width 6 = .ok (.getfield 198, 3) := by decide +kernel
theorem dX12_width_9 : decode cX12_width 9 = .ok (.if_icmp .lt 7, 3) := by decide +kernel
theorem dX12_width_12 : decode cX12_width 12 = .ok (.iconst (-1), 1) := by decide +kernel
theorem dX12_width_13 : decode cX12_width 13 = .ok (.goto 9, 3) := by decide +kernel
theorem dX12_width_16 : decode cX12_width 16 = .ok (.aload_n 0, 1) := by decide +kernel
theorem dX12_width_17 : decode cX12_width 17 = .ok (.getfield 89, 3) := by decide +kernel
theorem dX12_width_20 : decode cX12_width 20 = .ok (.iload_n 1, 1) := by decide +kernel
theorem dX12_width_21 : decode cX12_width 21 = .ok (.iaload, 1) := by decide +kernel
theorem dX12_width_22 : decode cX12_width 22 = .ok (.ireturn, 1) := by decide +kernel
set_option maxRecDepth 100000 in
set_option maxHeartbeats 4000000 in
theorem c_X12_width (S : Hp) (h : Nat) (hm : h ∈ hL S) (hk : hK S h = 12) (i0 : hI S 1240 h = 0) (w0 : Int32) : Ct 1 yX12_width cX12_width 2 (some .int) 0 0 [.ref h, .int w0] S (fun r S' => r = some (.int (-1)) ∧ Fm (fun _ _ => False) (fun _ _ => False) (fun _ => False) S S') := by
  refine ct_of (by decide) (Nat.le_of_ble_eq_true rfl) fun x hn9 C M hm9 => ?_
  have C : CB x RX12 cX12_width := C
  refine J.eq (lv' := [(0, .ref h), (1, .int w0)]) rfl rfl rfl ?_
  refine j_iload_n C dX12_width_0 rfl 1 rfl ?_
  refine j_if_lt (tgt := 12) C dX12_width_1 (by decide) (fun c_1 => ?_) (fun c_1 => ?_)
  · skip
    refine j_iconst (v := (-1)) C dX12_width_12 (by decide) ?_
    refine j_goto (tgt := 22) C dX12_width_13 (by decide) ?_
    exact j_iret C M dX12_width_22 (by decide) (by decide) ⟨rfl, (Fm.refl (WI := (fun _ _ => False)) (WR := (fun _ _ => False)) (WA := (fun _ => False)))⟩
  · skip
    refine j_iload_n C dX12_width_4 rfl 1 rfl ?_
    refine j_aload_n C dX12_width_5 rfl 0 rfl ?_
    refine j_geti (f := 1240) (v := 0) C flX12_198 dX12_width_6 hm hk (by decide) (by decide) rfl i0 ?_
    refine j_ic_lt (tgt := 16) C dX12_width_9 (by decide) (fun c_9 => absurd c_9 (fun h9 => c_1 h9)) (fun c_9 => ?_)
    refine j_iconst (v := (-1)) C dX12_width_12 (by decide) ?_
    show J _ _ _ _ _ 13 _
    refine j_goto (tgt := 22) C dX12_width_13 (by decide) ?_
    exact j_iret C M dX12_width_22 (by decide) (by decide) ⟨rfl, (Fm.refl (WI := (fun _ _ => False)) (WR := (fun _ _ => False)) (WA := (fun _ => False)))⟩

theorem dX12_height_0 : decode cX12_height 0 = .ok (.iload_n 1, 1) := by decide +kernel
theorem dX12_height_1 : decode cX12_height 1 = .ok (.ifCond .lt 11, 3) := by decide +kernel
theorem dX12_height_4 : decode cX12_height 4 = .ok (.iload_n 1, 1) := by decide +kernel
theorem dX12_height_5 : decode cX12_height 5 = .ok (.aload_n 0, 1) := by decide +kernel
theorem dX12_height_6 : decode cX12_height 6 = .ok (.getfield 198, 3) := by decide +kernel
theorem dX12_height_9 : decode cX12_height 9 = .ok (.if_icmp .lt 7, 3) := by decide +kernel
theorem dX12_height_12 : decode cX12_height 12 = .ok (.iconst (-1), 1) := by decide +kernel
theorem dX12_height_13 : decode cX12_height 13 = .ok (.goto 9, 3) := by decide +kernel
theorem dX12_height_16 : decode cX12_height 16 = .ok (.aload_n 0, 1) := by decide +kernel
theorem dX12_height_17 : decode cX12_height 17 = .ok (.getfield 92, 3) := by decide +kernel
theorem dX12_height_20 : decode cX12_height 20 = .ok (.iload_n 1, 1) := by decide +kernel
theorem dX12_height_21 : decode cX12_height 21 = .ok (.iaload, 1) := by decide +kernel
theorem dX12_height_22 : decode cX12_height 22 = .ok (.ireturn, 1) := by decide +kernel
set_option maxRecDepth 100000 in
set_option maxHeartbeats 4000000 in
theorem c_X12_height (S : Hp) (h : Nat) (hm : h ∈ hL S) (hk : hK S h = 12) (i0 : hI S 1240 h = 0) (w0 : Int32) : Ct 1 yX12_height cX12_height 2 (some .int) 0 0 [.ref h, .int w0] S (fun r S' => r = some (.int (-1)) ∧ Fm (fun _ _ => False) (fun _ _ => False) (fun _ => False) S S') := by
  refine ct_of (by decide) (Nat.le_of_ble_eq_true rfl) fun x hn9 C M hm9 => ?_
  have C : CB x RX12 cX12_height := C
  refine J.eq (lv' := [(0, .ref h), (1, .int w0)]) rfl rfl rfl ?_
  refine j_iload_n C dX12_height_0 rfl 1 rfl ?_
  refine j_if_lt (tgt := 12) C dX12_height_1 (by decide) (fun c_1 => ?_) (fun c_1 => ?_)
  · skip
    refine j_iconst (v := (-1)) C dX12_height_12 (by decide) ?_
    refine j_goto (tgt := 22) C dX12_height_13 (by decide) ?_
    exact j_iret C M dX12_height_22 (by decide) (by decide) ⟨rfl, (Fm.refl (WI := (fun _ _ => False)) (WR := (fun _ _ => False)) (WA := (fun _ => False)))⟩
  · skip
    refine j_iload_n C dX12_height_4 rfl 1 rfl ?_
    refine j_aload_n C dX12_height_5 rfl 0 rfl ?_
    refine j_geti (f := 1240) (v := 0) C flX12_198 dX12_height_6 hm hk (by decide) (by decide) rfl i0 ?_
    refine j_ic_lt (tgt := 16) C dX12_height_9 (by decide) (fun c_9 => absurd c_9 (fun h9 => c_1 h9)) (fun c_9 => ?_)
    refine j_iconst (v := (-1)) C dX12_height_12 (by decide) ?_
    show J _ _ _ _ _ 13 _
    refine j_goto (tgt := 22) C dX12_height_13 (by decide) ?_
    exact j_iret C M dX12_height_22 (by decide) (by decide) ⟨rfl, (Fm.refl (WI := (fun _ _ => False)) (WR := (fun _ _ => False)) (WA := (fun _ => False)))⟩

theorem dX12_dot_0 : decode cX12_dot 0 = .ok (.iload_n 1, 1) := by decide +kernel
theorem dX12_dot_1 : decode cX12_dot 1 = .ok (.ifCond .lt 39, 3) := by decide +kernel
theorem dX12_dot_4 : decode cX12_dot 4 = .ok (.iload_n 1, 1) := by decide +kernel
theorem dX12_dot_5 : decode cX12_dot 5 = .ok (.aload_n 0, 1) := by decide +kernel
theorem dX12_dot_6 : decode cX12_dot 6 = .ok (.getfield 198, 3) := by decide +kernel
theorem dX12_dot_9 : decode cX12_dot 9 = .ok (.if_icmp .ge 31, 3) := by decide +kernel
theorem dX12_dot_12 : decode cX12_dot 12 = .ok (.iload_n 2, 1) := by decide +kernel
theorem dX12_dot_13 : decode cX12_dot 13 = .ok (.ifCond .lt 27, 3) := by decide +kernel
theorem dX12_dot_16 : decode cX12_dot 16 = .ok (.iload_n 3, 1) := by decide +kernel
theorem dX12_dot_17 : decode cX12_dot 17 = .ok (.ifCond .lt 23, 3) := by decide +kernel
theorem dX12_dot_20 : decode cX12_dot 20 = .ok (.iload_n 2, 1) := by decide +kernel
theorem dX12_dot_21 : decode cX12_dot 21 = .ok (.aload_n 0, 1) := by decide +kernel
theorem dX12_dot_22 : decode cX12_dot 22 = .ok (.getfield 89, 3) := by decide +kernel
theorem dX12_dot_25 : decode cX12_dot 25 = .ok (.iload_n 1, 1) := by decide +kernel
theorem dX12_dot_26 : decode cX12_dot 26 = .ok (.iaload, 1) := by decide +kernel
theorem dX12_dot_27 : decode cX12_dot 27 = .ok (.if_icmp .ge 13, 3) := by decide +kernel
theorem dX12_dot_30 : decode cX12_dot 30 = .ok (.iload_n 3, 1) := by decide +kernel
theorem dX12_dot_31 : decode cX12_dot 31 = .ok (.aload_n 0, 1) := by decide +kernel
theorem dX12_dot_32 : decode cX12_dot 32 = .ok (.getfield 92, 3) := by decide +kernel
theorem dX12_dot_35 : decode cX12_dot 35 = .ok (.iload_n 1, 1) := by decide +kernel
theorem dX12_dot_36 : decode cX12_dot 36 = .ok (.iaload, 1) := by decide +kernel
theorem dX12_dot_37 : decode cX12_dot 37 = .ok (.if_icmp .lt 5, 3) := by decide +kernel
theorem dX12_dot_40 : decode cX12_dot 40 = .ok (.iconst (-1), 1) := by decide +kernel
theorem dX12_dot_41 : decode cX12_dot 41 = .ok (.ireturn, 1) := by decide +kernel
theorem dX12_dot_42 : decode cX12_dot 42 = .ok (.aload_n 0, 1) := by decide +kernel
theorem dX12_dot_43 : decode cX12_dot 43 = .ok (.getfield 86, 3) := by decide +kernel
theorem dX12_dot_46 : decode cX12_dot 46 = .ok (.iload_n 1, 1) := by decide +kernel
theorem dX12_dot_47 : decode cX12_dot 47 = .ok (.ldc 81, 2) := by decide +kernel
theorem dX12_dot_49 : decode cX12_dot 49 = .ok (.imul, 1) := by decide +kernel
theorem dX12_dot_50 : decode cX12_dot 50 = .ok (.bipush 80, 2) := by decide +kernel
theorem dX12_dot_52 : decode cX12_dot 52 = .ok (.iload_n 3, 1) := by decide +kernel
theorem dX12_dot_53 : decode cX12_dot 53 = .ok (.imul, 1) := by decide +kernel
theorem dX12_dot_54 : decode cX12_dot 54 = .ok (.iadd, 1) := by decide +kernel
theorem dX12_dot_55 : decode cX12_dot 55 = .ok (.iload_n 2, 1) := by decide +kernel
theorem dX12_dot_56 : decode cX12_dot 56 = .ok (.bipush 8, 2) := by decide +kernel
theorem dX12_dot_58 : decode cX12_dot 58 = .ok (.idiv, 1) := by decide +kernel
theorem dX12_dot_59 : decode cX12_dot 59 = .ok (.iadd, 1) := by decide +kernel
theorem dX12_dot_60 : decode cX12_dot 60 = .ok (.baload, 1) := by decide +kernel
theorem dX12_dot_61 : decode cX12_dot 61 = .ok (.bipush 7, 2) := by decide +kernel
theorem dX12_dot_63 : decode cX12_dot 63 = .ok (.iload_n 2, 1) := by decide +kernel
theorem dX12_dot_64 : decode cX12_dot 64 = .ok (.bipush 8, 2) := by decide +kernel
theorem dX12_dot_66 : decode cX12_dot 66 = .ok (.irem, 1) := by decide +kernel
theorem dX12_dot_67 : decode cX12_dot 67 = .ok (.isub, 1) := by decide +kernel
theorem dX12_dot_68 : decode cX12_dot 68 = .ok (.ishr, 1) := by decide +kernel
theorem dX12_dot_69 : decode cX12_dot 69 = .ok (.iconst 1, 1) := by decide +kernel
theorem dX12_dot_70 : decode cX12_dot 70 = .ok (.iand, 1) := by decide +kernel
theorem dX12_dot_71 : decode cX12_dot 71 = .ok (.ireturn, 1) := by decide +kernel
set_option maxRecDepth 100000 in
set_option maxHeartbeats 4000000 in
theorem c_X12_dot (S : Hp) (h : Nat) (hm : h ∈ hL S) (hk : hK S h = 12) (i0 : hI S 1240 h = 0) (w0 : Int32) (w1 : Int32) (w2 : Int32) : Ct 1 yX12_dot cX12_dot 4 (some .int) 0 0 [.ref h, .int w0, .int w1, .int w2] S (fun r S' => r = some (.int (-1)) ∧ Fm (fun _ _ => False) (fun _ _ => False) (fun _ => False) S S') := by
  refine ct_of (by decide) (Nat.le_of_ble_eq_true rfl) fun x hn9 C M hm9 => ?_
  have C : CB x RX12 cX12_dot := C
  refine J.eq (lv' := [(0, .ref h), (1, .int w0), (2, .int w1), (3, .int w2)]) rfl rfl rfl ?_
  refine j_iload_n C dX12_dot_0 rfl 1 rfl ?_
  refine j_if_lt (tgt := 40) C dX12_dot_1 (by decide) (fun c_1 => ?_) (fun c_1 => ?_)
  · skip
    refine j_iconst (v := (-1)) C dX12_dot_40 (by decide) ?_
    exact j_iret C M dX12_dot_41 (by decide) (by decide) ⟨rfl, (Fm.refl (WI := (fun _ _ => False)) (WR := (fun _ _ => False)) (WA := (fun _ => False)))⟩
  · skip
    refine j_iload_n C dX12_dot_4 rfl 1 rfl ?_
    refine j_aload_n C dX12_dot_5 rfl 0 rfl ?_
    refine j_geti (f := 1240) (v := 0) C flX12_198 dX12_dot_6 hm hk (by decide) (by decide) rfl i0 ?_
    refine j_ic_ge (tgt := 40) C dX12_dot_9 (by decide) (fun c_9 => ?_) (fun c_9 => absurd (i_ge c_1) c_9)
    refine j_iconst (v := (-1)) C dX12_dot_40 (by decide) ?_
    exact j_iret C M dX12_dot_41 (by decide) (by decide) ⟨rfl, (Fm.refl (WI := (fun _ _ => False)) (WR := (fun _ _ => False)) (WA := (fun _ => False)))⟩

theorem dX12_black_0 : decode cX12_black 0 = .ok (.iload_n 1, 1) := by decide +kernel
theorem dX12_black_1 : decode cX12_black 1 = .ok (.ifCond .lt 25, 3) := by decide +kernel
theorem dX12_black_4 : decode cX12_black 4 = .ok (.iload_n 1, 1) := by decide +kernel
theorem dX12_black_5 : decode cX12_black 5 = .ok (.aload_n 0, 1) := by decide +kernel
theorem dX12_black_6 : decode cX12_black 6 = .ok (.getfield 198, 3) := by decide +kernel
theorem dX12_black_9 : decode cX12_black 9 = .ok (.if_icmp .ge 17, 3) := by decide +kernel
theorem dX12_black_12 : decode cX12_black 12 = .ok (.iload_n 2, 1) := by decide +kernel
theorem dX12_black_13 : decode cX12_black 13 = .ok (.ifCond .lt 13, 3) := by decide +kernel
theorem dX12_black_16 : decode cX12_black 16 = .ok (.iload_n 2, 1) := by decide +kernel
theorem dX12_black_17 : decode cX12_black 17 = .ok (.aload_n 0, 1) := by decide +kernel
theorem dX12_black_18 : decode cX12_black 18 = .ok (.getfield 92, 3) := by decide +kernel
theorem dX12_black_21 : decode cX12_black 21 = .ok (.iload_n 1, 1) := by decide +kernel
theorem dX12_black_22 : decode cX12_black 22 = .ok (.iaload, 1) := by decide +kernel
theorem dX12_black_23 : decode cX12_black 23 = .ok (.if_icmp .lt 5, 3) := by decide +kernel
theorem dX12_black_26 : decode cX12_black 26 = .ok (.iconst (-1), 1) := by decide +kernel
theorem dX12_black_27 : decode cX12_black 27 = .ok (.ireturn, 1) := by decide +kernel
theorem dX12_black_28 : decode cX12_black 28 = .ok (.iconst 0, 1) := by decide +kernel
theorem dX12_black_29 : decode cX12_black 29 = .ok (.istore_n 3, 1) := by decide +kernel
theorem dX12_black_30 : decode cX12_black 30 = .ok (.iconst 0, 1) := by decide +kernel
theorem dX12_black_31 : decode cX12_black 31 = .ok (.istore 4, 2) := by decide +kernel
theorem dX12_black_33 : decode cX12_black 33 = .ok (.iload 4, 2) := by decide +kernel
theorem dX12_black_35 : decode cX12_black 35 = .ok (.aload_n 0, 1) := by decide +kernel
theorem dX12_black_36 : decode cX12_black 36 = .ok (.getfield 89, 3) := by decide +kernel
theorem dX12_black_39 : decode cX12_black 39 = .ok (.iload_n 1, 1) := by decide +kernel
theorem dX12_black_40 : decode cX12_black 40 = .ok (.iaload, 1) := by decide +kernel
theorem dX12_black_41 : decode cX12_black 41 = .ok (.if_icmp .ge 43, 3) := by decide +kernel
theorem dX12_black_44 : decode cX12_black 44 = .ok (.iload_n 3, 1) := by decide +kernel
theorem dX12_black_45 : decode cX12_black 45 = .ok (.aload_n 0, 1) := by decide +kernel
theorem dX12_black_46 : decode cX12_black 46 = .ok (.getfield 86, 3) := by decide +kernel
theorem dX12_black_49 : decode cX12_black 49 = .ok (.iload_n 1, 1) := by decide +kernel
theorem dX12_black_50 : decode cX12_black 50 = .ok (.ldc 81, 2) := by decide +kernel
theorem dX12_black_52 : decode cX12_black 52 = .ok (.imul, 1) := by decide +kernel
theorem dX12_black_53 : decode cX12_black 53 = .ok (.bipush 80, 2) := by decide +kernel
theorem dX12_black_55 : decode cX12_black 55 = .ok (.iload_n 2, 1) := by decide +kernel
theorem dX12_black_56 : decode cX12_black 56 = .ok (.imul, 1) := by decide +kernel
theorem dX12_black_57 : decode cX12_black 57 = .ok (.iadd, 1) := by decide +kernel
theorem dX12_black_58 : decode cX12_black 58 = .ok (.iload 4, 2) := by decide +kernel
theorem dX12_black_60 : decode cX12_black 60 = .ok (.bipush 8, 2) := by decide +kernel
theorem dX12_black_62 : decode cX12_black 62 = .ok (.idiv, 1) := by decide +kernel
theorem dX12_black_63 : decode cX12_black 63 = .ok (.iadd, 1) := by decide +kernel
theorem dX12_black_64 : decode cX12_black 64 = .ok (.baload, 1) := by decide +kernel
theorem dX12_black_65 : decode cX12_black 65 = .ok (.bipush 7, 2) := by decide +kernel
theorem dX12_black_67 : decode cX12_black 67 = .ok (.iload 4, 2) := by decide +kernel
theorem dX12_black_69 : decode cX12_black 69 = .ok (.bipush 8, 2) := by decide +kernel
theorem dX12_black_71 : decode cX12_black 71 = .ok (.irem, 1) := by decide +kernel
theorem dX12_black_72 : decode cX12_black 72 = .ok (.isub, 1) := by decide +kernel
theorem dX12_black_73 : decode cX12_black 73 = .ok (.ishr, 1) := by decide +kernel
theorem dX12_black_74 : decode cX12_black 74 = .ok (.iconst 1, 1) := by decide +kernel
theorem dX12_black_75 : decode cX12_black 75 = .ok (.iand, 1) := by decide +kernel
theorem dX12_black_76 : decode cX12_black 76 = .ok (.iadd, 1) := by decide +kernel
theorem dX12_black_77 : decode cX12_black 77 = .ok (.istore_n 3, 1) := by decide +kernel
theorem dX12_black_78 : decode cX12_black 78 = .ok (.iinc 4 1, 3) := by decide +kernel
theorem dX12_black_81 : decode cX12_black 81 = .ok (.goto (-48), 3) := by decide +kernel
theorem dX12_black_84 : decode cX12_black 84 = .ok (.iload_n 3, 1) := by decide +kernel
theorem dX12_black_85 : decode cX12_black 85 = .ok (.ireturn, 1) := by decide +kernel
set_option maxRecDepth 100000 in
set_option maxHeartbeats 4000000 in
theorem c_X12_black (S : Hp) (h : Nat) (hm : h ∈ hL S) (hk : hK S h = 12) (i0 : hI S 1240 h = 0) (w0 : Int32) (w1 : Int32) : Ct 1 yX12_black cX12_black 5 (some .int) 0 0 [.ref h, .int w0, .int w1] S (fun r S' => r = some (.int (-1)) ∧ Fm (fun _ _ => False) (fun _ _ => False) (fun _ => False) S S') := by
  refine ct_of (by decide) (Nat.le_of_ble_eq_true rfl) fun x hn9 C M hm9 => ?_
  have C : CB x RX12 cX12_black := C
  refine J.eq (lv' := [(0, .ref h), (1, .int w0), (2, .int w1)]) rfl rfl rfl ?_
  refine j_iload_n C dX12_black_0 rfl 1 rfl ?_
  refine j_if_lt (tgt := 26) C dX12_black_1 (by decide) (fun c_1 => ?_) (fun c_1 => ?_)
  · skip
    refine j_iconst (v := (-1)) C dX12_black_26 (by decide) ?_
    exact j_iret C M dX12_black_27 (by decide) (by decide) ⟨rfl, (Fm.refl (WI := (fun _ _ => False)) (WR := (fun _ _ => False)) (WA := (fun _ => False)))⟩
  · skip
    refine j_iload_n C dX12_black_4 rfl 1 rfl ?_
    refine j_aload_n C dX12_black_5 rfl 0 rfl ?_
    refine j_geti (f := 1240) (v := 0) C flX12_198 dX12_black_6 hm hk (by decide) (by decide) rfl i0 ?_
    refine j_ic_ge (tgt := 26) C dX12_black_9 (by decide) (fun c_9 => ?_) (fun c_9 => absurd (i_ge c_1) c_9)
    refine j_iconst (v := (-1)) C dX12_black_26 (by decide) ?_
    exact j_iret C M dX12_black_27 (by decide) (by decide) ⟨rfl, (Fm.refl (WI := (fun _ _ => False)) (WR := (fun _ _ => False)) (WA := (fun _ => False)))⟩

theorem dX12_state_0 : decode cX12_state 0 = .ok (.aload_n 0, 1) := by decide +kernel
theorem dX12_state_1 : decode cX12_state 1 = .ok (.getfield 661, 3) := by decide +kernel
theorem dX12_state_4 : decode cX12_state 4 = .ok (.ifCond .eq 13, 3) := by decide +kernel
theorem dX12_state_7 : decode cX12_state 7 = .ok (.iload_n 1, 1) := by decide +kernel
theorem dX12_state_8 : decode cX12_state 8 = .ok (.ifCond .lt 9, 3) := by decide +kernel
theorem dX12_state_11 : decode cX12_state 11 = .ok (.iload_n 1, 1) := by decide +kernel
theorem dX12_state_12 : decode cX12_state 12 = .ok (.bipush 11, 2) := by decide +kernel
theorem dX12_state_14 : decode cX12_state 14 = .ok (.if_icmp .le 7, 3) := by decide +kernel
theorem dX12_state_17 : decode cX12_state 17 = .ok (.iconst (-1), 1) := by decide +kernel
theorem dX12_state_18 : decode cX12_state 18 = .ok (.goto 9, 3) := by decide +kernel
theorem dX12_state_21 : decode cX12_state 21 = .ok (.aload_n 0, 1) := by decide +kernel
theorem dX12_state_22 : decode cX12_state 22 = .ok (.getfield 99, 3) := by decide +kernel
theorem dX12_state_25 : decode cX12_state 25 = .ok (.iload_n 1, 1) := by decide +kernel
theorem dX12_state_26 : decode cX12_state 26 = .ok (.iaload, 1) := by decide +kernel
theorem dX12_state_27 : decode cX12_state 27 = .ok (.ireturn, 1) := by decide +kernel
set_option maxRecDepth 100000 in
set_option maxHeartbeats 4000000 in
theorem c_X12_state (S : Hp) (h : Nat) (hm : h ∈ hL S) (hk : hK S h = 12) (i0 : hI S 1247 h = 0) (w0 : Int32) : Ct 1 yX12_state cX12_state 2 (some .int) 0 0 [.ref h, .int w0] S (fun r S' => r = some (.int (-1)) ∧ Fm (fun _ _ => False) (fun _ _ => False) (fun _ => False) S S') := by
  refine ct_of (by decide) (Nat.le_of_ble_eq_true rfl) fun x hn9 C M hm9 => ?_
  have C : CB x RX12 cX12_state := C
  refine J.eq (lv' := [(0, .ref h), (1, .int w0)]) rfl rfl rfl ?_
  refine j_aload_n C dX12_state_0 rfl 0 rfl ?_
  refine j_geti (f := 1247) (v := 0) C flX12_661 dX12_state_1 hm hk (by decide) (by decide) rfl i0 ?_
  refine j_if_eq (tgt := 17) C dX12_state_4 (by decide) (fun c9 => ?_) (fun c9 => absurd (by decide) c9)
  refine j_iconst (v := (-1)) C dX12_state_17 (by decide) ?_
  refine j_goto (tgt := 27) C dX12_state_18 (by decide) ?_
  exact j_iret C M dX12_state_27 (by decide) (by decide) ⟨rfl, (Fm.refl (WI := (fun _ _ => False)) (WR := (fun _ _ => False)) (WA := (fun _ => False)))⟩

theorem dX12_held_0 : decode cX12_held 0 = .ok (.iconst 0, 1) := by decide +kernel
theorem dX12_held_1 : decode cX12_held 1 = .ok (.istore_n 2, 1) := by decide +kernel
theorem dX12_held_2 : decode cX12_held 2 = .ok (.iconst 0, 1) := by decide +kernel
theorem dX12_held_3 : decode cX12_held 3 = .ok (.istore_n 3, 1) := by decide +kernel
theorem dX12_held_4 : decode cX12_held 4 = .ok (.iload_n 3, 1) := by decide +kernel
theorem dX12_held_5 : decode cX12_held 5 = .ok (.bipush 16, 2) := by decide +kernel
theorem dX12_held_7 : decode cX12_held 7 = .ok (.if_icmp .ge 110, 3) := by decide +kernel
theorem dX12_held_10 : decode cX12_held 10 = .ok (.iload_n 1, 1) := by decide +kernel
theorem dX12_held_11 : decode cX12_held 11 = .ok (.ifCond .ne 23, 3) := by decide +kernel
theorem dX12_held_14 : decode cX12_held 14 = .ok (.iload_n 2, 1) := by decide +kernel
theorem dX12_held_15 : decode cX12_held 15 = .ok (.aload_n 0, 1) := by decide +kernel
theorem dX12_held_16 : decode cX12_held 16 = .ok (.getfield 16, 3) := by decide +kernel
theorem dX12_held_19 : decode cX12_held 19 = .ok (.iload_n 3, 1) := by decide +kernel
theorem dX12_held_20 : decode cX12_held 20 = .ok (.baload, 1) := by decide +kernel
theorem dX12_held_21 : decode cX12_held 21 = .ok (.ifCond .eq 7, 3) := by decide +kernel
theorem dX12_held_24 : decode cX12_held 24 = .ok (.iconst 1, 1) := by decide +kernel
theorem dX12_held_25 : decode cX12_held 25 = .ok (.goto 4, 3) := by decide +kernel
theorem dX12_held_28 : decode cX12_held 28 = .ok (.iconst 0, 1) := by decide +kernel
theorem dX12_held_29 : decode cX12_held 29 = .ok (.iadd, 1) := by decide +kernel
theorem dX12_held_30 : decode cX12_held 30 = .ok (.istore_n 2, 1) := by decide +kernel
theorem dX12_held_31 : decode cX12_held 31 = .ok (.goto 80, 3) := by decide +kernel
theorem dX12_held_34 : decode cX12_held 34 = .ok (.iload_n 1, 1) := by decide +kernel
theorem dX12_held_35 : decode cX12_held 35 = .ok (.iconst 2, 1) := by decide +kernel
theorem dX12_held_36 : decode cX12_held 36 = .ok (.if_icmp .ne 23, 3) := by decide +kernel
theorem dX12_held_39 : decode cX12_held 39 = .ok (.iload_n 2, 1) := by decide +kernel
theorem dX12_held_40 : decode cX12_held 40 = .ok (.aload_n 0, 1) := by decide +kernel
theorem dX12_held_41 : decode cX12_held 41 = .ok (.getfield 38, 3) := by decide +kernel
theorem dX12_held_44 : decode cX12_held 44 = .ok (.iload_n 3, 1) := by decide +kernel
theorem dX12_held_45 : decode cX12_held 45 = .ok (.baload, 1) := by decide +kernel
theorem dX12_held_46 : decode cX12_held 46 = .ok (.ifCond .eq 7, 3) := by decide +kernel
theorem dX12_held_49 : decode cX12_held 49 = .ok (.iconst 1, 1) := by decide +kernel
theorem dX12_held_50 : decode cX12_held 50 = .ok (.goto 4, 3) := by decide +kernel
theorem dX12_held_53 : decode cX12_held 53 = .ok (.iconst 0, 1) := by decide +kernel
theorem dX12_held_54 : decode cX12_held 54 = .ok (.iadd, 1) := by decide +kernel
theorem dX12_held_55 : decode cX12_held 55 = .ok (.istore_n 2, 1) := by decide +kernel
theorem dX12_held_56 : decode cX12_held 56 = .ok (.goto 55, 3) := by decide +kernel
theorem dX12_held_59 : decode cX12_held 59 = .ok (.iload_n 1, 1) := by decide +kernel
theorem dX12_held_60 : decode cX12_held 60 = .ok (.iconst 3, 1) := by decide +kernel
theorem dX12_held_61 : decode cX12_held 61 = .ok (.if_icmp .ne 23, 3) := by decide +kernel
theorem dX12_held_64 : decode cX12_held 64 = .ok (.iload_n 2, 1) := by decide +kernel
theorem dX12_held_65 : decode cX12_held 65 = .ok (.aload_n 0, 1) := by decide +kernel
theorem dX12_held_66 : decode cX12_held 66 = .ok (.getfield 53, 3) := by decide +kernel
theorem dX12_held_69 : decode cX12_held 69 = .ok (.iload_n 3, 1) := by decide +kernel
theorem dX12_held_70 : decode cX12_held 70 = .ok (.baload, 1) := by decide +kernel
theorem dX12_held_71 : decode cX12_held 71 = .ok (.ifCond .eq 7, 3) := by decide +kernel
theorem dX12_held_74 : decode cX12_held 74 = .ok (.iconst 1, 1) := by decide +kernel
theorem dX12_held_75 : decode cX12_held 75 = .ok (.goto 4, 3) := by decide +kernel
theorem dX12_held_78 : decode cX12_held 78 = .ok (.iconst 0, 1) := by decide +kernel
theorem dX12_held_79 : decode cX12_held 79 = .ok (.iadd, 1) := by decide +kernel
theorem dX12_held_80 : decode cX12_held 80 = .ok (.istore_n 2, 1) := by decide +kernel
theorem dX12_held_81 : decode cX12_held 81 = .ok (.goto 30, 3) := by decide +kernel
theorem dX12_held_84 : decode cX12_held 84 = .ok (.iload_n 1, 1) := by decide +kernel
theorem dX12_held_85 : decode cX12_held 85 = .ok (.iconst 4, 1) := by decide +kernel
theorem dX12_held_86 : decode cX12_held 86 = .ok (.if_icmp .ne 25, 3) := by decide +kernel
theorem dX12_held_89 : decode cX12_held 89 = .ok (.iload_n 2, 1) := by decide +kernel
theorem dX12_held_90 : decode cX12_held 90 = .ok (.aload_n 0, 1) := by decide +kernel
theorem dX12_held_91 : decode cX12_held 91 = .ok (.getfield 53, 3) := by decide +kernel
theorem dX12_held_94 : decode cX12_held 94 = .ok (.iload_n 3, 1) := by decide +kernel
theorem dX12_held_95 : decode cX12_held 95 = .ok (.baload, 1) := by decide +kernel
theorem dX12_held_96 : decode cX12_held 96 = .ok (.ifCond .eq 12, 3) := by decide +kernel
theorem dX12_held_99 : decode cX12_held 99 = .ok (.aload_n 0, 1) := by decide +kernel
theorem dX12_held_100 : decode cX12_held 100 = .ok (.getfield 59, 3) := by decide +kernel
theorem dX12_held_103 : decode cX12_held 103 = .ok (.iload_n 3, 1) := by decide +kernel
theorem dX12_held_104 : decode cX12_held 104 = .ok (.iaload, 1) := by decide +kernel
theorem dX12_held_105 : decode cX12_held 105 = .ok (.goto 4, 3) := by decide +kernel
theorem dX12_held_108 : decode cX12_held 108 = .ok (.iconst 0, 1) := by decide +kernel
theorem dX12_held_109 : decode cX12_held 109 = .ok (.iadd, 1) := by decide +kernel
theorem dX12_held_110 : decode cX12_held 110 = .ok (.istore_n 2, 1) := by decide +kernel
theorem dX12_held_111 : decode cX12_held 111 = .ok (.iinc 3 1, 3) := by decide +kernel
theorem dX12_held_114 : decode cX12_held 114 = .ok (.goto (-110), 3) := by decide +kernel
theorem dX12_held_117 : decode cX12_held 117 = .ok (.iload_n 1, 1) := by decide +kernel
theorem dX12_held_118 : decode cX12_held 118 = .ok (.iconst 1, 1) := by decide +kernel
theorem dX12_held_119 : decode cX12_held 119 = .ok (.if_icmp .ne 10, 3) := by decide +kernel
theorem dX12_held_122 : decode cX12_held 122 = .ok (.aload_n 0, 1) := by decide +kernel
theorem dX12_held_123 : decode cX12_held 123 = .ok (.getfield 260, 3) := by decide +kernel
theorem dX12_held_126 : decode cX12_held 126 = .ok (.goto 42, 3) := by decide +kernel
theorem dX12_held_129 : decode cX12_held 129 = .ok (.iload_n 1, 1) := by decide +kernel
theorem dX12_held_130 : decode cX12_held 130 = .ok (.iconst 5, 1) := by decide +kernel
theorem dX12_held_131 : decode cX12_held 131 = .ok (.if_icmp .ne 10, 3) := by decide +kernel
theorem dX12_held_134 : decode cX12_held 134 = .ok (.aload_n 0, 1) := by decide +kernel
theorem dX12_held_135 : decode cX12_held 135 = .ok (.getfield 275, 3) := by decide +kernel
theorem dX12_held_138 : decode cX12_held 138 = .ok (.goto 30, 3) := by decide +kernel
theorem dX12_held_141 : decode cX12_held 141 = .ok (.iload_n 1, 1) := by decide +kernel
theorem dX12_held_142 : decode cX12_held 142 = .ok (.bipush 6, 2) := by decide +kernel
theorem dX12_held_144 : decode cX12_held 144 = .ok (.if_icmp .ne 10, 3) := by decide +kernel
theorem dX12_held_147 : decode cX12_held 147 = .ok (.aload_n 0, 1) := by decide +kernel
theorem dX12_held_148 : decode cX12_held 148 = .ok (.getfield 195, 3) := by decide +kernel
theorem dX12_held_151 : decode cX12_held 151 = .ok (.goto 17, 3) := by decide +kernel
theorem dX12_held_154 : decode cX12_held 154 = .ok (.iload_n 1, 1) := by decide +kernel
theorem dX12_held_155 : decode cX12_held 155 = .ok (.ifCond .lt 12, 3) := by decide +kernel
theorem dX12_held_158 : decode cX12_held 158 = .ok (.iload_n 1, 1) := by decide +kernel
theorem dX12_held_159 : decode cX12_held 159 = .ok (.iconst 4, 1) := by decide +kernel
theorem dX12_held_160 : decode cX12_held 160 = .ok (.if_icmp .gt 7, 3) := by decide +kernel
theorem dX12_held_163 : decode cX12_held 163 = .ok (.iload_n 2, 1) := by decide +kernel
theorem dX12_held_164 : decode cX12_held 164 = .ok (.goto 4, 3) := by decide +kernel
theorem dX12_held_167 : decode cX12_held 167 = .ok (.iconst (-1), 1) := by decide +kernel
theorem dX12_held_168 : decode cX12_held 168 = .ok (.ireturn, 1) := by decide +kernel
set_option maxRecDepth 100000 in
set_option maxHeartbeats 4000000 in
theorem c_X12_held (S : Hp) (h : Nat) (hm : h ∈ hL S) (hk : hK S h = 12) (ft : Nat) (rft : hR S 1202 h = some ft) (mft : ft ∈ hL S) (kft : Kd S ft 17) (lft : Ln S ft 17) (zft : ∀ j, j < 16 → aI S ft j = 0) (v1 : Nat) (rv1 : hR S 1210 h = some v1) (mv1 : v1 ∈ hL S) (kv1 : Kd S v1 17) (lv1 : Ln S v1 16) (zv1 : ∀ j, aI S v1 j = 0) (v2 : Nat) (rv2 : hR S 1215 h = some v2) (mv2 : v2 ∈ hL S) (kv2 : Kd S v2 17) (lv2 : Ln S v2 16) (zv2 : ∀ j, aI S v2 j = 0) (mz : Nat) (rmz : hR S 1217 h = some mz) (mmz : mz ∈ hL S) (kmz : Kd S mz 14) (lmz : Ln S mz 16) (i0 : hI S 1209 h = 0) (i1 : hI S 1232 h = 0) (i2 : hI S 1236 h = 0) (w0 : Int32) : Ct 1 yX12_held cX12_held 4 (some .int) 0 0 [.ref h, .int w0] S (fun r S' => r = some (.int (an_held w0)) ∧ Fm (fun _ _ => False) (fun _ _ => False) (fun _ => False) S S') := by
  refine ct_of (by decide) (Nat.le_of_ble_eq_true rfl) fun x hn9 C M hm9 => ?_
  have C : CB x RX12 cX12_held := C
  refine J.eq (lv' := [(0, .ref h), (1, .int w0)]) rfl rfl rfl ?_
  refine j_iconst (v := 0) C dX12_held_0 (by decide) ?_
  refine j_istore_n (lv' := [(2, .int 0), (0, .ref h), (1, .int w0)]) C dX12_held_1 rfl (by rw [hn9]; decide) rfl ?_
  refine j_iconst (v := 0) C dX12_held_2 (by decide) ?_
  refine j_istore_n (lv' := [(3, .int 0), (2, .int 0), (0, .ref h), (1, .int w0)]) C dX12_held_3 rfl (by rw [hn9]; decide) rfl ?_
  have loop_5 : ∀ (m9 k1 : Nat) (S_2 : Hp), k1 + m9 = 16 → Fm (fun _ _ => False) (fun _ _ => False) (fun _ => False) S S_2 → J x (0) (0) S_2 [(3, .int (nI k1)), (2, .int 0), (0, .ref h), (1, .int w0)] 4 [] := by
    intro m9
    induction m9 with
    | zero =>
      intro k1 S_2  hi_6 hl_3 
      have hz_7 : ∀ j, aI S_2 v1 j = 0 := fun j9 => (hl_3.ai mv1 (fun h9 => h9) j9).trans (zv1 j9)
      have hz_8 : ∀ j, aI S_2 v2 j = 0 := fun j9 => (hl_3.ai mv2 (fun h9 => h9) j9).trans (zv2 j9)
      have hy_9 : ∀ j, j < 16 → aI S_2 ft j = 0 := fun j9 h9 => (hl_3.ai mft (fun h9 => h9) j9).trans (zft j9 h9)
      have hm_10 : ft ∈ hL S_2 := hl_3.mem mft
      have hk_11 : Kd S_2 ft 17 := hl_3.kd mft kft
      have hn_12 : Ln S_2 ft 17 := hl_3.ln mft lft
      have hm_13 : h ∈ hL S_2 := hl_3.mem hm
      have hk_14 : Kd S_2 h 12 := hl_3.kd hm hk
      have hm_15 : mz ∈ hL S_2 := hl_3.mem mmz
      have hk_16 : Kd S_2 mz 14 := hl_3.kd mmz kmz
      have hn_17 : Ln S_2 mz 16 := hl_3.ln mmz lmz
      have hm_18 : v1 ∈ hL S_2 := hl_3.mem mv1
      have hk_19 : Kd S_2 v1 17 := hl_3.kd mv1 kv1
      have hn_20 : Ln S_2 v1 16 := hl_3.ln mv1 lv1
      have hm_21 : v2 ∈ hL S_2 := hl_3.mem mv2
      have hk_22 : Kd S_2 v2 17 := hl_3.kd mv2 kv2
      have hn_23 : Ln S_2 v2 16 := hl_3.ln mv2 lv2
      have hv_24 : hI S_2 1209 h = 0 := hl_3.fi hm (fun h9 => h9) i0
      have hv_25 : hI S_2 1232 h = 0 := hl_3.fi hm (fun h9 => h9) i1
      have hv_26 : hI S_2 1236 h = 0 := hl_3.fi hm (fun h9 => h9) i2
      have hv_27 : hR S_2 1202 h = (some ft) := hl_3.fr hm (fun h9 => h9) rft
      have hv_28 : hR S_2 1210 h = (some v1) := hl_3.fr hm (fun h9 => h9) rv1
      have hv_29 : hR S_2 1215 h = (some v2) := hl_3.fr hm (fun h9 => h9) rv2
      have hv_30 : hR S_2 1217 h = (some mz) := hl_3.fr hm (fun h9 => h9) rmz
      have hf_31 : Fm (fun _ _ => False) (fun _ _ => False) (fun _ => False) S S_2 := (Fm.refl (WI := (fun _ _ => False)) (WR := (fun _ _ => False)) (WA := (fun _ => False))).then hl_3 (fun a9 ha9 => ⟨(fun f9 h9 => h9.elim), (fun f9 h9 => h9.elim), (fun h9 => h9.elim)⟩)
      refine j_iload_n C dX12_held_4 rfl 0 rfl ?_
      refine j_bipush (v := 16) C dX12_held_5 (by decide) ?_
      refine j_ic_ge (tgt := 117) C dX12_held_7 (by decide) (fun c_7 => ?_) (fun c_7 => absurd (nI_le (a := 16) (by omega) (by omega)) c_7)
      refine j_iload_n C dX12_held_117 rfl 3 rfl ?_
      refine j_iconst (v := 1) C dX12_held_118 (by decide) ?_
      show J _ _ _ _ _ 119 _
      refine j_ic_ne (tgt := 129) C dX12_held_119 (by decide) (fun c_119 => ?_) (fun c_119 => ?_)
      · skip
        refine j_iload_n C dX12_held_129 rfl 3 rfl ?_
        refine j_iconst (v := 5) C dX12_held_130 (by decide) ?_
        refine j_ic_ne (tgt := 141) C dX12_held_131 (by decide) (fun c_131 => ?_) (fun c_131 => ?_)
        · skip
          refine j_iload_n C dX12_held_141 rfl 3 rfl ?_
          refine j_bipush (v := 6) C dX12_held_142 (by decide) ?_
          refine j_ic_ne (tgt := 154) C dX12_held_144 (by decide) (fun c_144 => ?_) (fun c_144 => ?_)
          · skip
            refine j_iload_n C dX12_held_154 rfl 3 rfl ?_
            refine j_if_lt (tgt := 167) C dX12_held_155 (by decide) (fun c_155 => ?_) (fun c_155 => ?_)
            · skip
              refine j_iconst (v := (-1)) C dX12_held_167 (by decide) ?_
              exact j_iret C M dX12_held_168 (by decide) (by decide) ⟨(congrArg (fun z9 => some (Value.int z9)) (by first | exact (held_in c_155 c_160).symm | exact (held_hi c_160 c_131 c_144).symm | exact (held_lo c_155).symm | (rw [c_119]; rfl) | (rw [c_131]; rfl) | (rw [c_144]; rfl))), hf_31⟩
            · skip
              refine j_iload_n C dX12_held_158 rfl 3 rfl ?_
              refine j_iconst (v := 4) C dX12_held_159 (by decide) ?_
              show J _ _ _ _ _ 160 _
              refine j_ic_gt (tgt := 167) C dX12_held_160 (by decide) (fun c_160 => ?_) (fun c_160 => ?_)
              · skip
                refine j_iconst (v := (-1)) C dX12_held_167 (by decide) ?_
                exact j_iret C M dX12_held_168 (by decide) (by decide) ⟨(congrArg (fun z9 => some (Value.int z9)) (by first | exact (held_in c_155 c_160).symm | exact (held_hi c_160 c_131 c_144).symm | exact (held_lo c_155).symm | (rw [c_119]; rfl) | (rw [c_131]; rfl) | (rw [c_144]; rfl))), hf_31⟩
              · skip
                refine j_iload_n C dX12_held_163 rfl 1 rfl ?_
                refine j_goto (tgt := 168) C dX12_held_164 (by decide) ?_
                exact j_iret C M dX12_held_168 (by decide) (by decide) ⟨(congrArg (fun z9 => some (Value.int z9)) (by first | exact (held_in c_155 c_160).symm | exact (held_hi c_160 c_131 c_144).symm | exact (held_lo c_155).symm | (rw [c_119]; rfl) | (rw [c_131]; rfl) | (rw [c_144]; rfl))), hf_31⟩
          · skip
            refine j_aload_n C dX12_held_147 rfl 2 rfl ?_
            refine j_geti (f := 1236) (v := 0) C flX12_195 dX12_held_148 hm_13 hk_14 (by decide) (by decide) rfl hv_26 ?_
            refine j_goto (tgt := 168) C dX12_held_151 (by decide) ?_
            exact j_iret C M dX12_held_168 (by decide) (by decide) ⟨(congrArg (fun z9 => some (Value.int z9)) (by first | exact (held_in c_155 c_160).symm | exact (held_hi c_160 c_131 c_144).symm | exact (held_lo c_155).symm | (rw [c_119]; rfl) | (rw [c_131]; rfl) | (rw [c_144]; rfl))), hf_31⟩
        · skip
          refine j_aload_n C dX12_held_134 rfl 2 rfl ?_
          refine j_geti (f := 1232) (v := 0) C flX12_275 dX12_held_135 hm_13 hk_14 (by decide) (by decide) rfl hv_25 ?_
          show J _ _ _ _ _ 138 _
          refine j_goto (tgt := 168) C dX12_held_138 (by decide) ?_
          exact j_iret C M dX12_held_168 (by decide) (by decide) ⟨(congrArg (fun z9 => some (Value.int z9)) (by first | exact (held_in c_155 c_160).symm | exact (held_hi c_160 c_131 c_144).symm | exact (held_lo c_155).symm | (rw [c_119]; rfl) | (rw [c_131]; rfl) | (rw [c_144]; rfl))), hf_31⟩
      · skip
        refine j_aload_n C dX12_held_122 rfl 2 rfl ?_
        refine j_geti (f := 1209) (v := 0) C flX12_260 dX12_held_123 hm_13 hk_14 (by decide) (by decide) rfl hv_24 ?_
        refine j_goto (tgt := 168) C dX12_held_126 (by decide) ?_
        exact j_iret C M dX12_held_168 (by decide) (by decide) ⟨(congrArg (fun z9 => some (Value.int z9)) (by first | exact (held_in c_155 c_160).symm | exact (held_hi c_160 c_131 c_144).symm | exact (held_lo c_155).symm | (rw [c_119]; rfl) | (rw [c_131]; rfl) | (rw [c_144]; rfl))), hf_31⟩
    | succ m9 ih_4 =>
      intro k1 S_2  hi_6 hl_3 
      have hz_32 : ∀ j, aI S_2 v1 j = 0 := fun j9 => (hl_3.ai mv1 (fun h9 => h9) j9).trans (zv1 j9)
      have hz_33 : ∀ j, aI S_2 v2 j = 0 := fun j9 => (hl_3.ai mv2 (fun h9 => h9) j9).trans (zv2 j9)
      have hy_34 : ∀ j, j < 16 → aI S_2 ft j = 0 := fun j9 h9 => (hl_3.ai mft (fun h9 => h9) j9).trans (zft j9 h9)
      have hm_35 : ft ∈ hL S_2 := hl_3.mem mft
      have hk_36 : Kd S_2 ft 17 := hl_3.kd mft kft
      have hn_37 : Ln S_2 ft 17 := hl_3.ln mft lft
      have hm_38 : h ∈ hL S_2 := hl_3.mem hm
      have hk_39 : Kd S_2 h 12 := hl_3.kd hm hk
      have hm_40 : mz ∈ hL S_2 := hl_3.mem mmz
      have hk_41 : Kd S_2 mz 14 := hl_3.kd mmz kmz
      have hn_42 : Ln S_2 mz 16 := hl_3.ln mmz lmz
      have hm_43 : v1 ∈ hL S_2 := hl_3.mem mv1
      have hk_44 : Kd S_2 v1 17 := hl_3.kd mv1 kv1
      have hn_45 : Ln S_2 v1 16 := hl_3.ln mv1 lv1
      have hm_46 : v2 ∈ hL S_2 := hl_3.mem mv2
      have hk_47 : Kd S_2 v2 17 := hl_3.kd mv2 kv2
      have hn_48 : Ln S_2 v2 16 := hl_3.ln mv2 lv2
      have hv_49 : hI S_2 1209 h = 0 := hl_3.fi hm (fun h9 => h9) i0
      have hv_50 : hI S_2 1232 h = 0 := hl_3.fi hm (fun h9 => h9) i1
      have hv_51 : hI S_2 1236 h = 0 := hl_3.fi hm (fun h9 => h9) i2
      have hv_52 : hR S_2 1202 h = (some ft) := hl_3.fr hm (fun h9 => h9) rft
      have hv_53 : hR S_2 1210 h = (some v1) := hl_3.fr hm (fun h9 => h9) rv1
      have hv_54 : hR S_2 1215 h = (some v2) := hl_3.fr hm (fun h9 => h9) rv2
      have hv_55 : hR S_2 1217 h = (some mz) := hl_3.fr hm (fun h9 => h9) rmz
      have hf_56 : Fm (fun _ _ => False) (fun _ _ => False) (fun _ => False) S S_2 := (Fm.refl (WI := (fun _ _ => False)) (WR := (fun _ _ => False)) (WA := (fun _ => False))).then hl_3 (fun a9 ha9 => ⟨(fun f9 h9 => h9.elim), (fun f9 h9 => h9.elim), (fun h9 => h9.elim)⟩)
      refine j_iload_n C dX12_held_4 rfl 0 rfl ?_
      refine j_bipush (v := 16) C dX12_held_5 (by decide) ?_
      refine j_ic_ge (tgt := 117) C dX12_held_7 (by decide) (fun c_7 => absurd c_7 (nI_ge (b := 16) (by omega) (by omega))) (fun c_7 => ?_)
      refine j_iload_n C dX12_held_10 rfl 3 rfl ?_
      refine j_if_ne (tgt := 34) C dX12_held_11 (by decide) (fun c_11 => ?_) (fun c_11 => ?_)
      · skip
        refine j_iload_n C dX12_held_34 rfl 3 rfl ?_
        show J _ _ _ _ _ 35 _
        refine j_iconst (v := 2) C dX12_held_35 (by decide) ?_
        refine j_ic_ne (tgt := 59) C dX12_held_36 (by decide) (fun c_36 => ?_) (fun c_36 => ?_)
        · skip
          refine j_iload_n C dX12_held_59 rfl 3 rfl ?_
          refine j_iconst (v := 3) C dX12_held_60 (by decide) ?_
          refine j_ic_ne (tgt := 84) C dX12_held_61 (by decide) (fun c_61 => ?_) (fun c_61 => ?_)
          · skip
            refine j_iload_n C dX12_held_84 rfl 3 rfl ?_
            refine j_iconst (v := 4) C dX12_held_85 (by decide) ?_
            refine j_ic_ne (tgt := 111) C dX12_held_86 (by decide) (fun c_86 => ?_) (fun c_86 => ?_)
            · skip
              refine j_iinc (q := 0) (v := nI (k1 + 1)) (lv' := [(3, .int (nI (k1 + 1))), (2, .int 0), (0, .ref h), (1, .int w0)]) C dX12_held_111 rfl (by rw [show Int32.ofInt 1 = 1 by decide]; exact nI_add k1 1) (by rw [hn9]; decide) rfl ?_
              refine j_goto (tgt := 4) C dX12_held_114 (by decide) ?_
              refine J.sub [0, 1, 2, 3] (lv' := [(3, .int (nI (k1 + 1))), (2, .int 0), (0, .ref h), (1, .int w0)]) (by rfl) ?_
              exact ih_4 (k1 + 1) _  (by omega) hf_56 
            · skip
              refine j_iload_n C dX12_held_89 rfl 1 rfl ?_
              show J _ _ _ _ _ 90 _
              refine j_aload_n C dX12_held_90 rfl 2 rfl ?_
              refine j_getr (f := 1215) (v := v2) C flX12_53 dX12_held_91 hm_38 hk_39 (by decide) rfl hv_54 ?_
              refine j_iload_n C dX12_held_94 rfl 0 rfl ?_
              refine j_zald (j := k1) (v := 0) C dX12_held_95 hm_46 hk_47 (inr_of (n := 16) hn_48 (vp_in_nI (by omega) (by omega))) (nI_clamp (by omega)) (hz_33 k1) ?_
              refine j_if_eq (tgt := 108) C dX12_held_96 (by decide) (fun c9 => ?_) (fun c9 => absurd (by decide) c9)
              refine j_iconst (v := 0) C dX12_held_108 (by decide) ?_
              refine j_iadd (v := 0) C dX12_held_109 (by decide) ?_
              refine j_istore_n (lv' := [(2, .int 0), (3, .int (nI k1)), (0, .ref h), (1, .int w0)]) C dX12_held_110 rfl (by rw [hn9]; decide) rfl ?_
              show J _ _ _ _ _ 111 _
              refine j_iinc (q := 1) (v := nI (k1 + 1)) (lv' := [(3, .int (nI (k1 + 1))), (2, .int 0), (0, .ref h), (1, .int w0)]) C dX12_held_111 rfl (by rw [show Int32.ofInt 1 = 1 by decide]; exact nI_add k1 1) (by rw [hn9]; decide) rfl ?_
              refine j_goto (tgt := 4) C dX12_held_114 (by decide) ?_
              refine J.sub [0, 1, 2, 3] (lv' := [(3, .int (nI (k1 + 1))), (2, .int 0), (0, .ref h), (1, .int w0)]) (by rfl) ?_
              exact ih_4 (k1 + 1) _  (by omega) hf_56 
          · skip
            refine j_iload_n C dX12_held_64 rfl 1 rfl ?_
            refine j_aload_n C dX12_held_65 rfl 2 rfl ?_
            refine j_getr (f := 1215) (v := v2) C flX12_53 dX12_held_66 hm_38 hk_39 (by decide) rfl hv_54 ?_
            refine j_iload_n C dX12_held_69 rfl 0 rfl ?_
            refine j_zald (j := k1) (v := 0) C dX12_held_70 hm_46 hk_47 (inr_of (n := 16) hn_48 (vp_in_nI (by omega) (by omega))) (nI_clamp (by omega)) (hz_33 k1) ?_
            refine j_if_eq (tgt := 78) C dX12_held_71 (by decide) (fun c9 => ?_) (fun c9 => absurd (by decide) c9)
            show J _ _ _ _ _ 78 _
            refine j_iconst (v := 0) C dX12_held_78 (by decide) ?_
            refine j_iadd (v := 0) C dX12_held_79 (by decide) ?_
            refine j_istore_n (lv' := [(2, .int 0), (3, .int (nI k1)), (0, .ref h), (1, .int w0)]) C dX12_held_80 rfl (by rw [hn9]; decide) rfl ?_
            refine j_goto (tgt := 111) C dX12_held_81 (by decide) ?_
            refine j_iinc (q := 1) (v := nI (k1 + 1)) (lv' := [(3, .int (nI (k1 + 1))), (2, .int 0), (0, .ref h), (1, .int w0)]) C dX12_held_111 rfl (by rw [show Int32.ofInt 1 = 1 by decide]; exact nI_add k1 1) (by rw [hn9]; decide) rfl ?_
            refine j_goto (tgt := 4) C dX12_held_114 (by decide) ?_
            refine J.sub [0, 1, 2, 3] (lv' := [(3, .int (nI (k1 + 1))), (2, .int 0), (0, .ref h), (1, .int w0)]) (by rfl) ?_
            exact ih_4 (k1 + 1) _  (by omega) hf_56 
        · skip
          refine j_iload_n C dX12_held_39 rfl 1 rfl ?_
          refine j_aload_n C dX12_held_40 rfl 2 rfl ?_
          show J _ _ _ _ _ 41 _
          refine j_getr (f := 1210) (v := v1) C flX12_38 dX12_held_41 hm_38 hk_39 (by decide) rfl hv_53 ?_
          refine j_iload_n C dX12_held_44 rfl 0 rfl ?_
          refine j_zald (j := k1) (v := 0) C dX12_held_45 hm_43 hk_44 (inr_of (n := 16) hn_45 (vp_in_nI (by omega) (by omega))) (nI_clamp (by omega)) (hz_32 k1) ?_
          refine j_if_eq (tgt := 53) C dX12_held_46 (by decide) (fun c9 => ?_) (fun c9 => absurd (by decide) c9)
          refine j_iconst (v := 0) C dX12_held_53 (by decide) ?_
          refine j_iadd (v := 0) C dX12_held_54 (by decide) ?_
          refine j_istore_n (lv' := [(2, .int 0), (3, .int (nI k1)), (0, .ref h), (1, .int w0)]) C dX12_held_55 rfl (by rw [hn9]; decide) rfl ?_
          refine j_goto (tgt := 111) C dX12_held_56 (by decide) ?_
          show J _ _ _ _ _ 111 _
          refine j_iinc (q := 1) (v := nI (k1 + 1)) (lv' := [(3, .int (nI (k1 + 1))), (2, .int 0), (0, .ref h), (1, .int w0)]) C dX12_held_111 rfl (by rw [show Int32.ofInt 1 = 1 by decide]; exact nI_add k1 1) (by rw [hn9]; decide) rfl ?_
          refine j_goto (tgt := 4) C dX12_held_114 (by decide) ?_
          refine J.sub [0, 1, 2, 3] (lv' := [(3, .int (nI (k1 + 1))), (2, .int 0), (0, .ref h), (1, .int w0)]) (by rfl) ?_
          exact ih_4 (k1 + 1) _  (by omega) hf_56 
      · skip
        refine j_iload_n C dX12_held_14 rfl 1 rfl ?_
        refine j_aload_n C dX12_held_15 rfl 2 rfl ?_
        refine j_getr (f := 1202) (v := ft) C flX12_16 dX12_held_16 hm_38 hk_39 (by decide) rfl hv_52 ?_
        refine j_iload_n C dX12_held_19 rfl 0 rfl ?_
        refine j_zald (j := k1) (v := 0) C dX12_held_20 hm_35 hk_36 (inr_of (n := 17) hn_37 (vp_in_nI (by omega) (by omega))) (nI_clamp (by omega)) (hy_34 k1 (by omega)) ?_
        refine j_if_eq (tgt := 28) C dX12_held_21 (by decide) (fun c9 => ?_) (fun c9 => absurd (by decide) c9)
        show J _ _ _ _ _ 28 _
        refine j_iconst (v := 0) C dX12_held_28 (by decide) ?_
        refine j_iadd (v := 0) C dX12_held_29 (by decide) ?_
        refine j_istore_n (lv' := [(2, .int 0), (3, .int (nI k1)), (0, .ref h), (1, .int w0)]) C dX12_held_30 rfl (by rw [hn9]; decide) rfl ?_
        refine j_goto (tgt := 111) C dX12_held_31 (by decide) ?_
        refine j_iinc (q := 1) (v := nI (k1 + 1)) (lv' := [(3, .int (nI (k1 + 1))), (2, .int 0), (0, .ref h), (1, .int w0)]) C dX12_held_111 rfl (by rw [show Int32.ofInt 1 = 1 by decide]; exact nI_add k1 1) (by rw [hn9]; decide) rfl ?_
        refine j_goto (tgt := 4) C dX12_held_114 (by decide) ?_
        refine J.sub [0, 1, 2, 3] (lv' := [(3, .int (nI (k1 + 1))), (2, .int 0), (0, .ref h), (1, .int w0)]) (by rfl) ?_
        exact ih_4 (k1 + 1) _  (by omega) hf_56 
  refine J.sub [0, 1, 2, 3] (lv' := [(3, .int (nI 0)), (2, .int 0), (0, .ref h), (1, .int w0)]) (by rw [nI_0]; rfl) ?_
  exact loop_5 16 0 _  (by omega) Fm.refl 

theorem dX12_fontsGo_0 : decode cX12_fontsGo 0 = .ok (.iconst 0, 1) := by decide +kernel
theorem dX12_fontsGo_1 : decode cX12_fontsGo 1 = .ok (.istore_n 2, 1) := by decide +kernel
theorem dX12_fontsGo_2 : decode cX12_fontsGo 2 = .ok (.iload_n 2, 1) := by decide +kernel
theorem dX12_fontsGo_3 : decode cX12_fontsGo 3 = .ok (.bipush 16, 2) := by decide +kernel
theorem dX12_fontsGo_5 : decode cX12_fontsGo 5 = .ok (.if_icmp .ge 36, 3) := by decide +kernel
theorem dX12_fontsGo_8 : decode cX12_fontsGo 8 = .ok (.aload_n 0, 1) := by decide +kernel
theorem dX12_fontsGo_9 : decode cX12_fontsGo 9 = .ok (.getfield 16, 3) := by decide +kernel
theorem dX12_fontsGo_12 : decode cX12_fontsGo 12 = .ok (.iload_n 2, 1) := by decide +kernel
theorem dX12_fontsGo_13 : decode cX12_fontsGo 13 = .ok (.baload, 1) := by decide +kernel
theorem dX12_fontsGo_14 : decode cX12_fontsGo 14 = .ok (.ifCond .eq 21, 3) := by decide +kernel
theorem dX12_fontsGo_17 : decode cX12_fontsGo 17 = .ok (.iload_n 1, 1) := by decide +kernel
theorem dX12_fontsGo_18 : decode cX12_fontsGo 18 = .ok (.ifCond .eq 12, 3) := by decide +kernel
theorem dX12_fontsGo_21 : decode cX12_fontsGo 21 = .ok (.aload_n 0, 1) := by decide +kernel
theorem dX12_fontsGo_22 : decode cX12_fontsGo 22 = .ok (.getfield 20, 3) := by decide +kernel
theorem dX12_fontsGo_25 : decode cX12_fontsGo 25 = .ok (.iload_n 2, 1) := by decide +kernel
theorem dX12_fontsGo_26 : decode cX12_fontsGo 26 = .ok (.baload, 1) := by decide +kernel
theorem dX12_fontsGo_27 : decode cX12_fontsGo 27 = .ok (.ifCond .eq 8, 3) := by decide +kernel
theorem dX12_fontsGo_30 : decode cX12_fontsGo 30 = .ok (.aload_n 0, 1) := by decide +kernel
theorem dX12_fontsGo_31 : decode cX12_fontsGo 31 = .ok (.iload_n 2, 1) := by decide +kernel
theorem dX12_fontsGo_32 : decode cX12_fontsGo 32 = .ok (.invokevirtual 254, 3) := by decide +kernel
theorem dX12_fontsGo_35 : decode cX12_fontsGo 35 = .ok (.iinc 2 1, 3) := by decide +kernel
theorem dX12_fontsGo_38 : decode cX12_fontsGo 38 = .ok (.goto (-36), 3) := by decide +kernel
theorem dX12_fontsGo_41 : decode cX12_fontsGo 41 = .ok (.return_, 1) := by decide +kernel
set_option maxRecDepth 100000 in
set_option maxHeartbeats 4000000 in
theorem c_X12_fontsGo (S : Hp) (h : Nat) (hm : h ∈ hL S) (hk : hK S h = 12) (ft : Nat) (rft : hR S 1202 h = some ft) (mft : ft ∈ hL S) (kft : Kd S ft 17) (lft : Ln S ft 17) (zft : ∀ j, j < 16 → aI S ft j = 0) : Ct 1 yX12_fontsGo cX12_fontsGo 3 none 0 0 [.ref h, .int 0] S (fun r S' => r = none ∧ Fm (fun _ _ => False) (fun _ _ => False) (fun _ => False) S S') := by
  refine ct_of (by decide) (Nat.le_of_ble_eq_true rfl) fun x hn9 C M hm9 => ?_
  have C : CB x RX12 cX12_fontsGo := C
  refine J.eq (lv' := [(0, .ref h), (1, .int 0)]) rfl rfl rfl ?_
  refine j_iconst (v := 0) C dX12_fontsGo_0 (by decide) ?_
  refine j_istore_n (lv' := [(2, .int 0), (0, .ref h), (1, .int 0)]) C dX12_fontsGo_1 rfl (by rw [hn9]; decide) rfl ?_
  have loop_5 : ∀ (m9 k1 : Nat) (S_2 : Hp), k1 + m9 = 16 → Fm (fun _ _ => False) (fun _ _ => False) (fun _ => False) S S_2 → J x (0) (0) S_2 [(2, .int (nI k1)), (0, .ref h), (1, .int 0)] 2 [] := by
    intro m9
    induction m9 with
    | zero =>
      intro k1 S_2  hi_6 hl_3 
      have hy_7 : ∀ j, j < 16 → aI S_2 ft j = 0 := fun j9 h9 => (hl_3.ai mft (fun h9 => h9) j9).trans (zft j9 h9)
      have hm_8 : ft ∈ hL S_2 := hl_3.mem mft
      have hk_9 : Kd S_2 ft 17 := hl_3.kd mft kft
      have hn_10 : Ln S_2 ft 17 := hl_3.ln mft lft
      have hm_11 : h ∈ hL S_2 := hl_3.mem hm
      have hk_12 : Kd S_2 h 12 := hl_3.kd hm hk
      have hv_13 : hR S_2 1202 h = (some ft) := hl_3.fr hm (fun h9 => h9) rft
      have hf_14 : Fm (fun _ _ => False) (fun _ _ => False) (fun _ => False) S S_2 := (Fm.refl (WI := (fun _ _ => False)) (WR := (fun _ _ => False)) (WA := (fun _ => False))).then hl_3 (fun a9 ha9 => ⟨(fun f9 h9 => h9.elim), (fun f9 h9 => h9.elim), (fun h9 => h9.elim)⟩)
      refine j_iload_n C dX12_fontsGo_2 rfl 0 rfl ?_
      refine j_bipush (v := 16) C dX12_fontsGo_3 (by decide) ?_
      refine j_ic_ge (tgt := 41) C dX12_fontsGo_5 (by decide) (fun c_5 => ?_) (fun c_5 => absurd (nI_le (a := 16) (by omega) (by omega)) c_5)
      exact j_vret C M dX12_fontsGo_41 (by decide) (by decide) ⟨rfl, hf_14⟩
    | succ m9 ih_4 =>
      intro k1 S_2  hi_6 hl_3 
      have hy_15 : ∀ j, j < 16 → aI S_2 ft j = 0 := fun j9 h9 => (hl_3.ai mft (fun h9 => h9) j9).trans (zft j9 h9)
      have hm_16 : ft ∈ hL S_2 := hl_3.mem mft
      have hk_17 : Kd S_2 ft 17 := hl_3.kd mft kft
      have hn_18 : Ln S_2 ft 17 := hl_3.ln mft lft
      have hm_19 : h ∈ hL S_2 := hl_3.mem hm
      have hk_20 : Kd S_2 h 12 := hl_3.kd hm hk
      have hv_21 : hR S_2 1202 h = (some ft) := hl_3.fr hm (fun h9 => h9) rft
      have hf_22 : Fm (fun _ _ => False) (fun _ _ => False) (fun _ => False) S S_2 := (Fm.refl (WI := (fun _ _ => False)) (WR := (fun _ _ => False)) (WA := (fun _ => False))).then hl_3 (fun a9 ha9 => ⟨(fun f9 h9 => h9.elim), (fun f9 h9 => h9.elim), (fun h9 => h9.elim)⟩)
      refine j_iload_n C dX12_fontsGo_2 rfl 0 rfl ?_
      refine j_bipush (v := 16) C dX12_fontsGo_3 (by decide) ?_
      refine j_ic_ge (tgt := 41) C dX12_fontsGo_5 (by decide) (fun c_5 => absurd c_5 (nI_ge (b := 16) (by omega) (by omega))) (fun c_5 => ?_)
      refine j_aload_n C dX12_fontsGo_8 rfl 1 rfl ?_
      refine j_getr (f := 1202) (v := ft) C flX12_16 dX12_fontsGo_9 hm_19 hk_20 (by decide) rfl hv_21 ?_
      show J _ _ _ _ _ 12 _
      refine j_iload_n C dX12_fontsGo_12 rfl 0 rfl ?_
      refine j_zald (j := k1) (v := 0) C dX12_fontsGo_13 hm_16 hk_17 (inr_of (n := 17) hn_18 (vp_in_nI (by omega) (by omega))) (nI_clamp (by omega)) (hy_15 k1 (by omega)) ?_
      refine j_if_eq (tgt := 35) C dX12_fontsGo_14 (by decide) (fun c9 => ?_) (fun c9 => absurd (by decide) c9)
      refine j_iinc (q := 0) (v := nI (k1 + 1)) (lv' := [(2, .int (nI (k1 + 1))), (0, .ref h), (1, .int 0)]) C dX12_fontsGo_35 rfl (by rw [show Int32.ofInt 1 = 1 by decide]; exact nI_add k1 1) (by rw [hn9]; decide) rfl ?_
      refine j_goto (tgt := 2) C dX12_fontsGo_38 (by decide) ?_
      refine J.sub [0, 1, 2] (lv' := [(2, .int (nI (k1 + 1))), (0, .ref h), (1, .int 0)]) (by rfl) ?_
      exact ih_4 (k1 + 1) _  (by omega) hf_22 
  refine J.sub [0, 1, 2] (lv' := [(2, .int (nI 0)), (0, .ref h), (1, .int 0)]) (by rw [nI_0]; rfl) ?_
  exact loop_5 16 0 _  (by omega) Fm.refl 

theorem dX12_usersGo_0 : decode cX12_usersGo 0 = .ok (.iconst 0, 1) := by decide +kernel
theorem dX12_usersGo_1 : decode cX12_usersGo 1 = .ok (.istore_n 2, 1) := by decide +kernel
theorem dX12_usersGo_2 : decode cX12_usersGo 2 = .ok (.iload_n 2, 1) := by decide +kernel
theorem dX12_usersGo_3 : decode cX12_usersGo 3 = .ok (.bipush 16, 2) := by decide +kernel
theorem dX12_usersGo_5 : decode cX12_usersGo 5 = .ok (.if_icmp .ge 42, 3) := by decide +kernel
theorem dX12_usersGo_8 : decode cX12_usersGo 8 = .ok (.aload_n 0, 1) := by decide +kernel
theorem dX12_usersGo_9 : decode cX12_usersGo 9 = .ok (.getfield 38, 3) := by decide +kernel
theorem dX12_usersGo_12 : decode cX12_usersGo 12 = .ok (.iload_n 2, 1) := by decide +kernel
theorem dX12_usersGo_13 : decode cX12_usersGo 13 = .ok (.aload_n 0, 1) := by decide +kernel
theorem dX12_usersGo_14 : decode cX12_usersGo 14 = .ok (.getfield 38, 3) := by decide +kernel
theorem dX12_usersGo_17 : decode cX12_usersGo 17 = .ok (.iload_n 2, 1) := by decide +kernel
theorem dX12_usersGo_18 : decode cX12_usersGo 18 = .ok (.baload, 1) := by decide +kernel
theorem dX12_usersGo_19 : decode cX12_usersGo 19 = .ok (.ifCond .eq 20, 3) := by decide +kernel
theorem dX12_usersGo_22 : decode cX12_usersGo 22 = .ok (.iload_n 1, 1) := by decide +kernel
theorem dX12_usersGo_23 : decode cX12_usersGo 23 = .ok (.ifCond .eq 16, 3) := by decide +kernel
theorem dX12_usersGo_26 : decode cX12_usersGo 26 = .ok (.aload_n 0, 1) := by decide +kernel
theorem dX12_usersGo_27 : decode cX12_usersGo 27 = .ok (.getfield 41, 3) := by decide +kernel
theorem dX12_usersGo_30 : decode cX12_usersGo 30 = .ok (.iload_n 2, 1) := by decide +kernel
theorem dX12_usersGo_31 : decode cX12_usersGo 31 = .ok (.baload, 1) := by decide +kernel
theorem dX12_usersGo_32 : decode cX12_usersGo 32 = .ok (.ifCond .ne 7, 3) := by decide +kernel
theorem dX12_usersGo_35 : decode cX12_usersGo 35 = .ok (.iconst 1, 1) := by decide +kernel
theorem dX12_usersGo_36 : decode cX12_usersGo 36 = .ok (.goto 4, 3) := by decide +kernel
theorem dX12_usersGo_39 : decode cX12_usersGo 39 = .ok (.iconst 0, 1) := by decide +kernel
theorem dX12_usersGo_40 : decode cX12_usersGo 40 = .ok (.bastore, 1) := by decide +kernel
theorem dX12_usersGo_41 : decode cX12_usersGo 41 = .ok (.iinc 2 1, 3) := by decide +kernel
theorem dX12_usersGo_44 : decode cX12_usersGo 44 = .ok (.goto (-42), 3) := by decide +kernel
theorem dX12_usersGo_47 : decode cX12_usersGo 47 = .ok (.return_, 1) := by decide +kernel
set_option maxRecDepth 100000 in
set_option maxHeartbeats 4000000 in
theorem c_X12_usersGo (S : Hp) (h : Nat) (hm : h ∈ hL S) (hk : hK S h = 12) (v1 : Nat) (rv1 : hR S 1210 h = some v1) (mv1 : v1 ∈ hL S) (kv1 : Kd S v1 17) (lv1 : Ln S v1 16) : Ct 1 yX12_usersGo cX12_usersGo 3 none 0 0 [.ref h, .int 0] S (fun r S' => r = none ∧ Fm (fun _ _ => False) (fun _ _ => False) (fun b9 => b9 = v1) S S') := by
  refine ct_of (by decide) (Nat.le_of_ble_eq_true rfl) fun x hn9 C M hm9 => ?_
  have C : CB x RX12 cX12_usersGo := C
  refine J.eq (lv' := [(0, .ref h), (1, .int 0)]) rfl rfl rfl ?_
  refine j_iconst (v := 0) C dX12_usersGo_0 (by decide) ?_
  refine j_istore_n (lv' := [(2, .int 0), (0, .ref h), (1, .int 0)]) C dX12_usersGo_1 rfl (by rw [hn9]; decide) rfl ?_
  have loop_5 : ∀ (m9 k1 : Nat) (S_2 : Hp), k1 + m9 = 16 → Fm (fun _ _ => False) (fun _ _ => False) (fun b9 => b9 = v1) S S_2 → J x (0) (0) S_2 [(2, .int (nI k1)), (0, .ref h), (1, .int 0)] 2 [] := by
    intro m9
    induction m9 with
    | zero =>
      intro k1 S_2  hi_6 hl_3 
      have hm_7 : h ∈ hL S_2 := hl_3.mem hm
      have hk_8 : Kd S_2 h 12 := hl_3.kd hm hk
      have hm_9 : v1 ∈ hL S_2 := hl_3.mem mv1
      have hk_10 : Kd S_2 v1 17 := hl_3.kd mv1 kv1
      have hn_11 : Ln S_2 v1 16 := hl_3.ln mv1 lv1
      have hv_12 : hR S_2 1210 h = (some v1) := hl_3.fr hm (fun h9 => h9) rv1
      have hf_13 : Fm (fun _ _ => False) (fun _ _ => False) (fun b9 => b9 = v1) S S_2 := (Fm.refl (WI := (fun _ _ => False)) (WR := (fun _ _ => False)) (WA := (fun b9 => b9 = v1))).then hl_3 (fun a9 ha9 => ⟨(fun f9 h9 => h9.elim), (fun f9 h9 => h9.elim), (fun h9 => (fun h8 => h8) h9)⟩)
      refine j_iload_n C dX12_usersGo_2 rfl 0 rfl ?_
      refine j_bipush (v := 16) C dX12_usersGo_3 (by decide) ?_
      refine j_ic_ge (tgt := 47) C dX12_usersGo_5 (by decide) (fun c_5 => ?_) (fun c_5 => absurd (nI_le (a := 16) (by omega) (by omega)) c_5)
      exact j_vret C M dX12_usersGo_47 (by decide) (by decide) ⟨rfl, hf_13⟩
    | succ m9 ih_4 =>
      intro k1 S_2  hi_6 hl_3 
      have hm_14 : h ∈ hL S_2 := hl_3.mem hm
      have hk_15 : Kd S_2 h 12 := hl_3.kd hm hk
      have hm_16 : v1 ∈ hL S_2 := hl_3.mem mv1
      have hk_17 : Kd S_2 v1 17 := hl_3.kd mv1 kv1
      have hn_18 : Ln S_2 v1 16 := hl_3.ln mv1 lv1
      have hv_19 : hR S_2 1210 h = (some v1) := hl_3.fr hm (fun h9 => h9) rv1
      have hf_20 : Fm (fun _ _ => False) (fun _ _ => False) (fun b9 => b9 = v1) S S_2 := (Fm.refl (WI := (fun _ _ => False)) (WR := (fun _ _ => False)) (WA := (fun b9 => b9 = v1))).then hl_3 (fun a9 ha9 => ⟨(fun f9 h9 => h9.elim), (fun f9 h9 => h9.elim), (fun h9 => (fun h8 => h8) h9)⟩)
      refine j_iload_n C dX12_usersGo_2 rfl 0 rfl ?_
      refine j_bipush (v := 16) C dX12_usersGo_3 (by decide) ?_
      refine j_ic_ge (tgt := 47) C dX12_usersGo_5 (by decide) (fun c_5 => absurd c_5 (nI_ge (b := 16) (by omega) (by omega))) (fun c_5 => ?_)
      refine j_aload_n C dX12_usersGo_8 rfl 1 rfl ?_
      refine j_getr (f := 1210) (v := v1) C flX12_38 dX12_usersGo_9 hm_14 hk_15 (by decide) rfl hv_19 ?_
      show J _ _ _ _ _ 12 _
      refine j_iload_n C dX12_usersGo_12 rfl 0 rfl ?_
      refine j_aload_n C dX12_usersGo_13 rfl 1 rfl ?_
      refine j_getr (f := 1210) (v := v1) C flX12_38 dX12_usersGo_14 hm_14 hk_15 (by decide) rfl hv_19 ?_
      refine j_iload_n C dX12_usersGo_17 rfl 0 rfl ?_
      refine j_zald (j := k1) (v := aI S_2 v1 k1) C dX12_usersGo_18 hm_16 hk_17 (inr_of (n := 16) hn_18 (vp_in_nI (by omega) (by omega))) (nI_clamp (by omega)) rfl ?_
      refine j_if_eq (tgt := 39) C dX12_usersGo_19 (by decide) (fun c_19 => ?_) (fun c_19 => ?_)
      · skip
        refine j_iconst (v := 0) C dX12_usersGo_39 (by decide) ?_
        refine j_zast (j := k1) C dX12_usersGo_40 hm_16 hk_17 (inr_of (n := 16) hn_18 (vp_in_nI (by omega) (by omega))) (nI_clamp (by omega)) ?_
        refine j_iinc (q := 0) (v := nI (k1 + 1)) (lv' := [(2, .int (nI (k1 + 1))), (0, .ref h), (1, .int 0)]) C dX12_usersGo_41 rfl (by rw [show Int32.ofInt 1 = 1 by decide]; exact nI_add k1 1) (by rw [hn9]; decide) rfl ?_
        show J _ _ _ _ _ 44 _
        refine j_goto (tgt := 2) C dX12_usersGo_44 (by decide) ?_
        refine J.sub [0, 1, 2] (lv' := [(2, .int (nI (k1 + 1))), (0, .ref h), (1, .int 0)]) (by rfl) ?_
        exact ih_4 (k1 + 1) _  (by omega) (hf_20.tI _ _ (fun _ => rfl)) 
      · skip
        refine j_iload_n C dX12_usersGo_22 rfl 2 rfl ?_
        refine j_if_eq (tgt := 39) C dX12_usersGo_23 (by decide) (fun c9 => ?_) (fun c9 => absurd (by decide) c9)
        refine j_iconst (v := 0) C dX12_usersGo_39 (by decide) ?_
        refine j_zast (j := k1) C dX12_usersGo_40 hm_16 hk_17 (inr_of (n := 16) hn_18 (vp_in_nI (by omega) (by omega))) (nI_clamp (by omega)) ?_
        refine j_iinc (q := 0) (v := nI (k1 + 1)) (lv' := [(2, .int (nI (k1 + 1))), (0, .ref h), (1, .int 0)]) C dX12_usersGo_41 rfl (by rw [show Int32.ofInt 1 = 1 by decide]; exact nI_add k1 1) (by rw [hn9]; decide) rfl ?_
        refine j_goto (tgt := 2) C dX12_usersGo_44 (by decide) ?_
        refine J.sub [0, 1, 2] (lv' := [(2, .int (nI (k1 + 1))), (0, .ref h), (1, .int 0)]) (by rfl) ?_
        exact ih_4 (k1 + 1) _  (by omega) (hf_20.tI _ _ (fun _ => rfl)) 
  refine J.sub [0, 1, 2] (lv' := [(2, .int (nI 0)), (0, .ref h), (1, .int 0)]) (by rw [nI_0]; rfl) ?_
  exact loop_5 16 0 _  (by omega) Fm.refl 

theorem dX12_macrosGo_0 : decode cX12_macrosGo 0 = .ok (.iconst 0, 1) := by decide +kernel
theorem dX12_macrosGo_1 : decode cX12_macrosGo 1 = .ok (.istore_n 2, 1) := by decide +kernel
theorem dX12_macrosGo_2 : decode cX12_macrosGo 2 = .ok (.iload_n 2, 1) := by decide +kernel
theorem dX12_macrosGo_3 : decode cX12_macrosGo 3 = .ok (.bipush 16, 2) := by decide +kernel
theorem dX12_macrosGo_5 : decode cX12_macrosGo 5 = .ok (.if_icmp .ge 42, 3) := by decide +kernel
theorem dX12_macrosGo_8 : decode cX12_macrosGo 8 = .ok (.aload_n 0, 1) := by decide +kernel
theorem dX12_macrosGo_9 : decode cX12_macrosGo 9 = .ok (.getfield 53, 3) := by decide +kernel
theorem dX12_macrosGo_12 : decode cX12_macrosGo 12 = .ok (.iload_n 2, 1) := by decide +kernel
theorem dX12_macrosGo_13 : decode cX12_macrosGo 13 = .ok (.aload_n 0, 1) := by decide +kernel
theorem dX12_macrosGo_14 : decode cX12_macrosGo 14 = .ok (.getfield 53, 3) := by decide +kernel
theorem dX12_macrosGo_17 : decode cX12_macrosGo 17 = .ok (.iload_n 2, 1) := by decide +kernel
theorem dX12_macrosGo_18 : decode cX12_macrosGo 18 = .ok (.baload, 1) := by decide +kernel
theorem dX12_macrosGo_19 : decode cX12_macrosGo 19 = .ok (.ifCond .eq 20, 3) := by decide +kernel
theorem dX12_macrosGo_22 : decode cX12_macrosGo 22 = .ok (.iload_n 1, 1) := by decide +kernel
theorem dX12_macrosGo_23 : decode cX12_macrosGo 23 = .ok (.ifCond .eq 16, 3) := by decide +kernel
theorem dX12_macrosGo_26 : decode cX12_macrosGo 26 = .ok (.aload_n 0, 1) := by decide +kernel
theorem dX12_macrosGo_27 : decode cX12_macrosGo 27 = .ok (.getfield 56, 3) := by decide +kernel
theorem dX12_macrosGo_30 : decode cX12_macrosGo 30 = .ok (.iload_n 2, 1) := by decide +kernel
theorem dX12_macrosGo_31 : decode cX12_macrosGo 31 = .ok (.baload, 1) := by decide +kernel
theorem dX12_macrosGo_32 : decode cX12_macrosGo 32 = .ok (.ifCond .ne 7, 3) := by decide +kernel
theorem dX12_macrosGo_35 : decode cX12_macrosGo 35 = .ok (.iconst 1, 1) := by decide +kernel
theorem dX12_macrosGo_36 : decode cX12_macrosGo 36 = .ok (.goto 4, 3) := by decide +kernel
theorem dX12_macrosGo_39 : decode cX12_macrosGo 39 = .ok (.iconst 0, 1) := by decide +kernel
theorem dX12_macrosGo_40 : decode cX12_macrosGo 40 = .ok (.bastore, 1) := by decide +kernel
theorem dX12_macrosGo_41 : decode cX12_macrosGo 41 = .ok (.iinc 2 1, 3) := by decide +kernel
theorem dX12_macrosGo_44 : decode cX12_macrosGo 44 = .ok (.goto (-42), 3) := by decide +kernel
theorem dX12_macrosGo_47 : decode cX12_macrosGo 47 = .ok (.return_, 1) := by decide +kernel
set_option maxRecDepth 100000 in
set_option maxHeartbeats 4000000 in
theorem c_X12_macrosGo (S : Hp) (h : Nat) (hm : h ∈ hL S) (hk : hK S h = 12) (v2 : Nat) (rv2 : hR S 1215 h = some v2) (mv2 : v2 ∈ hL S) (kv2 : Kd S v2 17) (lv2 : Ln S v2 16) : Ct 1 yX12_macrosGo cX12_macrosGo 3 none 0 0 [.ref h, .int 0] S (fun r S' => r = none ∧ Fm (fun _ _ => False) (fun _ _ => False) (fun b9 => b9 = v2) S S') := by
  refine ct_of (by decide) (Nat.le_of_ble_eq_true rfl) fun x hn9 C M hm9 => ?_
  have C : CB x RX12 cX12_macrosGo := C
  refine J.eq (lv' := [(0, .ref h), (1, .int 0)]) rfl rfl rfl ?_
  refine j_iconst (v := 0) C dX12_macrosGo_0 (by decide) ?_
  refine j_istore_n (lv' := [(2, .int 0), (0, .ref h), (1, .int 0)]) C dX12_macrosGo_1 rfl (by rw [hn9]; decide) rfl ?_
  have loop_5 : ∀ (m9 k1 : Nat) (S_2 : Hp), k1 + m9 = 16 → Fm (fun _ _ => False) (fun _ _ => False) (fun b9 => b9 = v2) S S_2 → J x (0) (0) S_2 [(2, .int (nI k1)), (0, .ref h), (1, .int 0)] 2 [] := by
    intro m9
    induction m9 with
    | zero =>
      intro k1 S_2  hi_6 hl_3 
      have hm_7 : h ∈ hL S_2 := hl_3.mem hm
      have hk_8 : Kd S_2 h 12 := hl_3.kd hm hk
      have hm_9 : v2 ∈ hL S_2 := hl_3.mem mv2
      have hk_10 : Kd S_2 v2 17 := hl_3.kd mv2 kv2
      have hn_11 : Ln S_2 v2 16 := hl_3.ln mv2 lv2
      have hv_12 : hR S_2 1215 h = (some v2) := hl_3.fr hm (fun h9 => h9) rv2
      have hf_13 : Fm (fun _ _ => False) (fun _ _ => False) (fun b9 => b9 = v2) S S_2 := (Fm.refl (WI := (fun _ _ => False)) (WR := (fun _ _ => False)) (WA := (fun b9 => b9 = v2))).then hl_3 (fun a9 ha9 => ⟨(fun f9 h9 => h9.elim), (fun f9 h9 => h9.elim), (fun h9 => (fun h8 => h8) h9)⟩)
      refine j_iload_n C dX12_macrosGo_2 rfl 0 rfl ?_
      refine j_bipush (v := 16) C dX12_macrosGo_3 (by decide) ?_
      refine j_ic_ge (tgt := 47) C dX12_macrosGo_5 (by decide) (fun c_5 => ?_) (fun c_5 => absurd (nI_le (a := 16) (by omega) (by omega)) c_5)
      exact j_vret C M dX12_macrosGo_47 (by decide) (by decide) ⟨rfl, hf_13⟩
    | succ m9 ih_4 =>
      intro k1 S_2  hi_6 hl_3 
      have hm_14 : h ∈ hL S_2 := hl_3.mem hm
      have hk_15 : Kd S_2 h 12 := hl_3.kd hm hk
      have hm_16 : v2 ∈ hL S_2 := hl_3.mem mv2
      have hk_17 : Kd S_2 v2 17 := hl_3.kd mv2 kv2
      have hn_18 : Ln S_2 v2 16 := hl_3.ln mv2 lv2
      have hv_19 : hR S_2 1215 h = (some v2) := hl_3.fr hm (fun h9 => h9) rv2
      have hf_20 : Fm (fun _ _ => False) (fun _ _ => False) (fun b9 => b9 = v2) S S_2 := (Fm.refl (WI := (fun _ _ => False)) (WR := (fun _ _ => False)) (WA := (fun b9 => b9 = v2))).then hl_3 (fun a9 ha9 => ⟨(fun f9 h9 => h9.elim), (fun f9 h9 => h9.elim), (fun h9 => (fun h8 => h8) h9)⟩)
      refine j_iload_n C dX12_macrosGo_2 rfl 0 rfl ?_
      refine j_bipush (v := 16) C dX12_macrosGo_3 (by decide) ?_
      refine j_ic_ge (tgt := 47) C dX12_macrosGo_5 (by decide) (fun c_5 => absurd c_5 (nI_ge (b := 16) (by omega) (by omega))) (fun c_5 => ?_)
      refine j_aload_n C dX12_macrosGo_8 rfl 1 rfl ?_
      refine j_getr (f := 1215) (v := v2) C flX12_53 dX12_macrosGo_9 hm_14 hk_15 (by decide) rfl hv_19 ?_
      show J _ _ _ _ _ 12 _
      refine j_iload_n C dX12_macrosGo_12 rfl 0 rfl ?_
      refine j_aload_n C dX12_macrosGo_13 rfl 1 rfl ?_
      refine j_getr (f := 1215) (v := v2) C flX12_53 dX12_macrosGo_14 hm_14 hk_15 (by decide) rfl hv_19 ?_
      refine j_iload_n C dX12_macrosGo_17 rfl 0 rfl ?_
      refine j_zald (j := k1) (v := aI S_2 v2 k1) C dX12_macrosGo_18 hm_16 hk_17 (inr_of (n := 16) hn_18 (vp_in_nI (by omega) (by omega))) (nI_clamp (by omega)) rfl ?_
      refine j_if_eq (tgt := 39) C dX12_macrosGo_19 (by decide) (fun c_19 => ?_) (fun c_19 => ?_)
      · skip
        refine j_iconst (v := 0) C dX12_macrosGo_39 (by decide) ?_
        refine j_zast (j := k1) C dX12_macrosGo_40 hm_16 hk_17 (inr_of (n := 16) hn_18 (vp_in_nI (by omega) (by omega))) (nI_clamp (by omega)) ?_
        refine j_iinc (q := 0) (v := nI (k1 + 1)) (lv' := [(2, .int (nI (k1 + 1))), (0, .ref h), (1, .int 0)]) C dX12_macrosGo_41 rfl (by rw [show Int32.ofInt 1 = 1 by decide]; exact nI_add k1 1) (by rw [hn9]; decide) rfl ?_
        show J _ _ _ _ _ 44 _
        refine j_goto (tgt := 2) C dX12_macrosGo_44 (by decide) ?_
        refine J.sub [0, 1, 2] (lv' := [(2, .int (nI (k1 + 1))), (0, .ref h), (1, .int 0)]) (by rfl) ?_
        exact ih_4 (k1 + 1) _  (by omega) (hf_20.tI _ _ (fun _ => rfl)) 
      · skip
        refine j_iload_n C dX12_macrosGo_22 rfl 2 rfl ?_
        refine j_if_eq (tgt := 39) C dX12_macrosGo_23 (by decide) (fun c9 => ?_) (fun c9 => absurd (by decide) c9)
        refine j_iconst (v := 0) C dX12_macrosGo_39 (by decide) ?_
        refine j_zast (j := k1) C dX12_macrosGo_40 hm_16 hk_17 (inr_of (n := 16) hn_18 (vp_in_nI (by omega) (by omega))) (nI_clamp (by omega)) ?_
        refine j_iinc (q := 0) (v := nI (k1 + 1)) (lv' := [(2, .int (nI (k1 + 1))), (0, .ref h), (1, .int 0)]) C dX12_macrosGo_41 rfl (by rw [show Int32.ofInt 1 = 1 by decide]; exact nI_add k1 1) (by rw [hn9]; decide) rfl ?_
        refine j_goto (tgt := 2) C dX12_macrosGo_44 (by decide) ?_
        refine J.sub [0, 1, 2] (lv' := [(2, .int (nI (k1 + 1))), (0, .ref h), (1, .int 0)]) (by rfl) ?_
        exact ih_4 (k1 + 1) _  (by omega) (hf_20.tI _ _ (fun _ => rfl)) 
  refine J.sub [0, 1, 2] (lv' := [(2, .int (nI 0)), (0, .ref h), (1, .int 0)]) (by rw [nI_0]; rfl) ?_
  exact loop_5 16 0 _  (by omega) Fm.refl 

theorem dX12_off_0 : decode cX12_off 0 = .ok (.aload_n 0, 1) := by decide +kernel
theorem dX12_off_1 : decode cX12_off 1 = .ok (.iconst 0, 1) := by decide +kernel
theorem dX12_off_2 : decode cX12_off 2 = .ok (.invokevirtual 664, 3) := by decide +kernel
theorem dX12_off_5 : decode cX12_off 5 = .ok (.aload_n 0, 1) := by decide +kernel
theorem dX12_off_6 : decode cX12_off 6 = .ok (.iconst 2, 1) := by decide +kernel
theorem dX12_off_7 : decode cX12_off 7 = .ok (.invokevirtual 664, 3) := by decide +kernel
theorem dX12_off_10 : decode cX12_off 10 = .ok (.iadd, 1) := by decide +kernel
theorem dX12_off_11 : decode cX12_off 11 = .ok (.aload_n 0, 1) := by decide +kernel
theorem dX12_off_12 : decode cX12_off 12 = .ok (.iconst 3, 1) := by decide +kernel
theorem dX12_off_13 : decode cX12_off 13 = .ok (.invokevirtual 664, 3) := by decide +kernel
theorem dX12_off_16 : decode cX12_off 16 = .ok (.iadd, 1) := by decide +kernel
theorem dX12_off_17 : decode cX12_off 17 = .ok (.istore_n 1, 1) := by decide +kernel
theorem dX12_off_18 : decode cX12_off 18 = .ok (.aload_n 0, 1) := by decide +kernel
theorem dX12_off_19 : decode cX12_off 19 = .ok (.iconst 0, 1) := by decide +kernel
theorem dX12_off_20 : decode cX12_off 20 = .ok (.invokevirtual 244, 3) := by decide +kernel
theorem dX12_off_23 : decode cX12_off 23 = .ok (.aload_n 0, 1) := by decide +kernel
theorem dX12_off_24 : decode cX12_off 24 = .ok (.iconst 0, 1) := by decide +kernel
theorem dX12_off_25 : decode cX12_off 25 = .ok (.invokevirtual 248, 3) := by decide +kernel
theorem dX12_off_28 : decode cX12_off 28 = .ok (.aload_n 0, 1) := by decide +kernel
theorem dX12_off_29 : decode cX12_off 29 = .ok (.iconst 0, 1) := by decide +kernel
theorem dX12_off_30 : decode cX12_off 30 = .ok (.invokevirtual 251, 3) := by decide +kernel
theorem dX12_off_33 : decode cX12_off 33 = .ok (.iload_n 1, 1) := by decide +kernel
theorem dX12_off_34 : decode cX12_off 34 = .ok (.ireturn, 1) := by decide +kernel
set_option maxRecDepth 100000 in
set_option maxHeartbeats 4000000 in
theorem c_X12_off (S : Hp) (h : Nat) (hm : h ∈ hL S) (hk : hK S h = 12) (ft : Nat) (rft : hR S 1202 h = some ft) (mft : ft ∈ hL S) (kft : Kd S ft 17) (lft : Ln S ft 17) (zft : ∀ j, j < 16 → aI S ft j = 0) (v1 : Nat) (rv1 : hR S 1210 h = some v1) (mv1 : v1 ∈ hL S) (kv1 : Kd S v1 17) (lv1 : Ln S v1 16) (zv1 : ∀ j, aI S v1 j = 0) (v2 : Nat) (rv2 : hR S 1215 h = some v2) (mv2 : v2 ∈ hL S) (kv2 : Kd S v2 17) (lv2 : Ln S v2 16) (zv2 : ∀ j, aI S v2 j = 0) (mz : Nat) (rmz : hR S 1217 h = some mz) (mmz : mz ∈ hL S) (kmz : Kd S mz 14) (lmz : Ln S mz 16) (i0 : hI S 1209 h = 0) (i1 : hI S 1232 h = 0) (i2 : hI S 1236 h = 0) : Ct 2 yX12_off cX12_off 2 (some .int) 0 0 [.ref h] S (fun r S' => r = some (.int 0) ∧ Fm (fun _ _ => False) (fun _ _ => False) (fun b9 => b9 = v1 ∨ b9 = v2) S S') := by
  refine ct_of (by decide) (Nat.le_of_ble_eq_true rfl) fun x hn9 C M hm9 => ?_
  have C : CB x RX12 cX12_off := C
  refine J.eq (lv' := [(0, .ref h)]) rfl rfl rfl ?_
  refine j_aload_n C dX12_off_0 rfl 0 rfl ?_
  refine j_iconst (v := 0) C dX12_off_1 (by decide) ?_
  refine j_callV (ci := 12) C [.int 0] [] mlX12_664 mcX12_held (c_X12_held S h hm hk ft rft mft kft lft zft v1 rv1 mv1 kv1 lv1 zv1 v2 rv2 mv2 kv2 lv2 zv2 mz rmz mmz kmz lmz i0 i1 i2 0) hm hk rfl (M.rm (by decide) (by decide) (Nat.le_of_ble_eq_true rfl) (Nat.le_of_ble_eq_true rfl)) rfl rfl (Nat.le_of_ble_eq_true rfl) dX12_off_2 (fun r_1 S_2 hp_3 => ?_)
  obtain ⟨rfl, hf_4⟩ := hp_3
  refine J.eq (st' := [.int (an_held 0)]) rfl rfl rfl ?_
  have hz_5 : ∀ j, aI S_2 v1 j = 0 := fun j9 => (hf_4.ai mv1 (fun h9 => h9) j9).trans (zv1 j9)
  have hz_6 : ∀ j, aI S_2 v2 j = 0 := fun j9 => (hf_4.ai mv2 (fun h9 => h9) j9).trans (zv2 j9)
  have hy_7 : ∀ j, j < 16 → aI S_2 ft j = 0 := fun j9 h9 => (hf_4.ai mft (fun h9 => h9) j9).trans (zft j9 h9)
  have hm_8 : ft ∈ hL S_2 := hf_4.mem mft
  have hk_9 : Kd S_2 ft 17 := hf_4.kd mft kft
  have hn_10 : Ln S_2 ft 17 := hf_4.ln mft lft
  have hm_11 : h ∈ hL S_2 := hf_4.mem hm
  have hk_12 : Kd S_2 h 12 := hf_4.kd hm hk
  have hm_13 : mz ∈ hL S_2 := hf_4.mem mmz
  have hk_14 : Kd S_2 mz 14 := hf_4.kd mmz kmz
  have hn_15 : Ln S_2 mz 16 := hf_4.ln mmz lmz
  have hm_16 : v1 ∈ hL S_2 := hf_4.mem mv1
  have hk_17 : Kd S_2 v1 17 := hf_4.kd mv1 kv1
  have hn_18 : Ln S_2 v1 16 := hf_4.ln mv1 lv1
  have hm_19 : v2 ∈ hL S_2 := hf_4.mem mv2
  have hk_20 : Kd S_2 v2 17 := hf_4.kd mv2 kv2
  have hn_21 : Ln S_2 v2 16 := hf_4.ln mv2 lv2
  have hv_22 : hI S_2 1209 h = 0 := hf_4.fi hm (fun h9 => h9) i0
  have hv_23 : hI S_2 1232 h = 0 := hf_4.fi hm (fun h9 => h9) i1
  have hv_24 : hI S_2 1236 h = 0 := hf_4.fi hm (fun h9 => h9) i2
  have hv_25 : hR S_2 1202 h = (some ft) := hf_4.fr hm (fun h9 => h9) rft
  have hv_26 : hR S_2 1210 h = (some v1) := hf_4.fr hm (fun h9 => h9) rv1
  have hv_27 : hR S_2 1215 h = (some v2) := hf_4.fr hm (fun h9 => h9) rv2
  have hv_28 : hR S_2 1217 h = (some mz) := hf_4.fr hm (fun h9 => h9) rmz
  have hf_29 : Fm (fun _ _ => False) (fun _ _ => False) (fun b9 => b9 = v1 ∨ b9 = v2) S S_2 := (Fm.refl (WI := (fun _ _ => False)) (WR := (fun _ _ => False)) (WA := (fun b9 => b9 = v1 ∨ b9 = v2))).then hf_4 (fun a9 ha9 => ⟨(fun f9 h9 => h9.elim), (fun f9 h9 => h9.elim), (fun h9 => h9.elim)⟩)
  refine j_aload_n C dX12_off_5 rfl 0 rfl ?_
  refine j_iconst (v := 2) C dX12_off_6 (by decide) ?_
  refine j_callV (ci := 12) C [.int 2] [.int (an_held 0)] mlX12_664 mcX12_held (c_X12_held S_2 h hm_11 hk_12 ft hv_25 hm_8 hk_9 hn_10 hy_7 v1 hv_26 hm_16 hk_17 hn_18 hz_5 v2 hv_27 hm_19 hk_20 hn_21 hz_6 mz hv_28 hm_13 hk_14 hn_15 hv_22 hv_23 hv_24 2) hm_11 hk_12 rfl (M.rm (by decide) (by decide) (Nat.le_of_ble_eq_true rfl) (Nat.le_of_ble_eq_true rfl)) rfl rfl (Nat.le_of_ble_eq_true rfl) dX12_off_7 (fun r_30 S_31 hp_32 => ?_)
  obtain ⟨rfl, hf_33⟩ := hp_32
  refine J.eq (st' := [.int (an_held 2), .int (an_held 0)]) rfl rfl rfl ?_
  have hz_34 : ∀ j, aI S_31 v1 j = 0 := fun j9 => (hf_33.ai hm_16 (fun h9 => h9) j9).trans (hz_5 j9)
  have hz_35 : ∀ j, aI S_31 v2 j = 0 := fun j9 => (hf_33.ai hm_19 (fun h9 => h9) j9).trans (hz_6 j9)
  have hy_36 : ∀ j, j < 16 → aI S_31 ft j = 0 := fun j9 h9 => (hf_33.ai hm_8 (fun h9 => h9) j9).trans (hy_7 j9 h9)
  have hm_37 : ft ∈ hL S_31 := hf_33.mem hm_8
  have hk_38 : Kd S_31 ft 17 := hf_33.kd hm_8 hk_9
  have hn_39 : Ln S_31 ft 17 := hf_33.ln hm_8 hn_10
  have hm_40 : h ∈ hL S_31 := hf_33.mem hm_11
  have hk_41 : Kd S_31 h 12 := hf_33.kd hm_11 hk_12
  have hm_42 : mz ∈ hL S_31 := hf_33.mem hm_13
  have hk_43 : Kd S_31 mz 14 := hf_33.kd hm_13 hk_14
  have hn_44 : Ln S_31 mz 16 := hf_33.ln hm_13 hn_15
  have hm_45 : v1 ∈ hL S_31 := hf_33.mem hm_16
  have hk_46 : Kd S_31 v1 17 := hf_33.kd hm_16 hk_17
  have hn_47 : Ln S_31 v1 16 := hf_33.ln hm_16 hn_18
  have hm_48 : v2 ∈ hL S_31 := hf_33.mem hm_19
  have hk_49 : Kd S_31 v2 17 := hf_33.kd hm_19 hk_20
  have hn_50 : Ln S_31 v2 16 := hf_33.ln hm_19 hn_21
  have hv_51 : hI S_31 1209 h = 0 := hf_33.fi hm_11 (fun h9 => h9) hv_22
  have hv_52 : hI S_31 1232 h = 0 := hf_33.fi hm_11 (fun h9 => h9) hv_23
  have hv_53 : hI S_31 1236 h = 0 := hf_33.fi hm_11 (fun h9 => h9) hv_24
  have hv_54 : hR S_31 1202 h = (some ft) := hf_33.fr hm_11 (fun h9 => h9) hv_25
  have hv_55 : hR S_31 1210 h = (some v1) := hf_33.fr hm_11 (fun h9 => h9) hv_26
  have hv_56 : hR S_31 1215 h = (some v2) := hf_33.fr hm_11 (fun h9 => h9) hv_27
  have hv_57 : hR S_31 1217 h = (some mz) := hf_33.fr hm_11 (fun h9 => h9) hv_28
  have hf_58 : Fm (fun _ _ => False) (fun _ _ => False) (fun b9 => b9 = v1 ∨ b9 = v2) S S_31 := hf_29.then hf_33 (fun a9 ha9 => ⟨(fun f9 h9 => h9.elim), (fun f9 h9 => h9.elim), (fun h9 => h9.elim)⟩)
  refine j_iadd (v := 0) C dX12_off_10 (by decide) ?_
  refine j_aload_n C dX12_off_11 rfl 0 rfl ?_
  show J _ _ _ _ _ 12 _
  refine j_iconst (v := 3) C dX12_off_12 (by decide) ?_
  refine j_callV (ci := 12) C [.int 3] [.int 0] mlX12_664 mcX12_held (c_X12_held S_31 h hm_40 hk_41 ft hv_54 hm_37 hk_38 hn_39 hy_36 v1 hv_55 hm_45 hk_46 hn_47 hz_34 v2 hv_56 hm_48 hk_49 hn_50 hz_35 mz hv_57 hm_42 hk_43 hn_44 hv_51 hv_52 hv_53 3) hm_40 hk_41 rfl (M.rm (by decide) (by decide) (Nat.le_of_ble_eq_true rfl) (Nat.le_of_ble_eq_true rfl)) rfl rfl (Nat.le_of_ble_eq_true rfl) dX12_off_13 (fun r_59 S_60 hp_61 => ?_)
  obtain ⟨rfl, hf_62⟩ := hp_61
  refine J.eq (st' := [.int (an_held 3), .int 0]) rfl rfl rfl ?_
  have hz_63 : ∀ j, aI S_60 v1 j = 0 := fun j9 => (hf_62.ai hm_45 (fun h9 => h9) j9).trans (hz_34 j9)
  have hz_64 : ∀ j, aI S_60 v2 j = 0 := fun j9 => (hf_62.ai hm_48 (fun h9 => h9) j9).trans (hz_35 j9)
  have hy_65 : ∀ j, j < 16 → aI S_60 ft j = 0 := fun j9 h9 => (hf_62.ai hm_37 (fun h9 => h9) j9).trans (hy_36 j9 h9)
  have hm_66 : ft ∈ hL S_60 := hf_62.mem hm_37
  have hk_67 : Kd S_60 ft 17 := hf_62.kd hm_37 hk_38
  have hn_68 : Ln S_60 ft 17 := hf_62.ln hm_37 hn_39
  have hm_69 : h ∈ hL S_60 := hf_62.mem hm_40
  have hk_70 : Kd S_60 h 12 := hf_62.kd hm_40 hk_41
  have hm_71 : mz ∈ hL S_60 := hf_62.mem hm_42
  have hk_72 : Kd S_60 mz 14 := hf_62.kd hm_42 hk_43
  have hn_73 : Ln S_60 mz 16 := hf_62.ln hm_42 hn_44
  have hm_74 : v1 ∈ hL S_60 := hf_62.mem hm_45
  have hk_75 : Kd S_60 v1 17 := hf_62.kd hm_45 hk_46
  have hn_76 : Ln S_60 v1 16 := hf_62.ln hm_45 hn_47
  have hm_77 : v2 ∈ hL S_60 := hf_62.mem hm_48
  have hk_78 : Kd S_60 v2 17 := hf_62.kd hm_48 hk_49
  have hn_79 : Ln S_60 v2 16 := hf_62.ln hm_48 hn_50
  have hv_80 : hI S_60 1209 h = 0 := hf_62.fi hm_40 (fun h9 => h9) hv_51
  have hv_81 : hI S_60 1232 h = 0 := hf_62.fi hm_40 (fun h9 => h9) hv_52
  have hv_82 : hI S_60 1236 h = 0 := hf_62.fi hm_40 (fun h9 => h9) hv_53
  have hv_83 : hR S_60 1202 h = (some ft) := hf_62.fr hm_40 (fun h9 => h9) hv_54
  have hv_84 : hR S_60 1210 h = (some v1) := hf_62.fr hm_40 (fun h9 => h9) hv_55
  have hv_85 : hR S_60 1215 h = (some v2) := hf_62.fr hm_40 (fun h9 => h9) hv_56
  have hv_86 : hR S_60 1217 h = (some mz) := hf_62.fr hm_40 (fun h9 => h9) hv_57
  have hf_87 : Fm (fun _ _ => False) (fun _ _ => False) (fun b9 => b9 = v1 ∨ b9 = v2) S S_60 := hf_58.then hf_62 (fun a9 ha9 => ⟨(fun f9 h9 => h9.elim), (fun f9 h9 => h9.elim), (fun h9 => h9.elim)⟩)
  refine j_iadd (v := 0) C dX12_off_16 (by decide) ?_
  refine j_istore_n (lv' := [(1, .int 0), (0, .ref h)]) C dX12_off_17 rfl (by rw [hn9]; decide) rfl ?_
  refine j_aload_n C dX12_off_18 rfl 1 rfl ?_
  refine j_iconst (v := 0) C dX12_off_19 (by decide) ?_
  refine j_callV (ci := 12) C [.int 0] [] mlX12_244 mcX12_fontsGo (c_X12_fontsGo S_60 h hm_69 hk_70 ft hv_83 hm_66 hk_67 hn_68 hy_65) hm_69 hk_70 rfl (M.rm (by decide) (by decide) (Nat.le_of_ble_eq_true rfl) (Nat.le_of_ble_eq_true rfl)) rfl rfl (Nat.le_of_ble_eq_true rfl) dX12_off_20 (fun r_88 S_89 hp_90 => ?_)
  obtain ⟨rfl, hf_91⟩ := hp_90
  refine J.eq (st' := []) rfl rfl rfl ?_
  have hz_92 : ∀ j, aI S_89 v1 j = 0 := fun j9 => (hf_91.ai hm_74 (fun h9 => h9) j9).trans (hz_63 j9)
  have hz_93 : ∀ j, aI S_89 v2 j = 0 := fun j9 => (hf_91.ai hm_77 (fun h9 => h9) j9).trans (hz_64 j9)
  have hy_94 : ∀ j, j < 16 → aI S_89 ft j = 0 := fun j9 h9 => (hf_91.ai hm_66 (fun h9 => h9) j9).trans (hy_65 j9 h9)
  have hm_95 : ft ∈ hL S_89 := hf_91.mem hm_66
  have hk_96 : Kd S_89 ft 17 := hf_91.kd hm_66 hk_67
  have hn_97 : Ln S_89 ft 17 := hf_91.ln hm_66 hn_68
  have hm_98 : h ∈ hL S_89 := hf_91.mem hm_69
  have hk_99 : Kd S_89 h 12 := hf_91.kd hm_69 hk_70
  have hm_100 : mz ∈ hL S_89 := hf_91.mem hm_71
  have hk_101 : Kd S_89 mz 14 := hf_91.kd hm_71 hk_72
  have hn_102 : Ln S_89 mz 16 := hf_91.ln hm_71 hn_73
  have hm_103 : v1 ∈ hL S_89 := hf_91.mem hm_74
  have hk_104 : Kd S_89 v1 17 := hf_91.kd hm_74 hk_75
  have hn_105 : Ln S_89 v1 16 := hf_91.ln hm_74 hn_76
  have hm_106 : v2 ∈ hL S_89 := hf_91.mem hm_77
  have hk_107 : Kd S_89 v2 17 := hf_91.kd hm_77 hk_78
  have hn_108 : Ln S_89 v2 16 := hf_91.ln hm_77 hn_79
  have hv_109 : hI S_89 1209 h = 0 := hf_91.fi hm_69 (fun h9 => h9) hv_80
  have hv_110 : hI S_89 1232 h = 0 := hf_91.fi hm_69 (fun h9 => h9) hv_81
  have hv_111 : hI S_89 1236 h = 0 := hf_91.fi hm_69 (fun h9 => h9) hv_82
  have hv_112 : hR S_89 1202 h = (some ft) := hf_91.fr hm_69 (fun h9 => h9) hv_83
  have hv_113 : hR S_89 1210 h = (some v1) := hf_91.fr hm_69 (fun h9 => h9) hv_84
  have hv_114 : hR S_89 1215 h = (some v2) := hf_91.fr hm_69 (fun h9 => h9) hv_85
  have hv_115 : hR S_89 1217 h = (some mz) := hf_91.fr hm_69 (fun h9 => h9) hv_86
  have hf_116 : Fm (fun _ _ => False) (fun _ _ => False) (fun b9 => b9 = v1 ∨ b9 = v2) S S_89 := hf_87.then hf_91 (fun a9 ha9 => ⟨(fun f9 h9 => h9.elim), (fun f9 h9 => h9.elim), (fun h9 => h9.elim)⟩)
  refine j_aload_n C dX12_off_23 rfl 1 rfl ?_
  show J _ _ _ _ _ 24 _
  refine j_iconst (v := 0) C dX12_off_24 (by decide) ?_
  refine j_callV (ci := 12) C [.int 0] [] mlX12_248 mcX12_usersGo (c_X12_usersGo S_89 h hm_98 hk_99 v1 hv_113 hm_103 hk_104 hn_105) hm_98 hk_99 rfl (M.rm (by decide) (by decide) (Nat.le_of_ble_eq_true rfl) (Nat.le_of_ble_eq_true rfl)) rfl rfl (Nat.le_of_ble_eq_true rfl) dX12_off_25 (fun r_117 S_118 hp_119 => ?_)
  obtain ⟨rfl, hf_120⟩ := hp_119
  refine J.eq (st' := []) rfl rfl rfl ?_
  have hm_121 : ft ∈ hL S_118 := hf_120.mem hm_95
  have hk_122 : Kd S_118 ft 17 := hf_120.kd hm_95 hk_96
  have hn_123 : Ln S_118 ft 17 := hf_120.ln hm_95 hn_97
  have hm_124 : h ∈ hL S_118 := hf_120.mem hm_98
  have hk_125 : Kd S_118 h 12 := hf_120.kd hm_98 hk_99
  have hm_126 : mz ∈ hL S_118 := hf_120.mem hm_100
  have hk_127 : Kd S_118 mz 14 := hf_120.kd hm_100 hk_101
  have hn_128 : Ln S_118 mz 16 := hf_120.ln hm_100 hn_102
  have hm_129 : v1 ∈ hL S_118 := hf_120.mem hm_103
  have hk_130 : Kd S_118 v1 17 := hf_120.kd hm_103 hk_104
  have hn_131 : Ln S_118 v1 16 := hf_120.ln hm_103 hn_105
  have hm_132 : v2 ∈ hL S_118 := hf_120.mem hm_106
  have hk_133 : Kd S_118 v2 17 := hf_120.kd hm_106 hk_107
  have hn_134 : Ln S_118 v2 16 := hf_120.ln hm_106 hn_108
  have hv_135 : hI S_118 1209 h = 0 := hf_120.fi hm_98 (fun h9 => h9) hv_109
  have hv_136 : hI S_118 1232 h = 0 := hf_120.fi hm_98 (fun h9 => h9) hv_110
  have hv_137 : hI S_118 1236 h = 0 := hf_120.fi hm_98 (fun h9 => h9) hv_111
  have hv_138 : hR S_118 1202 h = (some ft) := hf_120.fr hm_98 (fun h9 => h9) hv_112
  have hv_139 : hR S_118 1210 h = (some v1) := hf_120.fr hm_98 (fun h9 => h9) hv_113
  have hv_140 : hR S_118 1215 h = (some v2) := hf_120.fr hm_98 (fun h9 => h9) hv_114
  have hv_141 : hR S_118 1217 h = (some mz) := hf_120.fr hm_98 (fun h9 => h9) hv_115
  have hf_142 : Fm (fun _ _ => False) (fun _ _ => False) (fun b9 => b9 = v1 ∨ b9 = v2) S S_118 := hf_116.then hf_120 (fun a9 ha9 => ⟨(fun f9 h9 => h9.elim), (fun f9 h9 => h9.elim), (fun h9 => (fun h8 => (Or.inl h8)) h9)⟩)
  refine j_aload_n C dX12_off_28 rfl 1 rfl ?_
  refine j_iconst (v := 0) C dX12_off_29 (by decide) ?_
  refine j_callV (ci := 12) C [.int 0] [] mlX12_251 mcX12_macrosGo (c_X12_macrosGo S_118 h hm_124 hk_125 v2 hv_140 hm_132 hk_133 hn_134) hm_124 hk_125 rfl (M.rm (by decide) (by decide) (Nat.le_of_ble_eq_true rfl) (Nat.le_of_ble_eq_true rfl)) rfl rfl (Nat.le_of_ble_eq_true rfl) dX12_off_30 (fun r_143 S_144 hp_145 => ?_)
  obtain ⟨rfl, hf_146⟩ := hp_145
  refine J.eq (st' := []) rfl rfl rfl ?_
  have hm_147 : ft ∈ hL S_144 := hf_146.mem hm_121
  have hk_148 : Kd S_144 ft 17 := hf_146.kd hm_121 hk_122
  have hn_149 : Ln S_144 ft 17 := hf_146.ln hm_121 hn_123
  have hm_150 : h ∈ hL S_144 := hf_146.mem hm_124
  have hk_151 : Kd S_144 h 12 := hf_146.kd hm_124 hk_125
  have hm_152 : mz ∈ hL S_144 := hf_146.mem hm_126
  have hk_153 : Kd S_144 mz 14 := hf_146.kd hm_126 hk_127
  have hn_154 : Ln S_144 mz 16 := hf_146.ln hm_126 hn_128
  have hm_155 : v1 ∈ hL S_144 := hf_146.mem hm_129
  have hk_156 : Kd S_144 v1 17 := hf_146.kd hm_129 hk_130
  have hn_157 : Ln S_144 v1 16 := hf_146.ln hm_129 hn_131
  have hm_158 : v2 ∈ hL S_144 := hf_146.mem hm_132
  have hk_159 : Kd S_144 v2 17 := hf_146.kd hm_132 hk_133
  have hn_160 : Ln S_144 v2 16 := hf_146.ln hm_132 hn_134
  have hv_161 : hI S_144 1209 h = 0 := hf_146.fi hm_124 (fun h9 => h9) hv_135
  have hv_162 : hI S_144 1232 h = 0 := hf_146.fi hm_124 (fun h9 => h9) hv_136
  have hv_163 : hI S_144 1236 h = 0 := hf_146.fi hm_124 (fun h9 => h9) hv_137
  have hv_164 : hR S_144 1202 h = (some ft) := hf_146.fr hm_124 (fun h9 => h9) hv_138
  have hv_165 : hR S_144 1210 h = (some v1) := hf_146.fr hm_124 (fun h9 => h9) hv_139
  have hv_166 : hR S_144 1215 h = (some v2) := hf_146.fr hm_124 (fun h9 => h9) hv_140
  have hv_167 : hR S_144 1217 h = (some mz) := hf_146.fr hm_124 (fun h9 => h9) hv_141
  have hf_168 : Fm (fun _ _ => False) (fun _ _ => False) (fun b9 => b9 = v1 ∨ b9 = v2) S S_144 := hf_142.then hf_146 (fun a9 ha9 => ⟨(fun f9 h9 => h9.elim), (fun f9 h9 => h9.elim), (fun h9 => (fun h8 => (Or.inr h8)) h9)⟩)
  refine j_iload_n C dX12_off_33 rfl 0 rfl ?_
  exact j_iret C M dX12_off_34 (Nat.le_of_ble_eq_true rfl) (Nat.le_of_ble_eq_true rfl) ⟨rfl, hf_168⟩
