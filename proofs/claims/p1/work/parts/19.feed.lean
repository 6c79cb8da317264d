theorem dX11_feedNumber_0 : decode cX11_feedNumber 0 = .ok (.bipush 24, 2) := by decide +kernel
theorem dX11_feedNumber_2 : decode cX11_feedNumber 2 = .ok (.istore_n 2, 1) := by decide +kernel
theorem dX11_feedNumber_3 : decode cX11_feedNumber 3 = .ok (.iload_n 2, 1) := by decide +kernel
theorem dX11_feedNumber_4 : decode cX11_feedNumber 4 = .ok (.ifCond .lt 51, 3) := by decide +kernel
theorem dX11_feedNumber_7 : decode cX11_feedNumber 7 = .ok (.aload_n 0, 1) := by decide +kernel
theorem dX11_feedNumber_8 : decode cX11_feedNumber 8 = .ok (.getfield 53, 3) := by decide +kernel
theorem dX11_feedNumber_11 : decode cX11_feedNumber 11 = .ok (.ifCond .lt 38, 3) := by decide +kernel
theorem dX11_feedNumber_14 : decode cX11_feedNumber 14 = .ok (.aload_n 0, 1) := by decide +kernel
theorem dX11_feedNumber_15 : decode cX11_feedNumber 15 = .ok (.getfield 53, 3) := by decide +kernel
theorem dX11_feedNumber_18 : decode cX11_feedNumber 18 = .ok (.aload_n 0, 1) := by decide +kernel
theorem dX11_feedNumber_19 : decode cX11_feedNumber 19 = .ok (.getfield 9, 3) := by decide +kernel
theorem dX11_feedNumber_22 : decode cX11_feedNumber 22 = .ok (.arraylength, 1) := by decide +kernel
theorem dX11_feedNumber_23 : decode cX11_feedNumber 23 = .ok (.if_icmp .ge 26, 3) := by decide +kernel
theorem dX11_feedNumber_26 : decode cX11_feedNumber 26 = .ok (.aload_n 0, 1) := by decide +kernel
theorem dX11_feedNumber_27 : decode cX11_feedNumber 27 = .ok (.getfield 9, 3) := by decide +kernel
theorem dX11_feedNumber_30 : decode cX11_feedNumber 30 = .ok (.aload_n 0, 1) := by decide +kernel
theorem dX11_feedNumber_31 : decode cX11_feedNumber 31 = .ok (.getfield 53, 3) := by decide +kernel
theorem dX11_feedNumber_34 : decode cX11_feedNumber 34 = .ok (.iload_n 1, 1) := by decide +kernel
theorem dX11_feedNumber_35 : decode cX11_feedNumber 35 = .ok (.iload_n 2, 1) := by decide +kernel
theorem dX11_feedNumber_36 : decode cX11_feedNumber 36 = .ok (.ishr, 1) := by decide +kernel
theorem dX11_feedNumber_37 : decode cX11_feedNumber 37 = .ok (.i2b, 1) := by decide +kernel
theorem dX11_feedNumber_38 : decode cX11_feedNumber 38 = .ok (.bastore, 1) := by decide +kernel
theorem dX11_feedNumber_39 : decode cX11_feedNumber 39 = .ok (.aload_n 0, 1) := by decide +kernel
theorem dX11_feedNumber_40 : decode cX11_feedNumber 40 = .ok (.dup, 1) := by decide +kernel
theorem dX11_feedNumber_41 : decode cX11_feedNumber 41 = .ok (.getfield 53, 3) := by decide +kernel
theorem dX11_feedNumber_44 : decode cX11_feedNumber 44 = .ok (.iconst 1, 1) := by decide +kernel
theorem dX11_feedNumber_45 : decode cX11_feedNumber 45 = .ok (.iadd, 1) := by decide +kernel
theorem dX11_feedNumber_46 : decode cX11_feedNumber 46 = .ok (.putfield 53, 3) := by decide +kernel
theorem dX11_feedNumber_49 : decode cX11_feedNumber 49 = .ok (.iinc 2 (-8), 3) := by decide +kernel
theorem dX11_feedNumber_52 : decode cX11_feedNumber 52 = .ok (.goto (-49), 3) := by decide +kernel
theorem dX11_feedNumber_55 : decode cX11_feedNumber 55 = .ok (.return_, 1) := by decide +kernel
set_option maxRecDepth 100000 in
set_option maxHeartbeats 4000000 in
theorem c_X11_feedNumber (S : Hp) (h : Nat) (hm : h ∈ hL S) (hk : hK S h = 11) (t : Nat) (rt : hR S 1100 h = some t) (mt : t ∈ hL S) (kt : Kd S t 13) (lt : Ln S t 8000) (v : Int32) (n0 : Nat) (ht : hI S 1101 h = nI n0) (hle : n0 + 4 ≤ 8000) : Ct 1 yX11_feedNumber cX11_feedNumber 3 none 0 0 [.ref h, .int v] S (fun r S' => r = none ∧ Fm (fun f9 b9 => (f9 = 1101 ∧ b9 = h)) (fun _ _ => False) (fun b9 => b9 = t) S S' ∧ hI S' 1101 h = nI (n0 + 4)) := by
  refine ct_of (by decide) (Nat.le_of_ble_eq_true rfl) fun x hn9 C M hm9 => ?_
  have C : CB x RX11 cX11_feedNumber := C
  refine J.eq (lv' := [(0, .ref h), (1, .int v)]) rfl rfl rfl ?_
  refine j_bipush (v := 24) C dX11_feedNumber_0 (by decide) ?_
  refine j_istore_n (lv' := [(2, .int 24), (0, .ref h), (1, .int v)]) C dX11_feedNumber_2 rfl (by rw [hn9]; decide) rfl ?_
  refine j_iload_n C dX11_feedNumber_3 rfl 0 rfl ?_
  refine j_if_lt (tgt := 55) C dX11_feedNumber_4 (by decide) (fun c9 => absurd c9 (by decide)) (fun c9 => ?_)
  refine j_aload_n C dX11_feedNumber_7 rfl 1 rfl ?_
  refine j_geti (f := 1101) (v := nI n0) C flX11_53 dX11_feedNumber_8 hm hk (by decide) (by decide) rfl ht ?_
  refine j_if_lt (tgt := 49) C dX11_feedNumber_11 (by decide) (fun c_11 => absurd c_11 (nI_pos (by omega))) (fun c_11 => ?_)
  refine j_aload_n C dX11_feedNumber_14 rfl 1 rfl ?_
  show J _ _ _ _ _ 15 _
  refine j_geti (f := 1101) (v := nI n0) C flX11_53 dX11_feedNumber_15 hm hk (by decide) (by decide) rfl ht ?_
  refine j_aload_n C dX11_feedNumber_18 rfl 1 rfl ?_
  refine j_getr (f := 1100) (v := t) C flX11_9 dX11_feedNumber_19 hm hk (by decide) rfl rt ?_
  refine j_alen (v := 8000) C dX11_feedNumber_22 mt kt (by decide) (by decide) (len_of (n := 8000) lt (by decide)) ?_
  refine j_ic_ge (tgt := 49) C dX11_feedNumber_23 (by decide) (fun c_23 => absurd c_23 (nI_ge (b := 8000) (by omega) (by omega))) (fun c_23 => ?_)
  refine j_aload_n C dX11_feedNumber_26 rfl 1 rfl ?_
  refine j_getr (f := 1100) (v := t) C flX11_9 dX11_feedNumber_27 hm hk (by decide) rfl rt ?_
  refine j_aload_n C dX11_feedNumber_30 rfl 1 rfl ?_
  show J _ _ _ _ _ 31 _
  refine j_geti (f := 1101) (v := nI n0) C flX11_53 dX11_feedNumber_31 hm hk (by decide) (by decide) rfl ht ?_
  refine j_iload_n C dX11_feedNumber_34 rfl 2 rfl ?_
  refine j_iload_n C dX11_feedNumber_35 rfl 0 rfl ?_
  refine j_ishr C dX11_feedNumber_36 rfl ?_
  refine j_i2b C dX11_feedNumber_37 rfl ?_
  refine j_bast (j := n0) C dX11_feedNumber_38 mt kt (inr_of (n := 8000) lt (vp_in_nI (by omega) (by omega))) (nI_clamp (by omega)) ?_
  refine j_aload_n C dX11_feedNumber_39 rfl 1 rfl ?_
  refine j_dup C dX11_feedNumber_40 rfl ?_
  show J _ _ _ _ _ 41 _
  refine j_geti (f := 1101) (v := nI n0) C flX11_53 dX11_feedNumber_41 hm hk (by decide) (by decide) rfl ht ?_
  refine j_iconst (v := 1) C dX11_feedNumber_44 (by decide) ?_
  refine j_iadd (v := nI (n0 + 1)) C dX11_feedNumber_45 (nI_add n0 1) ?_
  refine j_puti (f := 1101) C flX11_53 (by decide) rfl rfl dX11_feedNumber_46 hm hk rfl ?_
  have hf_3 : Fm (fun f9 b9 => (f9 = 1101 ∧ b9 = h)) (fun _ _ => False) (fun b9 => b9 = t) S (sI (tI S t n0 (((v >>> (24 &&& 31)).toInt8.toInt32).toInt8.toInt32)) 1101 h (nI (n0 + 1))) := (((Fm.refl (WI := (fun f9 b9 => (f9 = 1101 ∧ b9 = h))) (WR := (fun _ _ => False)) (WA := (fun b9 => b9 = t))).tI _ _ (fun _ => rfl)).sI _ (fun _ => ⟨rfl, rfl⟩))
  obtain ⟨S_1, eS_2⟩ : ∃ S9 : Hp, S9 = (sI (tI S t n0 (((v >>> (24 &&& 31)).toInt8.toInt32).toInt8.toInt32)) 1101 h (nI (n0 + 1))) := ⟨_, rfl⟩
  refine J.eq (S' := S_1) eS_2.symm rfl rfl ?_
  have hm_4 : h ∈ hL S_1 := by rw [eS_2]; exact hm
  have hk_5 : Kd S_1 h 11 := by rw [eS_2]; exact hk
  have hm_6 : t ∈ hL S_1 := by rw [eS_2]; exact mt
  have hk_7 : Kd S_1 t 13 := by rw [eS_2]; exact kt
  have hn_8 : Ln S_1 t 8000 := by rw [eS_2]; exact lt
  have hv_9 : hI S_1 1101 h = nI (n0 + 1) := by rw [eS_2]; exact (rd_sI (S := (tI S t n0 (((v >>> (24 &&& 31)).toInt8.toInt32).toInt8.toInt32))) (g := 1101) (a := h) (v := nI (n0 + 1)))
  have hv_10 : hR S_1 1100 h = (some t) := by rw [eS_2]; exact rt
  have hf_11 : Fm (fun f9 b9 => (f9 = 1101 ∧ b9 = h)) (fun _ _ => False) (fun b9 => b9 = t) S S_1 := by rw [eS_2]; exact hf_3
  refine j_iinc (q := 0) (v := 16) (lv' := [(2, .int 16), (0, .ref h), (1, .int v)]) C dX11_feedNumber_49 rfl (by decide) (by rw [hn9]; decide) rfl ?_
  refine j_goto (tgt := 3) C dX11_feedNumber_52 (by decide) ?_
  refine j_iload_n C dX11_feedNumber_3 rfl 0 rfl ?_
  refine j_if_lt (tgt := 55) C dX11_feedNumber_4 (by decide) (fun c9 => absurd c9 (by decide)) (fun c9 => ?_)
  show J _ _ _ _ _ 7 _
  refine j_aload_n C dX11_feedNumber_7 rfl 1 rfl ?_
  refine j_geti (f := 1101) (v := nI (n0 + 1)) C flX11_53 dX11_feedNumber_8 hm_4 hk_5 (by decide) (by decide) rfl hv_9 ?_
  refine j_if_lt (tgt := 49) C dX11_feedNumber_11 (by decide) (fun c_11 => absurd c_11 (nI_pos (by omega))) (fun c_11 => ?_)
  refine j_aload_n C dX11_feedNumber_14 rfl 1 rfl ?_
  refine j_geti (f := 1101) (v := nI (n0 + 1)) C flX11_53 dX11_feedNumber_15 hm_4 hk_5 (by decide) (by decide) rfl hv_9 ?_
  refine j_aload_n C dX11_feedNumber_18 rfl 1 rfl ?_
  refine j_getr (f := 1100) (v := t) C flX11_9 dX11_feedNumber_19 hm_4 hk_5 (by decide) rfl hv_10 ?_
  refine j_alen (v := 8000) C dX11_feedNumber_22 hm_6 hk_7 (by decide) (by decide) (len_of (n := 8000) hn_8 (by decide)) ?_
  show J _ _ _ _ _ 23 _
  refine j_ic_ge (tgt := 49) C dX11_feedNumber_23 (by decide) (fun c_23 => absurd c_23 (nI_ge (b := 8000) (by omega) (by omega))) (fun c_23 => ?_)
  refine j_aload_n C dX11_feedNumber_26 rfl 1 rfl ?_
  refine j_getr (f := 1100) (v := t) C flX11_9 dX11_feedNumber_27 hm_4 hk_5 (by decide) rfl hv_10 ?_
  refine j_aload_n C dX11_feedNumber_30 rfl 1 rfl ?_
  refine j_geti (f := 1101) (v := nI (n0 + 1)) C flX11_53 dX11_feedNumber_31 hm_4 hk_5 (by decide) (by decide) rfl hv_9 ?_
  refine j_iload_n C dX11_feedNumber_34 rfl 2 rfl ?_
  refine j_iload_n C dX11_feedNumber_35 rfl 0 rfl ?_
  refine j_ishr C dX11_feedNumber_36 rfl ?_
  show J _ _ _ _ _ 37 _
  refine j_i2b C dX11_feedNumber_37 rfl ?_
  refine j_bast (j := (n0 + 1)) C dX11_feedNumber_38 hm_6 hk_7 (inr_of (n := 8000) hn_8 (vp_in_nI (by omega) (by omega))) (nI_clamp (by omega)) ?_
  refine j_aload_n C dX11_feedNumber_39 rfl 1 rfl ?_
  refine j_dup C dX11_feedNumber_40 rfl ?_
  refine j_geti (f := 1101) (v := nI (n0 + 1)) C flX11_53 dX11_feedNumber_41 hm_4 hk_5 (by decide) (by decide) rfl hv_9 ?_
  refine j_iconst (v := 1) C dX11_feedNumber_44 (by decide) ?_
  refine j_iadd (v := nI (n0 + 2)) C dX11_feedNumber_45 (nI_add (n0 + 1) 1) ?_
  refine j_puti (f := 1101) C flX11_53 (by decide) rfl rfl dX11_feedNumber_46 hm_4 hk_5 rfl ?_
  show J _ _ _ _ _ 49 _
  have hf_14 : Fm (fun f9 b9 => (f9 = 1101 ∧ b9 = h)) (fun _ _ => False) (fun b9 => b9 = t) S (sI (tI S_1 t (n0 + 1) (((v >>> (16 &&& 31)).toInt8.toInt32).toInt8.toInt32)) 1101 h (nI (n0 + 2))) := ((hf_11.tI _ _ (fun _ => rfl)).sI _ (fun _ => ⟨rfl, rfl⟩))
  obtain ⟨S_12, eS_13⟩ : ∃ S9 : Hp, S9 = (sI (tI S_1 t (n0 + 1) (((v >>> (16 &&& 31)).toInt8.toInt32).toInt8.toInt32)) 1101 h (nI (n0 + 2))) := ⟨_, rfl⟩
  refine J.eq (S' := S_12) eS_13.symm rfl rfl ?_
  have hm_15 : h ∈ hL S_12 := by rw [eS_13]; exact hm_4
  have hk_16 : Kd S_12 h 11 := by rw [eS_13]; exact hk_5
  have hm_17 : t ∈ hL S_12 := by rw [eS_13]; exact hm_6
  have hk_18 : Kd S_12 t 13 := by rw [eS_13]; exact hk_7
  have hn_19 : Ln S_12 t 8000 := by rw [eS_13]; exact hn_8
  have hv_20 : hI S_12 1101 h = nI (n0 + 2) := by rw [eS_13]; exact (rd_sI (S := (tI S_1 t (n0 + 1) (((v >>> (16 &&& 31)).toInt8.toInt32).toInt8.toInt32))) (g := 1101) (a := h) (v := nI (n0 + 2)))
  have hv_21 : hR S_12 1100 h = (some t) := by rw [eS_13]; exact hv_10
  have hf_22 : Fm (fun f9 b9 => (f9 = 1101 ∧ b9 = h)) (fun _ _ => False) (fun b9 => b9 = t) S S_12 := by rw [eS_13]; exact hf_14
  refine j_iinc (q := 0) (v := 8) (lv' := [(2, .int 8), (0, .ref h), (1, .int v)]) C dX11_feedNumber_49 rfl (by decide) (by rw [hn9]; decide) rfl ?_
  refine j_goto (tgt := 3) C dX11_feedNumber_52 (by decide) ?_
  refine j_iload_n C dX11_feedNumber_3 rfl 0 rfl ?_
  refine j_if_lt (tgt := 55) C dX11_feedNumber_4 (by decide) (fun c9 => absurd c9 (by decide)) (fun c9 => ?_)
  refine j_aload_n C dX11_feedNumber_7 rfl 1 rfl ?_
  refine j_geti (f := 1101) (v := nI (n0 + 2)) C flX11_53 dX11_feedNumber_8 hm_15 hk_16 (by decide) (by decide) rfl hv_20 ?_
  refine j_if_lt (tgt := 49) C dX11_feedNumber_11 (by decide) (fun c_11 => absurd c_11 (nI_pos (by omega))) (fun c_11 => ?_)
  refine j_aload_n C dX11_feedNumber_14 rfl 1 rfl ?_
  show J _ _ _ _ _ 15 _
  refine j_geti (f := 1101) (v := nI (n0 + 2)) C flX11_53 dX11_feedNumber_15 hm_15 hk_16 (by decide) (by decide) rfl hv_20 ?_
  refine j_aload_n C dX11_feedNumber_18 rfl 1 rfl ?_
  refine j_getr (f := 1100) (v := t) C flX11_9 dX11_feedNumber_19 hm_15 hk_16 (by decide) rfl hv_21 ?_
  refine j_alen (v := 8000) C dX11_feedNumber_22 hm_17 hk_18 (by decide) (by decide) (len_of (n := 8000) hn_19 (by decide)) ?_
  refine j_ic_ge (tgt := 49) C dX11_feedNumber_23 (by decide) (fun c_23 => absurd c_23 (nI_ge (b := 8000) (by omega) (by omega))) (fun c_23 => ?_)
  refine j_aload_n C dX11_feedNumber_26 rfl 1 rfl ?_
  refine j_getr (f := 1100) (v := t) C flX11_9 dX11_feedNumber_27 hm_15 hk_16 (by decide) rfl hv_21 ?_
  refine j_aload_n C dX11_feedNumber_30 rfl 1 rfl ?_
  show J _ _ _ _ _ 31 _
  refine j_geti (f := 1101) (v := nI (n0 + 2)) C flX11_53 dX11_feedNumber_31 hm_15 hk_16 (by decide) (by decide) rfl hv_20 ?_
  refine j_iload_n C dX11_feedNumber_34 rfl 2 rfl ?_
  refine j_iload_n C dX11_feedNumber_35 rfl 0 rfl ?_
  refine j_ishr C dX11_feedNumber_36 rfl ?_
  refine j_i2b C dX11_feedNumber_37 rfl ?_
  refine j_bast (j := (n0 + 2)) C dX11_feedNumber_38 hm_17 hk_18 (inr_of (n := 8000) hn_19 (vp_in_nI (by omega) (by omega))) (nI_clamp (by omega)) ?_
  refine j_aload_n C dX11_feedNumber_39 rfl 1 rfl ?_
  refine j_dup C dX11_feedNumber_40 rfl ?_
  show J _ _ _ _ _ 41 _
  refine j_geti (f := 1101) (v := nI (n0 + 2)) C flX11_53 dX11_feedNumber_41 hm_15 hk_16 (by decide) (by decide) rfl hv_20 ?_
  refine j_iconst (v := 1) C dX11_feedNumber_44 (by decide) ?_
  refine j_iadd (v := nI (n0 + 3)) C dX11_feedNumber_45 (nI_add (n0 + 2) 1) ?_
  refine j_puti (f := 1101) C flX11_53 (by decide) rfl rfl dX11_feedNumber_46 hm_15 hk_16 rfl ?_
  have hf_25 : Fm (fun f9 b9 => (f9 = 1101 ∧ b9 = h)) (fun _ _ => False) (fun b9 => b9 = t) S (sI (tI S_12 t (n0 + 2) (((v >>> (8 &&& 31)).toInt8.toInt32).toInt8.toInt32)) 1101 h (nI (n0 + 3))) := ((hf_22.tI _ _ (fun _ => rfl)).sI _ (fun _ => ⟨rfl, rfl⟩))
  obtain ⟨S_23, eS_24⟩ : ∃ S9 : Hp, S9 = (sI (tI S_12 t (n0 + 2) (((v >>> (8 &&& 31)).toInt8.toInt32).toInt8.toInt32)) 1101 h (nI (n0 + 3))) := ⟨_, rfl⟩
  refine J.eq (S' := S_23) eS_24.symm rfl rfl ?_
  have hm_26 : h ∈ hL S_23 := by rw [eS_24]; exact hm_15
  have hk_27 : Kd S_23 h 11 := by rw [eS_24]; exact hk_16
  have hm_28 : t ∈ hL S_23 := by rw [eS_24]; exact hm_17
  have hk_29 : Kd S_23 t 13 := by rw [eS_24]; exact hk_18
  have hn_30 : Ln S_23 t 8000 := by rw [eS_24]; exact hn_19
  have hv_31 : hI S_23 1101 h = nI (n0 + 3) := by rw [eS_24]; exact (rd_sI (S := (tI S_12 t (n0 + 2) (((v >>> (8 &&& 31)).toInt8.toInt32).toInt8.toInt32))) (g := 1101) (a := h) (v := nI (n0 + 3)))
  have hv_32 : hR S_23 1100 h = (some t) := by rw [eS_24]; exact hv_21
  have hf_33 : Fm (fun f9 b9 => (f9 = 1101 ∧ b9 = h)) (fun _ _ => False) (fun b9 => b9 = t) S S_23 := by rw [eS_24]; exact hf_25
  refine j_iinc (q := 0) (v := 0) (lv' := [(2, .int 0), (0, .ref h), (1, .int v)]) C dX11_feedNumber_49 rfl (by decide) (by rw [hn9]; decide) rfl ?_
  refine j_goto (tgt := 3) C dX11_feedNumber_52 (by decide) ?_
  refine j_iload_n C dX11_feedNumber_3 rfl 0 rfl ?_
  refine j_if_lt (tgt := 55) C dX11_feedNumber_4 (by decide) (fun c9 => absurd c9 (by decide)) (fun c9 => ?_)
  show J _ _ _ _ _ 7 _
  refine j_aload_n C dX11_feedNumber_7 rfl 1 rfl ?_
  refine j_geti (f := 1101) (v := nI (n0 + 3)) C flX11_53 dX11_feedNumber_8 hm_26 hk_27 (by decide) (by decide) rfl hv_31 ?_
  refine j_if_lt (tgt := 49) C dX11_feedNumber_11 (by decide) (fun c_11 => absurd c_11 (nI_pos (by omega))) (fun c_11 => ?_)
  refine j_aload_n C dX11_feedNumber_14 rfl 1 rfl ?_
  refine j_geti (f := 1101) (v := nI (n0 + 3)) C flX11_53 dX11_feedNumber_15 hm_26 hk_27 (by decide) (by decide) rfl hv_31 ?_
  refine j_aload_n C dX11_feedNumber_18 rfl 1 rfl ?_
  refine j_getr (f := 1100) (v := t) C flX11_9 dX11_feedNumber_19 hm_26 hk_27 (by decide) rfl hv_32 ?_
  refine j_alen (v := 8000) C dX11_feedNumber_22 hm_28 hk_29 (by decide) (by decide) (len_of (n := 8000) hn_30 (by decide)) ?_
  show J _ _ _ _ _ 23 _
  refine j_ic_ge (tgt := 49) C dX11_feedNumber_23 (by decide) (fun c_23 => absurd c_23 (nI_ge (b := 8000) (by omega) (by omega))) (fun c_23 => ?_)
  refine j_aload_n C dX11_feedNumber_26 rfl 1 rfl ?_
  refine j_getr (f := 1100) (v := t) C flX11_9 dX11_feedNumber_27 hm_26 hk_27 (by decide) rfl hv_32 ?_
  refine j_aload_n C dX11_feedNumber_30 rfl 1 rfl ?_
  refine j_geti (f := 1101) (v := nI (n0 + 3)) C flX11_53 dX11_feedNumber_31 hm_26 hk_27 (by decide) (by decide) rfl hv_31 ?_
  refine j_iload_n C dX11_feedNumber_34 rfl 2 rfl ?_
  refine j_iload_n C dX11_feedNumber_35 rfl 0 rfl ?_
  refine j_ishr C dX11_feedNumber_36 rfl ?_
  show J _ _ _ _ _ 37 _
  refine j_i2b C dX11_feedNumber_37 rfl ?_
  refine j_bast (j := (n0 + 3)) C dX11_feedNumber_38 hm_28 hk_29 (inr_of (n := 8000) hn_30 (vp_in_nI (by omega) (by omega))) (nI_clamp (by omega)) ?_
  refine j_aload_n C dX11_feedNumber_39 rfl 1 rfl ?_
  refine j_dup C dX11_feedNumber_40 rfl ?_
  refine j_geti (f := 1101) (v := nI (n0 + 3)) C flX11_53 dX11_feedNumber_41 hm_26 hk_27 (by decide) (by decide) rfl hv_31 ?_
  refine j_iconst (v := 1) C dX11_feedNumber_44 (by decide) ?_
  refine j_iadd (v := nI (n0 + 4)) C dX11_feedNumber_45 (nI_add (n0 + 3) 1) ?_
  refine j_puti (f := 1101) C flX11_53 (by decide) rfl rfl dX11_feedNumber_46 hm_26 hk_27 rfl ?_
  show J _ _ _ _ _ 49 _
  have hf_36 : Fm (fun f9 b9 => (f9 = 1101 ∧ b9 = h)) (fun _ _ => False) (fun b9 => b9 = t) S (sI (tI S_23 t (n0 + 3) (((v >>> (0 &&& 31)).toInt8.toInt32).toInt8.toInt32)) 1101 h (nI (n0 + 4))) := ((hf_33.tI _ _ (fun _ => rfl)).sI _ (fun _ => ⟨rfl, rfl⟩))
  obtain ⟨S_34, eS_35⟩ : ∃ S9 : Hp, S9 = (sI (tI S_23 t (n0 + 3) (((v >>> (0 &&& 31)).toInt8.toInt32).toInt8.toInt32)) 1101 h (nI (n0 + 4))) := ⟨_, rfl⟩
  refine J.eq (S' := S_34) eS_35.symm rfl rfl ?_
  have hm_37 : h ∈ hL S_34 := by rw [eS_35]; exact hm_26
  have hk_38 : Kd S_34 h 11 := by rw [eS_35]; exact hk_27
  have hm_39 : t ∈ hL S_34 := by rw [eS_35]; exact hm_28
  have hk_40 : Kd S_34 t 13 := by rw [eS_35]; exact hk_29
  have hn_41 : Ln S_34 t 8000 := by rw [eS_35]; exact hn_30
  have hv_42 : hI S_34 1101 h = nI (n0 + 4) := by rw [eS_35]; exact (rd_sI (S := (tI S_23 t (n0 + 3) (((v >>> (0 &&& 31)).toInt8.toInt32).toInt8.toInt32))) (g := 1101) (a := h) (v := nI (n0 + 4)))
  have hv_43 : hR S_34 1100 h = (some t) := by rw [eS_35]; exact hv_32
  have hf_44 : Fm (fun f9 b9 => (f9 = 1101 ∧ b9 = h)) (fun _ _ => False) (fun b9 => b9 = t) S S_34 := by rw [eS_35]; exact hf_36
  refine j_iinc (q := 0) (v := (-8)) (lv' := [(2, .int (-8)), (0, .ref h), (1, .int v)]) C dX11_feedNumber_49 rfl (by decide) (by rw [hn9]; decide) rfl ?_
  refine j_goto (tgt := 3) C dX11_feedNumber_52 (by decide) ?_
  refine j_iload_n C dX11_feedNumber_3 rfl 0 rfl ?_
  refine j_if_lt (tgt := 55) C dX11_feedNumber_4 (by decide) (fun c9 => ?_) (fun c9 => absurd (by decide) c9)
  exact j_vret C M dX11_feedNumber_55 (by decide) (by decide) ⟨rfl, hf_44, hv_42⟩
