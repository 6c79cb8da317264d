theorem dX12_lay_0 : decode cX12_lay 0 = .ok (.bipush 24, 2) := by decide +kernel
theorem dX12_lay_2 : decode cX12_lay 2 = .ok (.istore_n 2, 1) := by decide +kernel
theorem dX12_lay_3 : decode cX12_lay 3 = .ok (.iload_n 2, 1) := by decide +kernel
theorem dX12_lay_4 : decode cX12_lay 4 = .ok (.ifCond .lt 32, 3) := by decide +kernel
theorem dX12_lay_7 : decode cX12_lay 7 = .ok (.aload_n 0, 1) := by decide +kernel
theorem dX12_lay_8 : decode cX12_lay 8 = .ok (.getfield 75, 3) := by decide +kernel
theorem dX12_lay_11 : decode cX12_lay 11 = .ok (.aload_n 0, 1) := by decide +kernel
theorem dX12_lay_12 : decode cX12_lay 12 = .ok (.getfield 146, 3) := by decide +kernel
theorem dX12_lay_15 : decode cX12_lay 15 = .ok (.iload_n 1, 1) := by decide +kernel
theorem dX12_lay_16 : decode cX12_lay 16 = .ok (.iload_n 2, 1) := by decide +kernel
theorem dX12_lay_17 : decode cX12_lay 17 = .ok (.ishr, 1) := by decide +kernel
theorem dX12_lay_18 : decode cX12_lay 18 = .ok (.i2b, 1) := by decide +kernel
theorem dX12_lay_19 : decode cX12_lay 19 = .ok (.bastore, 1) := by decide +kernel
theorem dX12_lay_20 : decode cX12_lay 20 = .ok (.aload_n 0, 1) := by decide +kernel
theorem dX12_lay_21 : decode cX12_lay 21 = .ok (.dup, 1) := by decide +kernel
theorem dX12_lay_22 : decode cX12_lay 22 = .ok (.getfield 146, 3) := by decide +kernel
theorem dX12_lay_25 : decode cX12_lay 25 = .ok (.iconst 1, 1) := by decide +kernel
theorem dX12_lay_26 : decode cX12_lay 26 = .ok (.iadd, 1) := by decide +kernel
theorem dX12_lay_27 : decode cX12_lay 27 = .ok (.putfield 146, 3) := by decide +kernel
theorem dX12_lay_30 : decode cX12_lay 30 = .ok (.iinc 2 (-8), 3) := by decide +kernel
theorem dX12_lay_33 : decode cX12_lay 33 = .ok (.goto (-30), 3) := by decide +kernel
theorem dX12_lay_36 : decode cX12_lay 36 = .ok (.return_, 1) := by decide +kernel
set_option maxRecDepth 100000 in
set_option maxHeartbeats 4000000 in
theorem c_X12_lay (S : Hp) (h : Nat) (hm : h ∈ hL S) (hk : hK S h = 12) (t : Nat) (rt : hR S 1223 h = some t) (mt : t ∈ hL S) (kt : Kd S t 13) (lt : Ln S t 8000) (v : Int32) (n0 : Nat) (ht : hI S 1224 h = nI n0) (hle : n0 + 4 ≤ 8000) : Ct 1 yX12_lay cX12_lay 3 none 0 0 [.ref h, .int v] S (fun r S' => r = none ∧ Fm (fun f9 b9 => (f9 = 1224 ∧ b9 = h)) (fun _ _ => False) (fun b9 => b9 = t) S S' ∧ hI S' 1224 h = nI (n0 + 4)) := by
  refine ct_of (by decide) (Nat.le_of_ble_eq_true rfl) fun x hn9 C M hm9 => ?_
  have C : CB x RX12 cX12_lay := C
  refine J.eq (lv' := [(0, .ref h), (1, .int v)]) rfl rfl rfl ?_
  refine j_bipush (v := 24) C dX12_lay_0 (by decide) ?_
  refine j_istore_n (lv' := [(2, .int 24), (0, .ref h), (1, .int v)]) C dX12_lay_2 rfl (by rw [hn9]; decide) rfl ?_
  refine j_iload_n C dX12_lay_3 rfl 0 rfl ?_
  refine j_if_lt (tgt := 36) C dX12_lay_4 (by decide) (fun c9 => absurd c9 (by decide)) (fun c9 => ?_)
  refine j_aload_n C dX12_lay_7 rfl 1 rfl ?_
  refine j_getr (f := 1223) (v := t) C flX12_75 dX12_lay_8 hm hk (by decide) rfl rt ?_
  refine j_aload_n C dX12_lay_11 rfl 1 rfl ?_
  refine j_geti (f := 1224) (v := nI n0) C flX12_146 dX12_lay_12 hm hk (by decide) (by decide) rfl ht ?_
  show J _ _ _ _ _ 15 _
  refine j_iload_n C dX12_lay_15 rfl 2 rfl ?_
  refine j_iload_n C dX12_lay_16 rfl 0 rfl ?_
  refine j_ishr C dX12_lay_17 rfl ?_
  refine j_i2b C dX12_lay_18 rfl ?_
  refine j_bast (j := n0) C dX12_lay_19 mt kt (inr_of (n := 8000) lt (vp_in_nI (by omega) (by omega))) (nI_clamp (by omega)) ?_
  refine j_aload_n C dX12_lay_20 rfl 1 rfl ?_
  refine j_dup C dX12_lay_21 rfl ?_
  refine j_geti (f := 1224) (v := nI n0) C flX12_146 dX12_lay_22 hm hk (by decide) (by decide) rfl ht ?_
  show J _ _ _ _ _ 25 _
  refine j_iconst (v := 1) C dX12_lay_25 (by decide) ?_
  refine j_iadd (v := nI (n0 + 1)) C dX12_lay_26 (nI_add n0 1) ?_
  refine j_puti (f := 1224) C flX12_146 (by decide) rfl rfl dX12_lay_27 hm hk rfl ?_
  have hf_3 : Fm (fun f9 b9 => (f9 = 1224 ∧ b9 = h)) (fun _ _ => False) (fun b9 => b9 = t) S (sI (tI S t n0 (((v >>> (24 &&& 31)).toInt8.toInt32).toInt8.toInt32)) 1224 h (nI (n0 + 1))) := (((Fm.refl (WI := (fun f9 b9 => (f9 = 1224 ∧ b9 = h))) (WR := (fun _ _ => False)) (WA := (fun b9 => b9 = t))).tI _ _ (fun _ => rfl)).sI _ (fun _ => ⟨rfl, rfl⟩))
  obtain ⟨S_1, eS_2⟩ : ∃ S9 : Hp, S9 = (sI (tI S t n0 (((v >>> (24 &&& 31)).toInt8.toInt32).toInt8.toInt32)) 1224 h (nI (n0 + 1))) := ⟨_, rfl⟩
  refine J.eq (S' := S_1) eS_2.symm rfl rfl ?_
  have hm_4 : h ∈ hL S_1 := by rw [eS_2]; exact hm
  have hk_5 : Kd S_1 h 12 := by rw [eS_2]; exact hk
  have hm_6 : t ∈ hL S_1 := by rw [eS_2]; exact mt
  have hk_7 : Kd S_1 t 13 := by rw [eS_2]; exact kt
  have hn_8 : Ln S_1 t 8000 := by rw [eS_2]; exact lt
  have hv_9 : hI S_1 1224 h = nI (n0 + 1) := by rw [eS_2]; exact (rd_sI (S := (tI S t n0 (((v >>> (24 &&& 31)).toInt8.toInt32).toInt8.toInt32))) (g := 1224) (a := h) (v := nI (n0 + 1)))
  have hv_10 : hR S_1 1223 h = (some t) := by rw [eS_2]; exact rt
  have hf_11 : Fm (fun f9 b9 => (f9 = 1224 ∧ b9 = h)) (fun _ _ => False) (fun b9 => b9 = t) S S_1 := by rw [eS_2]; exact hf_3
  refine j_iinc (q := 0) (v := 16) (lv' := [(2, .int 16), (0, .ref h), (1, .int v)]) C dX12_lay_30 rfl (by decide) (by rw [hn9]; decide) rfl ?_
  refine j_goto (tgt := 3) C dX12_lay_33 (by decide) ?_
  refine j_iload_n C dX12_lay_3 rfl 0 rfl ?_
  refine j_if_lt (tgt := 36) C dX12_lay_4 (by decide) (fun c9 => absurd c9 (by decide)) (fun c9 => ?_)
  refine j_aload_n C dX12_lay_7 rfl 1 rfl ?_
  show J _ _ _ _ _ 8 _
  refine j_getr (f := 1223) (v := t) C flX12_75 dX12_lay_8 hm_4 hk_5 (by decide) rfl hv_10 ?_
  refine j_aload_n C dX12_lay_11 rfl 1 rfl ?_
  refine j_geti (f := 1224) (v := nI (n0 + 1)) C flX12_146 dX12_lay_12 hm_4 hk_5 (by decide) (by decide) rfl hv_9 ?_
  refine j_iload_n C dX12_lay_15 rfl 2 rfl ?_
  refine j_iload_n C dX12_lay_16 rfl 0 rfl ?_
  refine j_ishr C dX12_lay_17 rfl ?_
  refine j_i2b C dX12_lay_18 rfl ?_
  refine j_bast (j := (n0 + 1)) C dX12_lay_19 hm_6 hk_7 (inr_of (n := 8000) hn_8 (vp_in_nI (by omega) (by omega))) (nI_clamp (by omega)) ?_
  show J _ _ _ _ _ 20 _
  refine j_aload_n C dX12_lay_20 rfl 1 rfl ?_
  refine j_dup C dX12_lay_21 rfl ?_
  refine j_geti (f := 1224) (v := nI (n0 + 1)) C flX12_146 dX12_lay_22 hm_4 hk_5 (by decide) (by decide) rfl hv_9 ?_
  refine j_iconst (v := 1) C dX12_lay_25 (by decide) ?_
  refine j_iadd (v := nI (n0 + 2)) C dX12_lay_26 (nI_add (n0 + 1) 1) ?_
  refine j_puti (f := 1224) C flX12_146 (by decide) rfl rfl dX12_lay_27 hm_4 hk_5 rfl ?_
  have hf_14 : Fm (fun f9 b9 => (f9 = 1224 ∧ b9 = h)) (fun _ _ => False) (fun b9 => b9 = t) S (sI (tI S_1 t (n0 + 1) (((v >>> (16 &&& 31)).toInt8.toInt32).toInt8.toInt32)) 1224 h (nI (n0 + 2))) := ((hf_11.tI _ _ (fun _ => rfl)).sI _ (fun _ => ⟨rfl, rfl⟩))
  obtain ⟨S_12, eS_13⟩ : ∃ S9 : Hp, S9 = (sI (tI S_1 t (n0 + 1) (((v >>> (16 &&& 31)).toInt8.toInt32).toInt8.toInt32)) 1224 h (nI (n0 + 2))) := ⟨_, rfl⟩
  refine J.eq (S' := S_12) eS_13.symm rfl rfl ?_
  have hm_15 : h ∈ hL S_12 := by rw [eS_13]; exact hm_4
  have hk_16 : Kd S_12 h 12 := by rw [eS_13]; exact hk_5
  have hm_17 : t ∈ hL S_12 := by rw [eS_13]; exact hm_6
  have hk_18 : Kd S_12 t 13 := by rw [eS_13]; exact hk_7
  have hn_19 : Ln S_12 t 8000 := by rw [eS_13]; exact hn_8
  have hv_20 : hI S_12 1224 h = nI (n0 + 2) := by rw [eS_13]; exact (rd_sI (S := (tI S_1 t (n0 + 1) (((v >>> (16 &&& 31)).toInt8.toInt32).toInt8.toInt32))) (g := 1224) (a := h) (v := nI (n0 + 2)))
  have hv_21 : hR S_12 1223 h = (some t) := by rw [eS_13]; exact hv_10
  have hf_22 : Fm (fun f9 b9 => (f9 = 1224 ∧ b9 = h)) (fun _ _ => False) (fun b9 => b9 = t) S S_12 := by rw [eS_13]; exact hf_14
  refine j_iinc (q := 0) (v := 8) (lv' := [(2, .int 8), (0, .ref h), (1, .int v)]) C dX12_lay_30 rfl (by decide) (by rw [hn9]; decide) rfl ?_
  refine j_goto (tgt := 3) C dX12_lay_33 (by decide) ?_
  show J _ _ _ _ _ 3 _
  refine j_iload_n C dX12_lay_3 rfl 0 rfl ?_
  refine j_if_lt (tgt := 36) C dX12_lay_4 (by decide) (fun c9 => absurd c9 (by decide)) (fun c9 => ?_)
  refine j_aload_n C dX12_lay_7 rfl 1 rfl ?_
  refine j_getr (f := 1223) (v := t) C flX12_75 dX12_lay_8 hm_15 hk_16 (by decide) rfl hv_21 ?_
  refine j_aload_n C dX12_lay_11 rfl 1 rfl ?_
  refine j_geti (f := 1224) (v := nI (n0 + 2)) C flX12_146 dX12_lay_12 hm_15 hk_16 (by decide) (by decide) rfl hv_20 ?_
  refine j_iload_n C dX12_lay_15 rfl 2 rfl ?_
  refine j_iload_n C dX12_lay_16 rfl 0 rfl ?_
  show J _ _ _ _ _ 17 _
  refine j_ishr C dX12_lay_17 rfl ?_
  refine j_i2b C dX12_lay_18 rfl ?_
  refine j_bast (j := (n0 + 2)) C dX12_lay_19 hm_17 hk_18 (inr_of (n := 8000) hn_19 (vp_in_nI (by omega) (by omega))) (nI_clamp (by omega)) ?_
  refine j_aload_n C dX12_lay_20 rfl 1 rfl ?_
  refine j_dup C dX12_lay_21 rfl ?_
  refine j_geti (f := 1224) (v := nI (n0 + 2)) C flX12_146 dX12_lay_22 hm_15 hk_16 (by decide) (by decide) rfl hv_20 ?_
  refine j_iconst (v := 1) C dX12_lay_25 (by decide) ?_
  refine j_iadd (v := nI (n0 + 3)) C dX12_lay_26 (nI_add (n0 + 2) 1) ?_
  show J _ _ _ _ _ 27 _
  refine j_puti (f := 1224) C flX12_146 (by decide) rfl rfl dX12_lay_27 hm_15 hk_16 rfl ?_
  have hf_25 : Fm (fun f9 b9 => (f9 = 1224 ∧ b9 = h)) (fun _ _ => False) (fun b9 => b9 = t) S (sI (tI S_12 t (n0 + 2) (((v >>> (8 &&& 31)).toInt8.toInt32).toInt8.toInt32)) 1224 h (nI (n0 + 3))) := ((hf_22.tI _ _ (fun _ => rfl)).sI _ (fun _ => ⟨rfl, rfl⟩))
  obtain ⟨S_23, eS_24⟩ : ∃ S9 : Hp, S9 = (sI (tI S_12 t (n0 + 2) (((v >>> (8 &&& 31)).toInt8.toInt32).toInt8.toInt32)) 1224 h (nI (n0 + 3))) := ⟨_, rfl⟩
  refine J.eq (S' := S_23) eS_24.symm rfl rfl ?_
  have hm_26 : h ∈ hL S_23 := by rw [eS_24]; exact hm_15
  have hk_27 : Kd S_23 h 12 := by rw [eS_24]; exact hk_16
  have hm_28 : t ∈ hL S_23 := by rw [eS_24]; exact hm_17
  have hk_29 : Kd S_23 t 13 := by rw [eS_24]; exact hk_18
  have hn_30 : Ln S_23 t 8000 := by rw [eS_24]; exact hn_19
  have hv_31 : hI S_23 1224 h = nI (n0 + 3) := by rw [eS_24]; exact (rd_sI (S := (tI S_12 t (n0 + 2) (((v >>> (8 &&& 31)).toInt8.toInt32).toInt8.toInt32))) (g := 1224) (a := h) (v := nI (n0 + 3)))
  have hv_32 : hR S_23 1223 h = (some t) := by rw [eS_24]; exact hv_21
  have hf_33 : Fm (fun f9 b9 => (f9 = 1224 ∧ b9 = h)) (fun _ _ => False) (fun b9 => b9 = t) S S_23 := by rw [eS_24]; exact hf_25
  refine j_iinc (q := 0) (v := 0) (lv' := [(2, .int 0), (0, .ref h), (1, .int v)]) C dX12_lay_30 rfl (by decide) (by rw [hn9]; decide) rfl ?_
  refine j_goto (tgt := 3) C dX12_lay_33 (by decide) ?_
  refine j_iload_n C dX12_lay_3 rfl 0 rfl ?_
  refine j_if_lt (tgt := 36) C dX12_lay_4 (by decide) (fun c9 => absurd c9 (by decide)) (fun c9 => ?_)
  refine j_aload_n C dX12_lay_7 rfl 1 rfl ?_
  refine j_getr (f := 1223) (v := t) C flX12_75 dX12_lay_8 hm_26 hk_27 (by decide) rfl hv_32 ?_
  refine j_aload_n C dX12_lay_11 rfl 1 rfl ?_
  show J _ _ _ _ _ 12 _
  refine j_geti (f := 1224) (v := nI (n0 + 3)) C flX12_146 dX12_lay_12 hm_26 hk_27 (by decide) (by decide) rfl hv_31 ?_
  refine j_iload_n C dX12_lay_15 rfl 2 rfl ?_
  refine j_iload_n C dX12_lay_16 rfl 0 rfl ?_
  refine j_ishr C dX12_lay_17 rfl ?_
  refine j_i2b C dX12_lay_18 rfl ?_
  refine j_bast (j := (n0 + 3)) C dX12_lay_19 hm_28 hk_29 (inr_of (n := 8000) hn_30 (vp_in_nI (by omega) (by omega))) (nI_clamp (by omega)) ?_
  refine j_aload_n C dX12_lay_20 rfl 1 rfl ?_
  refine j_dup C dX12_lay_21 rfl ?_
  show J _ _ _ _ _ 22 _
  refine j_geti (f := 1224) (v := nI (n0 + 3)) C flX12_146 dX12_lay_22 hm_26 hk_27 (by decide) (by decide) rfl hv_31 ?_
  refine j_iconst (v := 1) C dX12_lay_25 (by decide) ?_
  refine j_iadd (v := nI (n0 + 4)) C dX12_lay_26 (nI_add (n0 + 3) 1) ?_
  refine j_puti (f := 1224) C flX12_146 (by decide) rfl rfl dX12_lay_27 hm_26 hk_27 rfl ?_
  have hf_36 : Fm (fun f9 b9 => (f9 = 1224 ∧ b9 = h)) (fun _ _ => False) (fun b9 => b9 = t) S (sI (tI S_23 t (n0 + 3) (((v >>> (0 &&& 31)).toInt8.toInt32).toInt8.toInt32)) 1224 h (nI (n0 + 4))) := ((hf_33.tI _ _ (fun _ => rfl)).sI _ (fun _ => ⟨rfl, rfl⟩))
  obtain ⟨S_34, eS_35⟩ : ∃ S9 : Hp, S9 = (sI (tI S_23 t (n0 + 3) (((v >>> (0 &&& 31)).toInt8.toInt32).toInt8.toInt32)) 1224 h (nI (n0 + 4))) := ⟨_, rfl⟩
  refine J.eq (S' := S_34) eS_35.symm rfl rfl ?_
  have hm_37 : h ∈ hL S_34 := by rw [eS_35]; exact hm_26
  have hk_38 : Kd S_34 h 12 := by rw [eS_35]; exact hk_27
  have hm_39 : t ∈ hL S_34 := by rw [eS_35]; exact hm_28
  have hk_40 : Kd S_34 t 13 := by rw [eS_35]; exact hk_29
  have hn_41 : Ln S_34 t 8000 := by rw [eS_35]; exact hn_30
  have hv_42 : hI S_34 1224 h = nI (n0 + 4) := by rw [eS_35]; exact (rd_sI (S := (tI S_23 t (n0 + 3) (((v >>> (0 &&& 31)).toInt8.toInt32).toInt8.toInt32))) (g := 1224) (a := h) (v := nI (n0 + 4)))
  have hv_43 : hR S_34 1223 h = (some t) := by rw [eS_35]; exact hv_32
  have hf_44 : Fm (fun f9 b9 => (f9 = 1224 ∧ b9 = h)) (fun _ _ => False) (fun b9 => b9 = t) S S_34 := by rw [eS_35]; exact hf_36
  refine j_iinc (q := 0) (v := (-8)) (lv' := [(2, .int (-8)), (0, .ref h), (1, .int v)]) C dX12_lay_30 rfl (by decide) (by rw [hn9]; decide) rfl ?_
  refine j_goto (tgt := 3) C dX12_lay_33 (by decide) ?_
  refine j_iload_n C dX12_lay_3 rfl 0 rfl ?_
  refine j_if_lt (tgt := 36) C dX12_lay_4 (by decide) (fun c9 => ?_) (fun c9 => absurd (by decide) c9)
  show J _ _ _ _ _ 36 _
  exact j_vret C M dX12_lay_36 (by decide) (by decide) ⟨rfl, hf_44, hv_42⟩
