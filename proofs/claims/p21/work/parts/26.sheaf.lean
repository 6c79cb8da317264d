/-- the bits of a run's code, by its place in the table -/
def rbN (k : Nat) : Nat := (st_RUN_BITS.getD k 0).toNatClampNeg
theorem rb_ok : ∀ k, k < 148 → st_RUN_BITS.getD k 0 = nI (rbN k) := by decide +kernel
theorem rb_le : ∀ k, k < 148 → rbN k ≤ 13 := by decide +kernel
def nbN (k : Nat) : Nat := (st_NEAR_BITS.getD k 0).toNatClampNeg
theorem nb_ok : ∀ k, k < 7 → st_NEAR_BITS.getD k 0 = nI (nbN k) := by decide
theorem nb_le : ∀ k, k < 7 → nbN k ≤ 7 := by decide
theorem nb_3 : nbN 3 = 1 := by decide
/-- the bits of a run -/
def runB (c : Bool) (l : Nat) : Nat := if c = true then (if 64 ≤ l then rbN (137 + l / 64) else 0) + rbN (74 + l % 64) else (if 64 ≤ l then rbN (63 + l / 64) else 0) + rbN (0 + l % 64)
theorem runB_le : ∀ c l, l < 201 → runB c l ≤ 10 + l := by decide +kernel
theorem runB_f0 {l : Nat} (h : ¬ 64 ≤ l) : runB false l = rbN (0 + l % 64) := by simp [runB, h]
theorem runB_f1 {l : Nat} (h : 64 ≤ l) : runB false l = rbN (63 + l / 64) + rbN (0 + l % 64) := by simp [runB, h]
theorem runB_t0 {l : Nat} (h : ¬ 64 ≤ l) : runB true l = rbN (74 + l % 64) := by simp [runB, h]
theorem runB_t1 {l : Nat} (h : 64 ≤ l) : runB true l = rbN (137 + l / 64) + rbN (74 + l % 64) := by simp [runB, h]

theorem dX6_putByte_0 : decode cX6_putByte 0 = .ok (.aload_n 0, 1) := by decide +kernel
theorem dX6_putByte_1 : decode cX6_putByte 1 = .ok (.getfield 28, 3) := by decide +kernel
theorem dX6_putByte_4 : decode cX6_putByte 4 = .ok (.ifCond .lt 39, 3) := by decide +kernel
theorem dX6_putByte_7 : decode cX6_putByte 7 = .ok (.aload_n 0, 1) := by decide +kernel
theorem dX6_putByte_8 : decode cX6_putByte 8 = .ok (.getfield 28, 3) := by decide +kernel
theorem dX6_putByte_11 : decode cX6_putByte 11 = .ok (.aload_n 0, 1) := by decide +kernel
theorem dX6_putByte_12 : decode cX6_putByte 12 = .ok (.getfield 12, 3) := by decide +kernel
theorem dX6_putByte_15 : decode cX6_putByte 15 = .ok (.arraylength, 1) := by decide +kernel
theorem dX6_putByte_16 : decode cX6_putByte 16 = .ok (.if_icmp .ge 27, 3) := by decide +kernel
theorem dX6_putByte_19 : decode cX6_putByte 19 = .ok (.aload_n 0, 1) := by decide +kernel
theorem dX6_putByte_20 : decode cX6_putByte 20 = .ok (.getfield 12, 3) := by decide +kernel
theorem dX6_putByte_23 : decode cX6_putByte 23 = .ok (.aload_n 0, 1) := by decide +kernel
theorem dX6_putByte_24 : decode cX6_putByte 24 = .ok (.getfield 28, 3) := by decide +kernel
theorem dX6_putByte_27 : decode cX6_putByte 27 = .ok (.iload_n 1, 1) := by decide +kernel
theorem dX6_putByte_28 : decode cX6_putByte 28 = .ok (.i2b, 1) := by decide +kernel
theorem dX6_putByte_29 : decode cX6_putByte 29 = .ok (.bastore, 1) := by decide +kernel
theorem dX6_putByte_30 : decode cX6_putByte 30 = .ok (.aload_n 0, 1) := by decide +kernel
theorem dX6_putByte_31 : decode cX6_putByte 31 = .ok (.dup, 1) := by decide +kernel
theorem dX6_putByte_32 : decode cX6_putByte 32 = .ok (.getfield 28, 3) := by decide +kernel
theorem dX6_putByte_35 : decode cX6_putByte 35 = .ok (.iconst 1, 1) := by decide +kernel
theorem dX6_putByte_36 : decode cX6_putByte 36 = .ok (.iadd, 1) := by decide +kernel
theorem dX6_putByte_37 : decode cX6_putByte 37 = .ok (.putfield 28, 3) := by decide +kernel
theorem dX6_putByte_40 : decode cX6_putByte 40 = .ok (.goto 8, 3) := by decide +kernel
theorem dX6_putByte_43 : decode cX6_putByte 43 = .ok (.aload_n 0, 1) := by decide +kernel
theorem dX6_putByte_44 : decode cX6_putByte 44 = .ok (.iconst 1, 1) := by decide +kernel
theorem dX6_putByte_45 : decode cX6_putByte 45 = .ok (.putfield 35, 3) := by decide +kernel
theorem dX6_putByte_48 : decode cX6_putByte 48 = .ok (.return_, 1) := by decide +kernel

set_option maxRecDepth 100000 in
set_option maxHeartbeats 4000000 in
theorem c_X6_putByte (S : Hp) (ad : Nat → Nat) (hW : Wd ad S) (vb : Int32) (z : Nat) (hI_601_ad5 : hI S 601 (ad 5) = nI z) (hz : z < 60000) : Ct 1 yX6_putByte cX6_putByte 2 none 0 0 [.ref (ad 5), .int vb] S (fun r S' => r = none ∧ Fm (fun f9 b9 => (f9 = 601 ∧ b9 = (ad 5))) (fun _ _ => False) (fun b9 => b9 = (ad 7)) S S' ∧ hI S' 601 (ad 5) = nI (z + 1)) := by
  refine ct_of (by decide) (Nat.le_of_ble_eq_true rfl) fun x hn9 C M hm9 => ?_
  have C : CB x RX6 cX6_putByte := C
  refine J.eq (lv' := [(0, .ref (ad 5)), (1, .int vb)]) rfl rfl rfl ?_
  refine j_aload_n C dX6_putByte_0 rfl 0 rfl ?_
  refine j_geti (f := 601) (v := nI z) C flX6_28 dX6_putByte_1 (wm_5 (S := S) hW) (wk_5 (S := S) hW) (by decide) (by decide) rfl hI_601_ad5 ?_
  refine j_if_lt (tgt := 43) C dX6_putByte_4 (by decide) (fun c_4 => absurd c_4 (nI_pos (by omega))) (fun c_4 => ?_)
  refine j_aload_n C dX6_putByte_7 rfl 0 rfl ?_
  refine j_geti (f := 601) (v := nI z) C flX6_28 dX6_putByte_8 (wm_5 (S := S) hW) (wk_5 (S := S) hW) (by decide) (by decide) rfl hI_601_ad5 ?_
  refine j_aload_n C dX6_putByte_11 rfl 0 rfl ?_
  refine j_getr (f := 600) (v := (ad 7)) C flX6_12 dX6_putByte_12 (wm_5 (S := S) hW) (wk_5 (S := S) hW) (by decide) rfl (wr_600_5 (S := S) hW) ?_
  refine j_alen (v := 60000) C dX6_putByte_15 (wm_7 (S := S) hW) (wk_7 (S := S) hW) (by decide) (by decide) (len_of (n := 60000) (wl_7 (S := S) hW) (by decide)) ?_
  show J _ _ _ _ _ 16 _
  refine j_ic_ge (tgt := 43) C dX6_putByte_16 (by decide) (fun c_16 => absurd c_16 (nI_ge (b := 60000) (by omega) (by decide))) (fun c_16 => ?_)
  refine j_aload_n C dX6_putByte_19 rfl 0 rfl ?_
  refine j_getr (f := 600) (v := (ad 7)) C flX6_12 dX6_putByte_20 (wm_5 (S := S) hW) (wk_5 (S := S) hW) (by decide) rfl (wr_600_5 (S := S) hW) ?_
  refine j_aload_n C dX6_putByte_23 rfl 0 rfl ?_
  refine j_geti (f := 601) (v := nI z) C flX6_28 dX6_putByte_24 (wm_5 (S := S) hW) (wk_5 (S := S) hW) (by decide) (by decide) rfl hI_601_ad5 ?_
  refine j_iload_n C dX6_putByte_27 rfl 1 rfl ?_
  refine j_i2b C dX6_putByte_28 rfl ?_
  refine j_bast (j := z) C dX6_putByte_29 (wm_7 (S := S) hW) (wk_7 (S := S) hW) (inr_of (n := 60000) (wl_7 (S := S) hW) (vp_in_nI (by omega) (by omega))) (nI_clamp (by omega)) ?_
  show J _ _ _ _ _ 30 _
  refine j_aload_n C dX6_putByte_30 rfl 0 rfl ?_
  refine j_dup C dX6_putByte_31 rfl ?_
  refine j_geti (f := 601) (v := nI z) C flX6_28 dX6_putByte_32 (wm_5 (S := S) hW) (wk_5 (S := S) hW) (by decide) (by decide) rfl (rxI_tI (S := S) hI_601_ad5) ?_
  refine j_iconst (v := 1) C dX6_putByte_35 (by decide) ?_
  refine j_iadd (v := nI (z + 1)) C dX6_putByte_36 (nI_add z 1) ?_
  refine j_puti (f := 601) C flX6_28 (by decide) rfl rfl dX6_putByte_37 (wm_5 (S := S) hW) (wk_5 (S := S) hW) rfl ?_
  refine j_goto (tgt := 48) C dX6_putByte_40 (by decide) ?_
  exact j_vret C M dX6_putByte_48 (by decide) (by decide) ⟨rfl, (((Fm.refl (WI := (fun f9 b9 => (f9 = 601 ∧ b9 = (ad 5)))) (WR := (fun _ _ => False)) (WA := (fun b9 => b9 = (ad 7)))).tI _ _ (fun _ => rfl)).sI _ (fun _ => ⟨rfl, rfl⟩)), (rd_sI (S := (tI S (ad 7) z vb.toInt8.toInt32.toInt8.toInt32)) (g := 601) (a := (ad 5)) (v := nI (z + 1)))⟩

theorem dX6_putNumber_0 : decode cX6_putNumber 0 = .ok (.iconst 0, 1) := by decide +kernel
theorem dX6_putNumber_1 : decode cX6_putNumber 1 = .ok (.istore_n 3, 1) := by decide +kernel
theorem dX6_putNumber_2 : decode cX6_putNumber 2 = .ok (.iload_n 3, 1) := by decide +kernel
theorem dX6_putNumber_3 : decode cX6_putNumber 3 = .ok (.iload_n 2, 1) := by decide +kernel
theorem dX6_putNumber_4 : decode cX6_putNumber 4 = .ok (.if_icmp .ge 19, 3) := by decide +kernel
theorem dX6_putNumber_7 : decode cX6_putNumber 7 = .ok (.aload_n 0, 1) := by decide +kernel
theorem dX6_putNumber_8 : decode cX6_putNumber 8 = .ok (.iload_n 1, 1) := by decide +kernel
theorem dX6_putNumber_9 : decode cX6_putNumber 9 = .ok (.bipush 8, 2) := by decide +kernel
theorem dX6_putNumber_11 : decode cX6_putNumber 11 = .ok (.iload_n 3, 1) := by decide +kernel
theorem dX6_putNumber_12 : decode cX6_putNumber 12 = .ok (.imul, 1) := by decide +kernel
theorem dX6_putNumber_13 : decode cX6_putNumber 13 = .ok (.iushr, 1) := by decide +kernel
theorem dX6_putNumber_14 : decode cX6_putNumber 14 = .ok (.invokevirtual 83, 3) := by decide +kernel
theorem dX6_putNumber_17 : decode cX6_putNumber 17 = .ok (.iinc 3 1, 3) := by decide +kernel
theorem dX6_putNumber_20 : decode cX6_putNumber 20 = .ok (.goto (-18), 3) := by decide +kernel
theorem dX6_putNumber_23 : decode cX6_putNumber 23 = .ok (.return_, 1) := by decide +kernel

set_option maxRecDepth 100000 in
set_option maxHeartbeats 4000000 in
theorem c_pn2 (S : Hp) (ad : Nat → Nat) (hW : Wd ad S) (vb : Int32) (z : Nat) (hI_601_ad5 : hI S 601 (ad 5) = nI z) (hz : z + 2 ≤ 60000) : Ct 2 yX6_putNumber cX6_putNumber 4 none 0 0 [.ref (ad 5), .int vb, .int 2] S (fun r S' => r = none ∧ Fm (fun f9 b9 => (f9 = 601 ∧ b9 = (ad 5))) (fun _ _ => False) (fun b9 => b9 = (ad 7)) S S' ∧ hI S' 601 (ad 5) = nI (z + 2)) := by
  refine ct_of (by decide) (Nat.le_of_ble_eq_true rfl) fun x hn9 C M hm9 => ?_
  have C : CB x RX6 cX6_putNumber := C
  refine J.eq (lv' := [(0, .ref (ad 5)), (1, .int vb), (2, .int 2)]) rfl rfl rfl ?_
  refine j_iconst (v := 0) C dX6_putNumber_0 (by decide) ?_
  refine j_istore_n (lv' := [(3, .int 0), (0, .ref (ad 5)), (1, .int vb), (2, .int 2)]) C dX6_putNumber_1 rfl (by rw [hn9]; decide) rfl ?_
  refine j_iload_n C dX6_putNumber_2 rfl 0 rfl ?_
  refine j_iload_n C dX6_putNumber_3 rfl 3 rfl ?_
  refine j_ic_ge (tgt := 23) C dX6_putNumber_4 (by decide) (fun c9 => absurd c9 (by decide)) (fun c9 => ?_)
  refine j_aload_n C dX6_putNumber_7 rfl 1 rfl ?_
  refine j_iload_n C dX6_putNumber_8 rfl 2 rfl ?_
  refine j_bipush (v := 8) C dX6_putNumber_9 (by decide) ?_
  show J _ _ _ _ _ 11 _
  refine j_iload_n C dX6_putNumber_11 rfl 0 rfl ?_
  refine j_imul (v := 0) C dX6_putNumber_12 (by decide) ?_
  refine j_iushr C dX6_putNumber_13 rfl ?_
  refine j_callV (ci := 6) C [.int ((vb.toUInt32 >>> ((0 : Int32).toUInt32 &&& Int32.toUInt32 31)).toInt32)] [] mlX6_83 mcX6_putByte (c_X6_putByte S ad hW ((vb.toUInt32 >>> ((0 : Int32).toUInt32 &&& Int32.toUInt32 31)).toInt32) z hI_601_ad5 (by omega)) (wm_5 (S := S) hW) (wk_5 (S := S) hW) rfl (M.rm (by decide) (by decide) (Nat.le_of_ble_eq_true rfl) (Nat.le_of_ble_eq_true rfl)) rfl rfl (Nat.le_of_ble_eq_true rfl) dX6_putNumber_14 (fun r_2 S_3 hp_4 => ?_)
  obtain ⟨rfl, hf_5, e_1⟩ := hp_4
  refine J.eq (st' := []) rfl rfl rfl ?_
  have hf_6 : Fm (fun f9 b9 => (f9 = 601 ∧ b9 = (ad 5))) (fun _ _ => False) (fun b9 => b9 = (ad 7)) S S_3 := (Fm.refl (WI := (fun f9 b9 => (f9 = 601 ∧ b9 = (ad 5)))) (WR := (fun _ _ => False)) (WA := (fun b9 => b9 = (ad 7)))).then hf_5 (fun a9 ha9 => ⟨(fun f9 h9 => (fun h8 => h8) h9), (fun f9 h9 => h9.elim), (fun h9 => (fun h8 => h8) h9)⟩)
  have hW_7 : Wd ad S_3 := hW.fm hf_5 (by intro _ _ h9; exact h9) (by intro p9 hp9; simp only [wqL, List.mem_cons, List.not_mem_nil, or_false] at hp9; rcases hp9 with rfl | rfl <;> intro h9 <;> skip <;> exact absurd h9 (wn hW (by decide) (by decide) (by decide)))
  refine j_iinc (q := 0) (v := 1) (lv' := [(3, .int 1), (0, .ref (ad 5)), (1, .int vb), (2, .int 2)]) C dX6_putNumber_17 rfl (by decide) (by rw [hn9]; decide) rfl ?_
  refine j_goto (tgt := 2) C dX6_putNumber_20 (by decide) ?_
  refine j_iload_n C dX6_putNumber_2 rfl 0 rfl ?_
  refine j_iload_n C dX6_putNumber_3 rfl 3 rfl ?_
  show J _ _ _ _ _ 4 _
  refine j_ic_ge (tgt := 23) C dX6_putNumber_4 (by decide) (fun c9 => absurd c9 (by decide)) (fun c9 => ?_)
  refine j_aload_n C dX6_putNumber_7 rfl 1 rfl ?_
  refine j_iload_n C dX6_putNumber_8 rfl 2 rfl ?_
  refine j_bipush (v := 8) C dX6_putNumber_9 (by decide) ?_
  refine j_iload_n C dX6_putNumber_11 rfl 0 rfl ?_
  refine j_imul (v := 8) C dX6_putNumber_12 (by decide) ?_
  refine j_iushr C dX6_putNumber_13 rfl ?_
  refine j_callV (ci := 6) C [.int ((vb.toUInt32 >>> ((8 : Int32).toUInt32 &&& Int32.toUInt32 31)).toInt32)] [] mlX6_83 mcX6_putByte (c_X6_putByte S_3 ad hW_7 ((vb.toUInt32 >>> ((8 : Int32).toUInt32 &&& Int32.toUInt32 31)).toInt32) (z + 1) e_1 (by omega)) (wm_5 (S := S_3) hW_7) (wk_5 (S := S_3) hW_7) rfl (M.rm (by decide) (by decide) (Nat.le_of_ble_eq_true rfl) (Nat.le_of_ble_eq_true rfl)) rfl rfl (Nat.le_of_ble_eq_true rfl) dX6_putNumber_14 (fun r_9 S_10 hp_11 => ?_)
  obtain ⟨rfl, hf_12, e_8⟩ := hp_11
  refine J.eq (st' := []) rfl rfl rfl ?_
  have hf_13 : Fm (fun f9 b9 => (f9 = 601 ∧ b9 = (ad 5))) (fun _ _ => False) (fun b9 => b9 = (ad 7)) S S_10 := hf_6.then hf_12 (fun a9 ha9 => ⟨(fun f9 h9 => (fun h8 => h8) h9), (fun f9 h9 => h9.elim), (fun h9 => (fun h8 => h8) h9)⟩)
  have hW_14 : Wd ad S_10 := hW_7.fm hf_12 (by intro _ _ h9; exact h9) (by intro p9 hp9; simp only [wqL, List.mem_cons, List.not_mem_nil, or_false] at hp9; rcases hp9 with rfl | rfl <;> intro h9 <;> skip <;> exact absurd h9 (wn hW_7 (by decide) (by decide) (by decide)))
  show J _ _ _ _ _ 17 _
  refine j_iinc (q := 0) (v := 2) (lv' := [(3, .int 2), (0, .ref (ad 5)), (1, .int vb), (2, .int 2)]) C dX6_putNumber_17 rfl (by decide) (by rw [hn9]; decide) rfl ?_
  refine j_goto (tgt := 2) C dX6_putNumber_20 (by decide) ?_
  refine j_iload_n C dX6_putNumber_2 rfl 0 rfl ?_
  refine j_iload_n C dX6_putNumber_3 rfl 3 rfl ?_
  refine j_ic_ge (tgt := 23) C dX6_putNumber_4 (by decide) (fun c9 => ?_) (fun c9 => absurd (by decide) c9)
  exact j_vret C M dX6_putNumber_23 (Nat.le_of_ble_eq_true rfl) (Nat.le_of_ble_eq_true rfl) ⟨rfl, hf_13, (e_8.trans (congrArg nI (by omega)))⟩

set_option maxRecDepth 100000 in
set_option maxHeartbeats 4000000 in
theorem c_pn4 (S : Hp) (ad : Nat → Nat) (hW : Wd ad S) (vb : Int32) (z : Nat) (hI_601_ad5 : hI S 601 (ad 5) = nI z) (hz : z + 4 ≤ 60000) : Ct 2 yX6_putNumber cX6_putNumber 4 none 0 0 [.ref (ad 5), .int vb, .int 4] S (fun r S' => r = none ∧ Fm (fun f9 b9 => (f9 = 601 ∧ b9 = (ad 5))) (fun _ _ => False) (fun b9 => b9 = (ad 7)) S S' ∧ hI S' 601 (ad 5) = nI (z + 4)) := by
  refine ct_of (by decide) (Nat.le_of_ble_eq_true rfl) fun x hn9 C M hm9 => ?_
  have C : CB x RX6 cX6_putNumber := C
  refine J.eq (lv' := [(0, .ref (ad 5)), (1, .int vb), (2, .int 4)]) rfl rfl rfl ?_
  refine j_iconst (v := 0) C dX6_putNumber_0 (by decide) ?_
  refine j_istore_n (lv' := [(3, .int 0), (0, .ref (ad 5)), (1, .int vb), (2, .int 4)]) C dX6_putNumber_1 rfl (by rw [hn9]; decide) rfl ?_
  refine j_iload_n C dX6_putNumber_2 rfl 0 rfl ?_
  refine j_iload_n C dX6_putNumber_3 rfl 3 rfl ?_
  refine j_ic_ge (tgt := 23) C dX6_putNumber_4 (by decide) (fun c9 => absurd c9 (by decide)) (fun c9 => ?_)
  refine j_aload_n C dX6_putNumber_7 rfl 1 rfl ?_
  refine j_iload_n C dX6_putNumber_8 rfl 2 rfl ?_
  refine j_bipush (v := 8) C dX6_putNumber_9 (by decide) ?_
  show J _ _ _ _ _ 11 _
  refine j_iload_n C dX6_putNumber_11 rfl 0 rfl ?_
  refine j_imul (v := 0) C dX6_putNumber_12 (by decide) ?_
  refine j_iushr C dX6_putNumber_13 rfl ?_
  refine j_callV (ci := 6) C [.int ((vb.toUInt32 >>> ((0 : Int32).toUInt32 &&& Int32.toUInt32 31)).toInt32)] [] mlX6_83 mcX6_putByte (c_X6_putByte S ad hW ((vb.toUInt32 >>> ((0 : Int32).toUInt32 &&& Int32.toUInt32 31)).toInt32) z hI_601_ad5 (by omega)) (wm_5 (S := S) hW) (wk_5 (S := S) hW) rfl (M.rm (by decide) (by decide) (Nat.le_of_ble_eq_true rfl) (Nat.le_of_ble_eq_true rfl)) rfl rfl (Nat.le_of_ble_eq_true rfl) dX6_putNumber_14 (fun r_2 S_3 hp_4 => ?_)
  obtain ⟨rfl, hf_5, e_1⟩ := hp_4
  refine J.eq (st' := []) rfl rfl rfl ?_
  have hf_6 : Fm (fun f9 b9 => (f9 = 601 ∧ b9 = (ad 5))) (fun _ _ => False) (fun b9 => b9 = (ad 7)) S S_3 := (Fm.refl (WI := (fun f9 b9 => (f9 = 601 ∧ b9 = (ad 5)))) (WR := (fun _ _ => False)) (WA := (fun b9 => b9 = (ad 7)))).then hf_5 (fun a9 ha9 => ⟨(fun f9 h9 => (fun h8 => h8) h9), (fun f9 h9 => h9.elim), (fun h9 => (fun h8 => h8) h9)⟩)
  have hW_7 : Wd ad S_3 := hW.fm hf_5 (by intro _ _ h9; exact h9) (by intro p9 hp9; simp only [wqL, List.mem_cons, List.not_mem_nil, or_false] at hp9; rcases hp9 with rfl | rfl <;> intro h9 <;> skip <;> exact absurd h9 (wn hW (by decide) (by decide) (by decide)))
  refine j_iinc (q := 0) (v := 1) (lv' := [(3, .int 1), (0, .ref (ad 5)), (1, .int vb), (2, .int 4)]) C dX6_putNumber_17 rfl (by decide) (by rw [hn9]; decide) rfl ?_
  refine j_goto (tgt := 2) C dX6_putNumber_20 (by decide) ?_
  refine j_iload_n C dX6_putNumber_2 rfl 0 rfl ?_
  refine j_iload_n C dX6_putNumber_3 rfl 3 rfl ?_
  show J _ _ _ _ _ 4 _
  refine j_ic_ge (tgt := 23) C dX6_putNumber_4 (by decide) (fun c9 => absurd c9 (by decide)) (fun c9 => ?_)
  refine j_aload_n C dX6_putNumber_7 rfl 1 rfl ?_
  refine j_iload_n C dX6_putNumber_8 rfl 2 rfl ?_
  refine j_bipush (v := 8) C dX6_putNumber_9 (by decide) ?_
  refine j_iload_n C dX6_putNumber_11 rfl 0 rfl ?_
  refine j_imul (v := 8) C dX6_putNumber_12 (by decide) ?_
  refine j_iushr C dX6_putNumber_13 rfl ?_
  refine j_callV (ci := 6) C [.int ((vb.toUInt32 >>> ((8 : Int32).toUInt32 &&& Int32.toUInt32 31)).toInt32)] [] mlX6_83 mcX6_putByte (c_X6_putByte S_3 ad hW_7 ((vb.toUInt32 >>> ((8 : Int32).toUInt32 &&& Int32.toUInt32 31)).toInt32) (z + 1) e_1 (by omega)) (wm_5 (S := S_3) hW_7) (wk_5 (S := S_3) hW_7) rfl (M.rm (by decide) (by decide) (Nat.le_of_ble_eq_true rfl) (Nat.le_of_ble_eq_true rfl)) rfl rfl (Nat.le_of_ble_eq_true rfl) dX6_putNumber_14 (fun r_9 S_10 hp_11 => ?_)
  obtain ⟨rfl, hf_12, e_8⟩ := hp_11
  refine J.eq (st' := []) rfl rfl rfl ?_
  have hf_13 : Fm (fun f9 b9 => (f9 = 601 ∧ b9 = (ad 5))) (fun _ _ => False) (fun b9 => b9 = (ad 7)) S S_10 := hf_6.then hf_12 (fun a9 ha9 => ⟨(fun f9 h9 => (fun h8 => h8) h9), (fun f9 h9 => h9.elim), (fun h9 => (fun h8 => h8) h9)⟩)
  have hW_14 : Wd ad S_10 := hW_7.fm hf_12 (by intro _ _ h9; exact h9) (by intro p9 hp9; simp only [wqL, List.mem_cons, List.not_mem_nil, or_false] at hp9; rcases hp9 with rfl | rfl <;> intro h9 <;> skip <;> exact absurd h9 (wn hW_7 (by decide) (by decide) (by decide)))
  show J _ _ _ _ _ 17 _
  refine j_iinc (q := 0) (v := 2) (lv' := [(3, .int 2), (0, .ref (ad 5)), (1, .int vb), (2, .int 4)]) C dX6_putNumber_17 rfl (by decide) (by rw [hn9]; decide) rfl ?_
  refine j_goto (tgt := 2) C dX6_putNumber_20 (by decide) ?_
  refine j_iload_n C dX6_putNumber_2 rfl 0 rfl ?_
  refine j_iload_n C dX6_putNumber_3 rfl 3 rfl ?_
  refine j_ic_ge (tgt := 23) C dX6_putNumber_4 (by decide) (fun c9 => absurd c9 (by decide)) (fun c9 => ?_)
  refine j_aload_n C dX6_putNumber_7 rfl 1 rfl ?_
  refine j_iload_n C dX6_putNumber_8 rfl 2 rfl ?_
  refine j_bipush (v := 8) C dX6_putNumber_9 (by decide) ?_
  show J _ _ _ _ _ 11 _
  refine j_iload_n C dX6_putNumber_11 rfl 0 rfl ?_
  refine j_imul (v := 16) C dX6_putNumber_12 (by decide) ?_
  refine j_iushr C dX6_putNumber_13 rfl ?_
  refine j_callV (ci := 6) C [.int ((vb.toUInt32 >>> ((16 : Int32).toUInt32 &&& Int32.toUInt32 31)).toInt32)] [] mlX6_83 mcX6_putByte (c_X6_putByte S_10 ad hW_14 ((vb.toUInt32 >>> ((16 : Int32).toUInt32 &&& Int32.toUInt32 31)).toInt32) ((z + 1) + 1) e_8 (by omega)) (wm_5 (S := S_10) hW_14) (wk_5 (S := S_10) hW_14) rfl (M.rm (by decide) (by decide) (Nat.le_of_ble_eq_true rfl) (Nat.le_of_ble_eq_true rfl)) rfl rfl (Nat.le_of_ble_eq_true rfl) dX6_putNumber_14 (fun r_16 S_17 hp_18 => ?_)
  obtain ⟨rfl, hf_19, e_15⟩ := hp_18
  refine J.eq (st' := []) rfl rfl rfl ?_
  have hf_20 : Fm (fun f9 b9 => (f9 = 601 ∧ b9 = (ad 5))) (fun _ _ => False) (fun b9 => b9 = (ad 7)) S S_17 := hf_13.then hf_19 (fun a9 ha9 => ⟨(fun f9 h9 => (fun h8 => h8) h9), (fun f9 h9 => h9.elim), (fun h9 => (fun h8 => h8) h9)⟩)
  have hW_21 : Wd ad S_17 := hW_14.fm hf_19 (by intro _ _ h9; exact h9) (by intro p9 hp9; simp only [wqL, List.mem_cons, List.not_mem_nil, or_false] at hp9; rcases hp9 with rfl | rfl <;> intro h9 <;> skip <;> exact absurd h9 (wn hW_14 (by decide) (by decide) (by decide)))
  refine j_iinc (q := 0) (v := 3) (lv' := [(3, .int 3), (0, .ref (ad 5)), (1, .int vb), (2, .int 4)]) C dX6_putNumber_17 rfl (by decide) (by rw [hn9]; decide) rfl ?_
  refine j_goto (tgt := 2) C dX6_putNumber_20 (by decide) ?_
  refine j_iload_n C dX6_putNumber_2 rfl 0 rfl ?_
  refine j_iload_n C dX6_putNumber_3 rfl 3 rfl ?_
  show J _ _ _ _ _ 4 _
  refine j_ic_ge (tgt := 23) C dX6_putNumber_4 (by decide) (fun c9 => absurd c9 (by decide)) (fun c9 => ?_)
  refine j_aload_n C dX6_putNumber_7 rfl 1 rfl ?_
  refine j_iload_n C dX6_putNumber_8 rfl 2 rfl ?_
  refine j_bipush (v := 8) C dX6_putNumber_9 (by decide) ?_
  refine j_iload_n C dX6_putNumber_11 rfl 0 rfl ?_
  refine j_imul (v := 24) C dX6_putNumber_12 (by decide) ?_
  refine j_iushr C dX6_putNumber_13 rfl ?_
  refine j_callV (ci := 6) C [.int ((vb.toUInt32 >>> ((24 : Int32).toUInt32 &&& Int32.toUInt32 31)).toInt32)] [] mlX6_83 mcX6_putByte (c_X6_putByte S_17 ad hW_21 ((vb.toUInt32 >>> ((24 : Int32).toUInt32 &&& Int32.toUInt32 31)).toInt32) (((z + 1) + 1) + 1) e_15 (by omega)) (wm_5 (S := S_17) hW_21) (wk_5 (S := S_17) hW_21) rfl (M.rm (by decide) (by decide) (Nat.le_of_ble_eq_true rfl) (Nat.le_of_ble_eq_true rfl)) rfl rfl (Nat.le_of_ble_eq_true rfl) dX6_putNumber_14 (fun r_23 S_24 hp_25 => ?_)
  obtain ⟨rfl, hf_26, e_22⟩ := hp_25
  refine J.eq (st' := []) rfl rfl rfl ?_
  have hf_27 : Fm (fun f9 b9 => (f9 = 601 ∧ b9 = (ad 5))) (fun _ _ => False) (fun b9 => b9 = (ad 7)) S S_24 := hf_20.then hf_26 (fun a9 ha9 => ⟨(fun f9 h9 => (fun h8 => h8) h9), (fun f9 h9 => h9.elim), (fun h9 => (fun h8 => h8) h9)⟩)
  have hW_28 : Wd ad S_24 := hW_21.fm hf_26 (by intro _ _ h9; exact h9) (by intro p9 hp9; simp only [wqL, List.mem_cons, List.not_mem_nil, or_false] at hp9; rcases hp9 with rfl | rfl <;> intro h9 <;> skip <;> exact absurd h9 (wn hW_21 (by decide) (by decide) (by decide)))
  show J _ _ _ _ _ 17 _
  refine j_iinc (q := 0) (v := 4) (lv' := [(3, .int 4), (0, .ref (ad 5)), (1, .int vb), (2, .int 4)]) C dX6_putNumber_17 rfl (by decide) (by rw [hn9]; decide) rfl ?_
  refine j_goto (tgt := 2) C dX6_putNumber_20 (by decide) ?_
  refine j_iload_n C dX6_putNumber_2 rfl 0 rfl ?_
  refine j_iload_n C dX6_putNumber_3 rfl 3 rfl ?_
  refine j_ic_ge (tgt := 23) C dX6_putNumber_4 (by decide) (fun c9 => ?_) (fun c9 => absurd (by decide) c9)
  exact j_vret C M dX6_putNumber_23 (Nat.le_of_ble_eq_true rfl) (Nat.le_of_ble_eq_true rfl) ⟨rfl, hf_27, (e_22.trans (congrArg nI (by omega)))⟩

theorem dX6_putEntry_0 : decode cX6_putEntry 0 = .ok (.aload_n 0, 1) := by decide +kernel
theorem dX6_putEntry_1 : decode cX6_putEntry 1 = .ok (.iload_n 1, 1) := by decide +kernel
theorem dX6_putEntry_2 : decode cX6_putEntry 2 = .ok (.iload_n 2, 1) := by decide +kernel
theorem dX6_putEntry_3 : decode cX6_putEntry 3 = .ok (.bipush 16, 2) := by decide +kernel
theorem dX6_putEntry_5 : decode cX6_putEntry 5 = .ok (.ishl, 1) := by decide +kernel
theorem dX6_putEntry_6 : decode cX6_putEntry 6 = .ok (.ior, 1) := by decide +kernel
theorem dX6_putEntry_7 : decode cX6_putEntry 7 = .ok (.iconst 4, 1) := by decide +kernel
theorem dX6_putEntry_8 : decode cX6_putEntry 8 = .ok (.invokevirtual 59, 3) := by decide +kernel
theorem dX6_putEntry_11 : decode cX6_putEntry 11 = .ok (.aload_n 0, 1) := by decide +kernel
theorem dX6_putEntry_12 : decode cX6_putEntry 12 = .ok (.iconst 1, 1) := by decide +kernel
theorem dX6_putEntry_13 : decode cX6_putEntry 13 = .ok (.iconst 4, 1) := by decide +kernel
theorem dX6_putEntry_14 : decode cX6_putEntry 14 = .ok (.invokevirtual 59, 3) := by decide +kernel
theorem dX6_putEntry_17 : decode cX6_putEntry 17 = .ok (.aload_n 0, 1) := by decide +kernel
theorem dX6_putEntry_18 : decode cX6_putEntry 18 = .ok (.iload_n 3, 1) := by decide +kernel
theorem dX6_putEntry_19 : decode cX6_putEntry 19 = .ok (.iconst 4, 1) := by decide +kernel
theorem dX6_putEntry_20 : decode cX6_putEntry 20 = .ok (.invokevirtual 59, 3) := by decide +kernel
theorem dX6_putEntry_23 : decode cX6_putEntry 23 = .ok (.return_, 1) := by decide +kernel

set_option maxRecDepth 100000 in
set_option maxHeartbeats 4000000 in
theorem c_X6_putEntry (S : Hp) (ad : Nat → Nat) (hW : Wd ad S) (v1 : Int32) (v2 : Int32) (v3 : Int32) (z : Nat) (hI_601_ad5 : hI S 601 (ad 5) = nI z) (hz : z + 12 ≤ 60000) : Ct 3 yX6_putEntry cX6_putEntry 4 none 0 0 [.ref (ad 5), .int v1, .int v2, .int v3] S (fun r S' => r = none ∧ Fm (fun f9 b9 => (f9 = 601 ∧ b9 = (ad 5))) (fun _ _ => False) (fun b9 => b9 = (ad 7)) S S' ∧ hI S' 601 (ad 5) = nI (z + 12)) := by
  refine ct_of (by decide) (Nat.le_of_ble_eq_true rfl) fun x hn9 C M hm9 => ?_
  have C : CB x RX6 cX6_putEntry := C
  refine J.eq (lv' := [(0, .ref (ad 5)), (1, .int v1), (2, .int v2), (3, .int v3)]) rfl rfl rfl ?_
  refine j_aload_n C dX6_putEntry_0 rfl 0 rfl ?_
  refine j_iload_n C dX6_putEntry_1 rfl 1 rfl ?_
  refine j_iload_n C dX6_putEntry_2 rfl 2 rfl ?_
  refine j_bipush (v := 16) C dX6_putEntry_3 (by decide) ?_
  refine j_ishl C dX6_putEntry_5 rfl ?_
  refine j_ior C dX6_putEntry_6 rfl ?_
  refine j_iconst (v := 4) C dX6_putEntry_7 (by decide) ?_
  refine j_callV (ci := 6) C [.int (v1 ||| (v2 <<< (16 &&& 31))), .int 4] [] mlX6_59 mcX6_putNumber (c_pn4 S ad hW (v1 ||| (v2 <<< (16 &&& 31))) z hI_601_ad5 (by omega)) (wm_5 (S := S) hW) (wk_5 (S := S) hW) rfl (M.rm (by decide) (by decide) (Nat.le_of_ble_eq_true rfl) (Nat.le_of_ble_eq_true rfl)) rfl rfl (Nat.le_of_ble_eq_true rfl) dX6_putEntry_8 (fun r_2 S_3 hp_4 => ?_)
  obtain ⟨rfl, hf_5, e_1⟩ := hp_4
  refine J.eq (st' := []) rfl rfl rfl ?_
  have hf_6 : Fm (fun f9 b9 => (f9 = 601 ∧ b9 = (ad 5))) (fun _ _ => False) (fun b9 => b9 = (ad 7)) S S_3 := (Fm.refl (WI := (fun f9 b9 => (f9 = 601 ∧ b9 = (ad 5)))) (WR := (fun _ _ => False)) (WA := (fun b9 => b9 = (ad 7)))).then hf_5 (fun a9 ha9 => ⟨(fun f9 h9 => (fun h8 => h8) h9), (fun f9 h9 => h9.elim), (fun h9 => (fun h8 => h8) h9)⟩)
  have hW_7 : Wd ad S_3 := hW.fm hf_5 (by intro _ _ h9; exact h9) (by intro p9 hp9; simp only [wqL, List.mem_cons, List.not_mem_nil, or_false] at hp9; rcases hp9 with rfl | rfl <;> intro h9 <;> skip <;> exact absurd h9 (wn hW (by decide) (by decide) (by decide)))
  show J _ _ _ _ _ 11 _
  refine j_aload_n C dX6_putEntry_11 rfl 0 rfl ?_
  refine j_iconst (v := 1) C dX6_putEntry_12 (by decide) ?_
  refine j_iconst (v := 4) C dX6_putEntry_13 (by decide) ?_
  refine j_callV (ci := 6) C [.int 1, .int 4] [] mlX6_59 mcX6_putNumber (c_pn4 S_3 ad hW_7 1 (z + 4) e_1 (by omega)) (wm_5 (S := S_3) hW_7) (wk_5 (S := S_3) hW_7) rfl (M.rm (by decide) (by decide) (Nat.le_of_ble_eq_true rfl) (Nat.le_of_ble_eq_true rfl)) rfl rfl (Nat.le_of_ble_eq_true rfl) dX6_putEntry_14 (fun r_9 S_10 hp_11 => ?_)
  obtain ⟨rfl, hf_12, e_8⟩ := hp_11
  refine J.eq (st' := []) rfl rfl rfl ?_
  have hf_13 : Fm (fun f9 b9 => (f9 = 601 ∧ b9 = (ad 5))) (fun _ _ => False) (fun b9 => b9 = (ad 7)) S S_10 := hf_6.then hf_12 (fun a9 ha9 => ⟨(fun f9 h9 => (fun h8 => h8) h9), (fun f9 h9 => h9.elim), (fun h9 => (fun h8 => h8) h9)⟩)
  have hW_14 : Wd ad S_10 := hW_7.fm hf_12 (by intro _ _ h9; exact h9) (by intro p9 hp9; simp only [wqL, List.mem_cons, List.not_mem_nil, or_false] at hp9; rcases hp9 with rfl | rfl <;> intro h9 <;> skip <;> exact absurd h9 (wn hW_7 (by decide) (by decide) (by decide)))
  refine j_aload_n C dX6_putEntry_17 rfl 0 rfl ?_
  refine j_iload_n C dX6_putEntry_18 rfl 3 rfl ?_
  refine j_iconst (v := 4) C dX6_putEntry_19 (by decide) ?_
  refine j_callV (ci := 6) C [.int v3, .int 4] [] mlX6_59 mcX6_putNumber (c_pn4 S_10 ad hW_14 v3 ((z + 4) + 4) e_8 (by omega)) (wm_5 (S := S_10) hW_14) (wk_5 (S := S_10) hW_14) rfl (M.rm (by decide) (by decide) (Nat.le_of_ble_eq_true rfl) (Nat.le_of_ble_eq_true rfl)) rfl rfl (Nat.le_of_ble_eq_true rfl) dX6_putEntry_20 (fun r_16 S_17 hp_18 => ?_)
  obtain ⟨rfl, hf_19, e_15⟩ := hp_18
  refine J.eq (st' := []) rfl rfl rfl ?_
  have hf_20 : Fm (fun f9 b9 => (f9 = 601 ∧ b9 = (ad 5))) (fun _ _ => False) (fun b9 => b9 = (ad 7)) S S_17 := hf_13.then hf_19 (fun a9 ha9 => ⟨(fun f9 h9 => (fun h8 => h8) h9), (fun f9 h9 => h9.elim), (fun h9 => (fun h8 => h8) h9)⟩)
  have hW_21 : Wd ad S_17 := hW_14.fm hf_19 (by intro _ _ h9; exact h9) (by intro p9 hp9; simp only [wqL, List.mem_cons, List.not_mem_nil, or_false] at hp9; rcases hp9 with rfl | rfl <;> intro h9 <;> skip <;> exact absurd h9 (wn hW_14 (by decide) (by decide) (by decide)))
  show J _ _ _ _ _ 23 _
  exact j_vret C M dX6_putEntry_23 (Nat.le_of_ble_eq_true rfl) (Nat.le_of_ble_eq_true rfl) ⟨rfl, hf_20, (e_15.trans (congrArg nI (by omega)))⟩

theorem dX6_setNumber_0 : decode cX6_setNumber 0 = .ok (.iconst 0, 1) := by decide +kernel
theorem dX6_setNumber_1 : decode cX6_setNumber 1 = .ok (.istore_n 3, 1) := by decide +kernel
theorem dX6_setNumber_2 : decode cX6_setNumber 2 = .ok (.iload_n 3, 1) := by decide +kernel
theorem dX6_setNumber_3 : decode cX6_setNumber 3 = .ok (.iconst 4, 1) := by decide +kernel
theorem dX6_setNumber_4 : decode cX6_setNumber 4 = .ok (.if_icmp .ge 51, 3) := by decide +kernel
theorem dX6_setNumber_7 : decode cX6_setNumber 7 = .ok (.iload_n 1, 1) := by decide +kernel
theorem dX6_setNumber_8 : decode cX6_setNumber 8 = .ok (.iload_n 3, 1) := by decide +kernel
theorem dX6_setNumber_9 : decode cX6_setNumber 9 = .ok (.iadd, 1) := by decide +kernel
theorem dX6_setNumber_10 : decode cX6_setNumber 10 = .ok (.ifCond .lt 39, 3) := by decide +kernel
theorem dX6_setNumber_13 : decode cX6_setNumber 13 = .ok (.iload_n 1, 1) := by decide +kernel
theorem dX6_setNumber_14 : decode cX6_setNumber 14 = .ok (.iload_n 3, 1) := by decide +kernel
theorem dX6_setNumber_15 : decode cX6_setNumber 15 = .ok (.iadd, 1) := by decide +kernel
theorem dX6_setNumber_16 : decode cX6_setNumber 16 = .ok (.aload_n 0, 1) := by decide +kernel
theorem dX6_setNumber_17 : decode cX6_setNumber 17 = .ok (.getfield 28, 3) := by decide +kernel
theorem dX6_setNumber_20 : decode cX6_setNumber 20 = .ok (.if_icmp .ge 29, 3) := by decide +kernel
theorem dX6_setNumber_23 : decode cX6_setNumber 23 = .ok (.iload_n 1, 1) := by decide +kernel
theorem dX6_setNumber_24 : decode cX6_setNumber 24 = .ok (.iload_n 3, 1) := by decide +kernel
theorem dX6_setNumber_25 : decode cX6_setNumber 25 = .ok (.iadd, 1) := by decide +kernel
theorem dX6_setNumber_26 : decode cX6_setNumber 26 = .ok (.aload_n 0, 1) := by decide +kernel
theorem dX6_setNumber_27 : decode cX6_setNumber 27 = .ok (.getfield 12, 3) := by decide +kernel
theorem dX6_setNumber_30 : decode cX6_setNumber 30 = .ok (.arraylength, 1) := by decide +kernel
theorem dX6_setNumber_31 : decode cX6_setNumber 31 = .ok (.if_icmp .ge 18, 3) := by decide +kernel
theorem dX6_setNumber_34 : decode cX6_setNumber 34 = .ok (.aload_n 0, 1) := by decide +kernel
theorem dX6_setNumber_35 : decode cX6_setNumber 35 = .ok (.getfield 12, 3) := by decide +kernel
theorem dX6_setNumber_38 : decode cX6_setNumber 38 = .ok (.iload_n 1, 1) := by decide +kernel
theorem dX6_setNumber_39 : decode cX6_setNumber 39 = .ok (.iload_n 3, 1) := by decide +kernel
theorem dX6_setNumber_40 : decode cX6_setNumber 40 = .ok (.iadd, 1) := by decide +kernel
theorem dX6_setNumber_41 : decode cX6_setNumber 41 = .ok (.iload_n 2, 1) := by decide +kernel
theorem dX6_setNumber_42 : decode cX6_setNumber 42 = .ok (.bipush 8, 2) := by decide +kernel
theorem dX6_setNumber_44 : decode cX6_setNumber 44 = .ok (.iload_n 3, 1) := by decide +kernel
theorem dX6_setNumber_45 : decode cX6_setNumber 45 = .ok (.imul, 1) := by decide +kernel
theorem dX6_setNumber_46 : decode cX6_setNumber 46 = .ok (.iushr, 1) := by decide +kernel
theorem dX6_setNumber_47 : decode cX6_setNumber 47 = .ok (.i2b, 1) := by decide +kernel
theorem dX6_setNumber_48 : decode cX6_setNumber 48 = .ok (.bastore, 1) := by decide +kernel
theorem dX6_setNumber_49 : decode cX6_setNumber 49 = .ok (.iinc 3 1, 3) := by decide +kernel
theorem dX6_setNumber_52 : decode cX6_setNumber 52 = .ok (.goto (-50), 3) := by decide +kernel
theorem dX6_setNumber_55 : decode cX6_setNumber 55 = .ok (.return_, 1) := by decide +kernel

set_option maxRecDepth 100000 in
set_option maxHeartbeats 4000000 in
theorem c_X6_setNumber (S : Hp) (ad : Nat → Nat) (hW : Wd ad S) (lk : Nat) (vb : Int32) (z : Nat) (hI_601_ad5 : hI S 601 (ad 5) = nI z) (hl : lk + 4 ≤ z) (hz : z ≤ 60000) : Ct 1 yX6_setNumber cX6_setNumber 4 none 0 0 [.ref (ad 5), .int (nI lk), .int vb] S (fun r S' => r = none ∧ Fm (fun _ _ => False) (fun _ _ => False) (fun b9 => b9 = (ad 7)) S S') := by
  refine ct_of (by decide) (Nat.le_of_ble_eq_true rfl) fun x hn9 C M hm9 => ?_
  have C : CB x RX6 cX6_setNumber := C
  refine J.eq (lv' := [(0, .ref (ad 5)), (1, .int (nI lk)), (2, .int vb)]) rfl rfl rfl ?_
  refine j_iconst (v := 0) C dX6_setNumber_0 (by decide) ?_
  refine j_istore_n (lv' := [(3, .int 0), (0, .ref (ad 5)), (1, .int (nI lk)), (2, .int vb)]) C dX6_setNumber_1 rfl (by rw [hn9]; decide) rfl ?_
  refine j_iload_n C dX6_setNumber_2 rfl 0 rfl ?_
  refine j_iconst (v := 4) C dX6_setNumber_3 (by decide) ?_
  refine j_ic_ge (tgt := 55) C dX6_setNumber_4 (by decide) (fun c9 => absurd c9 (by decide)) (fun c9 => ?_)
  refine j_iload_n C dX6_setNumber_7 rfl 2 rfl ?_
  refine j_iload_n C dX6_setNumber_8 rfl 0 rfl ?_
  refine j_iadd (v := nI (lk + 0)) C dX6_setNumber_9 (nI_add lk 0) ?_
  show J _ _ _ _ _ 10 _
  refine j_if_lt (tgt := 49) C dX6_setNumber_10 (by decide) (fun c_10 => absurd c_10 (nI_pos (by omega))) (fun c_10 => ?_)
  refine j_iload_n C dX6_setNumber_13 rfl 2 rfl ?_
  refine j_iload_n C dX6_setNumber_14 rfl 0 rfl ?_
  refine j_iadd (v := nI (lk + 0)) C dX6_setNumber_15 (nI_add lk 0) ?_
  refine j_aload_n C dX6_setNumber_16 rfl 1 rfl ?_
  refine j_geti (f := 601) (v := nI z) C flX6_28 dX6_setNumber_17 (wm_5 (S := S) hW) (wk_5 (S := S) hW) (by decide) (by decide) rfl hI_601_ad5 ?_
  refine j_ic_ge (tgt := 49) C dX6_setNumber_20 (by decide) (fun c_20 => absurd c_20 (nI_ge (by omega) (by omega))) (fun c_20 => ?_)
  refine j_iload_n C dX6_setNumber_23 rfl 2 rfl ?_
  show J _ _ _ _ _ 24 _
  refine j_iload_n C dX6_setNumber_24 rfl 0 rfl ?_
  refine j_iadd (v := nI (lk + 0)) C dX6_setNumber_25 (nI_add lk 0) ?_
  refine j_aload_n C dX6_setNumber_26 rfl 1 rfl ?_
  refine j_getr (f := 600) (v := (ad 7)) C flX6_12 dX6_setNumber_27 (wm_5 (S := S) hW) (wk_5 (S := S) hW) (by decide) rfl (wr_600_5 (S := S) hW) ?_
  refine j_alen (v := 60000) C dX6_setNumber_30 (wm_7 (S := S) hW) (wk_7 (S := S) hW) (by decide) (by decide) (len_of (n := 60000) (wl_7 (S := S) hW) (by decide)) ?_
  refine j_ic_ge (tgt := 49) C dX6_setNumber_31 (by decide) (fun c_31 => absurd c_31 (nI_ge (b := 60000) (by omega) (by decide))) (fun c_31 => ?_)
  refine j_aload_n C dX6_setNumber_34 rfl 1 rfl ?_
  refine j_getr (f := 600) (v := (ad 7)) C flX6_12 dX6_setNumber_35 (wm_5 (S := S) hW) (wk_5 (S := S) hW) (by decide) rfl (wr_600_5 (S := S) hW) ?_
  show J _ _ _ _ _ 38 _
  refine j_iload_n C dX6_setNumber_38 rfl 2 rfl ?_
  refine j_iload_n C dX6_setNumber_39 rfl 0 rfl ?_
  refine j_iadd (v := nI (lk + 0)) C dX6_setNumber_40 (nI_add lk 0) ?_
  refine j_iload_n C dX6_setNumber_41 rfl 3 rfl ?_
  refine j_bipush (v := 8) C dX6_setNumber_42 (by decide) ?_
  refine j_iload_n C dX6_setNumber_44 rfl 0 rfl ?_
  refine j_imul (v := 0) C dX6_setNumber_45 (by decide) ?_
  refine j_iushr C dX6_setNumber_46 rfl ?_
  show J _ _ _ _ _ 47 _
  refine j_i2b C dX6_setNumber_47 rfl ?_
  refine j_bast (j := (lk + 0)) C dX6_setNumber_48 (wm_7 (S := S) hW) (wk_7 (S := S) hW) (inr_of (n := 60000) (wl_7 (S := S) hW) (vp_in_nI (by omega) (by omega))) (nI_clamp (by omega)) ?_
  refine j_iinc (q := 0) (v := 1) (lv' := [(3, .int 1), (0, .ref (ad 5)), (1, .int (nI lk)), (2, .int vb)]) C dX6_setNumber_49 rfl (by decide) (by rw [hn9]; decide) rfl ?_
  refine j_goto (tgt := 2) C dX6_setNumber_52 (by decide) ?_
  refine j_iload_n C dX6_setNumber_2 rfl 0 rfl ?_
  refine j_iconst (v := 4) C dX6_setNumber_3 (by decide) ?_
  refine j_ic_ge (tgt := 55) C dX6_setNumber_4 (by decide) (fun c9 => absurd c9 (by decide)) (fun c9 => ?_)
  refine j_iload_n C dX6_setNumber_7 rfl 2 rfl ?_
  show J _ _ _ _ _ 8 _
  refine j_iload_n C dX6_setNumber_8 rfl 0 rfl ?_
  refine j_iadd (v := nI (lk + 1)) C dX6_setNumber_9 (nI_add lk 1) ?_
  refine j_if_lt (tgt := 49) C dX6_setNumber_10 (by decide) (fun c_10 => absurd c_10 (nI_pos (by omega))) (fun c_10 => ?_)
  refine j_iload_n C dX6_setNumber_13 rfl 2 rfl ?_
  refine j_iload_n C dX6_setNumber_14 rfl 0 rfl ?_
  refine j_iadd (v := nI (lk + 1)) C dX6_setNumber_15 (nI_add lk 1) ?_
  refine j_aload_n C dX6_setNumber_16 rfl 1 rfl ?_
  refine j_geti (f := 601) (v := nI z) C flX6_28 dX6_setNumber_17 (wm_5 (S := S) hW) (wk_5 (S := S) hW) (by decide) (by decide) rfl (rxI_tI (S := S) hI_601_ad5) ?_
  show J _ _ _ _ _ 20 _
  refine j_ic_ge (tgt := 49) C dX6_setNumber_20 (by decide) (fun c_20 => absurd c_20 (nI_ge (by omega) (by omega))) (fun c_20 => ?_)
  refine j_iload_n C dX6_setNumber_23 rfl 2 rfl ?_
  refine j_iload_n C dX6_setNumber_24 rfl 0 rfl ?_
  refine j_iadd (v := nI (lk + 1)) C dX6_setNumber_25 (nI_add lk 1) ?_
  refine j_aload_n C dX6_setNumber_26 rfl 1 rfl ?_
  refine j_getr (f := 600) (v := (ad 7)) C flX6_12 dX6_setNumber_27 (wm_5 (S := S) hW) (wk_5 (S := S) hW) (by decide) rfl (rxR_tI (S := S) (wr_600_5 (S := S) hW)) ?_
  refine j_alen (v := 60000) C dX6_setNumber_30 (wm_7 (S := S) hW) (wk_7 (S := S) hW) (by decide) (by decide) (len_of (n := 60000) (wl_7 (S := S) hW) (by decide)) ?_
  refine j_ic_ge (tgt := 49) C dX6_setNumber_31 (by decide) (fun c_31 => absurd c_31 (nI_ge (b := 60000) (by omega) (by decide))) (fun c_31 => ?_)
  show J _ _ _ _ _ 34 _
  refine j_aload_n C dX6_setNumber_34 rfl 1 rfl ?_
  refine j_getr (f := 600) (v := (ad 7)) C flX6_12 dX6_setNumber_35 (wm_5 (S := S) hW) (wk_5 (S := S) hW) (by decide) rfl (rxR_tI (S := S) (wr_600_5 (S := S) hW)) ?_
  refine j_iload_n C dX6_setNumber_38 rfl 2 rfl ?_
  refine j_iload_n C dX6_setNumber_39 rfl 0 rfl ?_
  refine j_iadd (v := nI (lk + 1)) C dX6_setNumber_40 (nI_add lk 1) ?_
  refine j_iload_n C dX6_setNumber_41 rfl 3 rfl ?_
  refine j_bipush (v := 8) C dX6_setNumber_42 (by decide) ?_
  refine j_iload_n C dX6_setNumber_44 rfl 0 rfl ?_
  show J _ _ _ _ _ 45 _
  refine j_imul (v := 8) C dX6_setNumber_45 (by decide) ?_
  refine j_iushr C dX6_setNumber_46 rfl ?_
  refine j_i2b C dX6_setNumber_47 rfl ?_
  refine j_bast (j := (lk + 1)) C dX6_setNumber_48 (wm_7 (S := S) hW) (wk_7 (S := S) hW) (inr_of (n := 60000) (wl_7 (S := S) hW) (vp_in_nI (by omega) (by omega))) (nI_clamp (by omega)) ?_
  refine j_iinc (q := 0) (v := 2) (lv' := [(3, .int 2), (0, .ref (ad 5)), (1, .int (nI lk)), (2, .int vb)]) C dX6_setNumber_49 rfl (by decide) (by rw [hn9]; decide) rfl ?_
  refine j_goto (tgt := 2) C dX6_setNumber_52 (by decide) ?_
  refine j_iload_n C dX6_setNumber_2 rfl 0 rfl ?_
  refine j_iconst (v := 4) C dX6_setNumber_3 (by decide) ?_
  show J _ _ _ _ _ 4 _
  refine j_ic_ge (tgt := 55) C dX6_setNumber_4 (by decide) (fun c9 => absurd c9 (by decide)) (fun c9 => ?_)
  refine j_iload_n C dX6_setNumber_7 rfl 2 rfl ?_
  refine j_iload_n C dX6_setNumber_8 rfl 0 rfl ?_
  refine j_iadd (v := nI (lk + 2)) C dX6_setNumber_9 (nI_add lk 2) ?_
  refine j_if_lt (tgt := 49) C dX6_setNumber_10 (by decide) (fun c_10 => absurd c_10 (nI_pos (by omega))) (fun c_10 => ?_)
  refine j_iload_n C dX6_setNumber_13 rfl 2 rfl ?_
  refine j_iload_n C dX6_setNumber_14 rfl 0 rfl ?_
  refine j_iadd (v := nI (lk + 2)) C dX6_setNumber_15 (nI_add lk 2) ?_
  show J _ _ _ _ _ 16 _
  refine j_aload_n C dX6_setNumber_16 rfl 1 rfl ?_
  refine j_geti (f := 601) (v := nI z) C flX6_28 dX6_setNumber_17 (wm_5 (S := S) hW) (wk_5 (S := S) hW) (by decide) (by decide) rfl (rxI_tI (S := (tI S (ad 7) (lk + 0) ((((vb.toUInt32 >>> ((0 : Int32).toUInt32 &&& Int32.toUInt32 31)).toInt32).toInt8.toInt32).toInt8.toInt32))) (rxI_tI (S := S) hI_601_ad5)) ?_
  refine j_ic_ge (tgt := 49) C dX6_setNumber_20 (by decide) (fun c_20 => absurd c_20 (nI_ge (by omega) (by omega))) (fun c_20 => ?_)
  refine j_iload_n C dX6_setNumber_23 rfl 2 rfl ?_
  refine j_iload_n C dX6_setNumber_24 rfl 0 rfl ?_
  refine j_iadd (v := nI (lk + 2)) C dX6_setNumber_25 (nI_add lk 2) ?_
  refine j_aload_n C dX6_setNumber_26 rfl 1 rfl ?_
  refine j_getr (f := 600) (v := (ad 7)) C flX6_12 dX6_setNumber_27 (wm_5 (S := S) hW) (wk_5 (S := S) hW) (by decide) rfl (rxR_tI (S := (tI S (ad 7) (lk + 0) ((((vb.toUInt32 >>> ((0 : Int32).toUInt32 &&& Int32.toUInt32 31)).toInt32).toInt8.toInt32).toInt8.toInt32))) (rxR_tI (S := S) (wr_600_5 (S := S) hW))) ?_
  show J _ _ _ _ _ 30 _
  refine j_alen (v := 60000) C dX6_setNumber_30 (wm_7 (S := S) hW) (wk_7 (S := S) hW) (by decide) (by decide) (len_of (n := 60000) (wl_7 (S := S) hW) (by decide)) ?_
  refine j_ic_ge (tgt := 49) C dX6_setNumber_31 (by decide) (fun c_31 => absurd c_31 (nI_ge (b := 60000) (by omega) (by decide))) (fun c_31 => ?_)
  refine j_aload_n C dX6_setNumber_34 rfl 1 rfl ?_
  refine j_getr (f := 600) (v := (ad 7)) C flX6_12 dX6_setNumber_35 (wm_5 (S := S) hW) (wk_5 (S := S) hW) (by decide) rfl (rxR_tI (S := (tI S (ad 7) (lk + 0) ((((vb.toUInt32 >>> ((0 : Int32).toUInt32 &&& Int32.toUInt32 31)).toInt32).toInt8.toInt32).toInt8.toInt32))) (rxR_tI (S := S) (wr_600_5 (S := S) hW))) ?_
  refine j_iload_n C dX6_setNumber_38 rfl 2 rfl ?_
  refine j_iload_n C dX6_setNumber_39 rfl 0 rfl ?_
  refine j_iadd (v := nI (lk + 2)) C dX6_setNumber_40 (nI_add lk 2) ?_
  refine j_iload_n C dX6_setNumber_41 rfl 3 rfl ?_
  show J _ _ _ _ _ 42 _
  refine j_bipush (v := 8) C dX6_setNumber_42 (by decide) ?_
  refine j_iload_n C dX6_setNumber_44 rfl 0 rfl ?_
  refine j_imul (v := 16) C dX6_setNumber_45 (by decide) ?_
  refine j_iushr C dX6_setNumber_46 rfl ?_
  refine j_i2b C dX6_setNumber_47 rfl ?_
  refine j_bast (j := (lk + 2)) C dX6_setNumber_48 (wm_7 (S := S) hW) (wk_7 (S := S) hW) (inr_of (n := 60000) (wl_7 (S := S) hW) (vp_in_nI (by omega) (by omega))) (nI_clamp (by omega)) ?_
  refine j_iinc (q := 0) (v := 3) (lv' := [(3, .int 3), (0, .ref (ad 5)), (1, .int (nI lk)), (2, .int vb)]) C dX6_setNumber_49 rfl (by decide) (by rw [hn9]; decide) rfl ?_
  refine j_goto (tgt := 2) C dX6_setNumber_52 (by decide) ?_
  show J _ _ _ _ _ 2 _
  refine j_iload_n C dX6_setNumber_2 rfl 0 rfl ?_
  refine j_iconst (v := 4) C dX6_setNumber_3 (by decide) ?_
  refine j_ic_ge (tgt := 55) C dX6_setNumber_4 (by decide) (fun c9 => absurd c9 (by decide)) (fun c9 => ?_)
  refine j_iload_n C dX6_setNumber_7 rfl 2 rfl ?_
  refine j_iload_n C dX6_setNumber_8 rfl 0 rfl ?_
  refine j_iadd (v := nI (lk + 3)) C dX6_setNumber_9 (nI_add lk 3) ?_
  refine j_if_lt (tgt := 49) C dX6_setNumber_10 (by decide) (fun c_10 => absurd c_10 (nI_pos (by omega))) (fun c_10 => ?_)
  refine j_iload_n C dX6_setNumber_13 rfl 2 rfl ?_
  show J _ _ _ _ _ 14 _
  refine j_iload_n C dX6_setNumber_14 rfl 0 rfl ?_
  refine j_iadd (v := nI (lk + 3)) C dX6_setNumber_15 (nI_add lk 3) ?_
  refine j_aload_n C dX6_setNumber_16 rfl 1 rfl ?_
  refine j_geti (f := 601) (v := nI z) C flX6_28 dX6_setNumber_17 (wm_5 (S := S) hW) (wk_5 (S := S) hW) (by decide) (by decide) rfl (rxI_tI (S := (tI (tI S (ad 7) (lk + 0) ((((vb.toUInt32 >>> ((0 : Int32).toUInt32 &&& Int32.toUInt32 31)).toInt32).toInt8.toInt32).toInt8.toInt32)) (ad 7) (lk + 1) ((((vb.toUInt32 >>> ((8 : Int32).toUInt32 &&& Int32.toUInt32 31)).toInt32).toInt8.toInt32).toInt8.toInt32))) (rxI_tI (S := (tI S (ad 7) (lk + 0) ((((vb.toUInt32 >>> ((0 : Int32).toUInt32 &&& Int32.toUInt32 31)).toInt32).toInt8.toInt32).toInt8.toInt32))) (rxI_tI (S := S) hI_601_ad5))) ?_
  refine j_ic_ge (tgt := 49) C dX6_setNumber_20 (by decide) (fun c_20 => absurd c_20 (nI_ge (by omega) (by omega))) (fun c_20 => ?_)
  refine j_iload_n C dX6_setNumber_23 rfl 2 rfl ?_
  refine j_iload_n C dX6_setNumber_24 rfl 0 rfl ?_
  refine j_iadd (v := nI (lk + 3)) C dX6_setNumber_25 (nI_add lk 3) ?_
  show J _ _ _ _ _ 26 _
  refine j_aload_n C dX6_setNumber_26 rfl 1 rfl ?_
  refine j_getr (f := 600) (v := (ad 7)) C flX6_12 dX6_setNumber_27 (wm_5 (S := S) hW) (wk_5 (S := S) hW) (by decide) rfl (rxR_tI (S := (tI (tI S (ad 7) (lk + 0) ((((vb.toUInt32 >>> ((0 : Int32).toUInt32 &&& Int32.toUInt32 31)).toInt32).toInt8.toInt32).toInt8.toInt32)) (ad 7) (lk + 1) ((((vb.toUInt32 >>> ((8 : Int32).toUInt32 &&& Int32.toUInt32 31)).toInt32).toInt8.toInt32).toInt8.toInt32))) (rxR_tI (S := (tI S (ad 7) (lk + 0) ((((vb.toUInt32 >>> ((0 : Int32).toUInt32 &&& Int32.toUInt32 31)).toInt32).toInt8.toInt32).toInt8.toInt32))) (rxR_tI (S := S) (wr_600_5 (S := S) hW)))) ?_
  refine j_alen (v := 60000) C dX6_setNumber_30 (wm_7 (S := S) hW) (wk_7 (S := S) hW) (by decide) (by decide) (len_of (n := 60000) (wl_7 (S := S) hW) (by decide)) ?_
  refine j_ic_ge (tgt := 49) C dX6_setNumber_31 (by decide) (fun c_31 => absurd c_31 (nI_ge (b := 60000) (by omega) (by decide))) (fun c_31 => ?_)
  refine j_aload_n C dX6_setNumber_34 rfl 1 rfl ?_
  refine j_getr (f := 600) (v := (ad 7)) C flX6_12 dX6_setNumber_35 (wm_5 (S := S) hW) (wk_5 (S := S) hW) (by decide) rfl (rxR_tI (S := (tI (tI S (ad 7) (lk + 0) ((((vb.toUInt32 >>> ((0 : Int32).toUInt32 &&& Int32.toUInt32 31)).toInt32).toInt8.toInt32).toInt8.toInt32)) (ad 7) (lk + 1) ((((vb.toUInt32 >>> ((8 : Int32).toUInt32 &&& Int32.toUInt32 31)).toInt32).toInt8.toInt32).toInt8.toInt32))) (rxR_tI (S := (tI S (ad 7) (lk + 0) ((((vb.toUInt32 >>> ((0 : Int32).toUInt32 &&& Int32.toUInt32 31)).toInt32).toInt8.toInt32).toInt8.toInt32))) (rxR_tI (S := S) (wr_600_5 (S := S) hW)))) ?_
  refine j_iload_n C dX6_setNumber_38 rfl 2 rfl ?_
  refine j_iload_n C dX6_setNumber_39 rfl 0 rfl ?_
  show J _ _ _ _ _ 40 _
  refine j_iadd (v := nI (lk + 3)) C dX6_setNumber_40 (nI_add lk 3) ?_
  refine j_iload_n C dX6_setNumber_41 rfl 3 rfl ?_
  refine j_bipush (v := 8) C dX6_setNumber_42 (by decide) ?_
  refine j_iload_n C dX6_setNumber_44 rfl 0 rfl ?_
  refine j_imul (v := 24) C dX6_setNumber_45 (by decide) ?_
  refine j_iushr C dX6_setNumber_46 rfl ?_
  refine j_i2b C dX6_setNumber_47 rfl ?_
  refine j_bast (j := (lk + 3)) C dX6_setNumber_48 (wm_7 (S := S) hW) (wk_7 (S := S) hW) (inr_of (n := 60000) (wl_7 (S := S) hW) (vp_in_nI (by omega) (by omega))) (nI_clamp (by omega)) ?_
  show J _ _ _ _ _ 49 _
  refine j_iinc (q := 0) (v := 4) (lv' := [(3, .int 4), (0, .ref (ad 5)), (1, .int (nI lk)), (2, .int vb)]) C dX6_setNumber_49 rfl (by decide) (by rw [hn9]; decide) rfl ?_
  refine j_goto (tgt := 2) C dX6_setNumber_52 (by decide) ?_
  refine j_iload_n C dX6_setNumber_2 rfl 0 rfl ?_
  refine j_iconst (v := 4) C dX6_setNumber_3 (by decide) ?_
  refine j_ic_ge (tgt := 55) C dX6_setNumber_4 (by decide) (fun c9 => ?_) (fun c9 => absurd (by decide) c9)
  exact j_vret C M dX6_setNumber_55 (by decide) (by decide) ⟨rfl, (((((Fm.refl (WI := (fun _ _ => False)) (WR := (fun _ _ => False)) (WA := (fun b9 => b9 = (ad 7)))).tI _ _ (fun _ => rfl)).tI _ _ (fun _ => rfl)).tI _ _ (fun _ => rfl)).tI _ _ (fun _ => rfl))⟩

theorem dX6_writeDirectory_0 : decode cX6_writeDirectory 0 = .ok (.aload_n 0, 1) := by decide +kernel
theorem dX6_writeDirectory_1 : decode cX6_writeDirectory 1 = .ok (.aload_n 0, 1) := by decide +kernel
theorem dX6_writeDirectory_2 : decode cX6_writeDirectory 2 = .ok (.getfield 63, 3) := by decide +kernel
theorem dX6_writeDirectory_5 : decode cX6_writeDirectory 5 = .ok (.aload_n 0, 1) := by decide +kernel
theorem dX6_writeDirectory_6 : decode cX6_writeDirectory 6 = .ok (.getfield 28, 3) := by decide +kernel
theorem dX6_writeDirectory_9 : decode cX6_writeDirectory 9 = .ok (.invokevirtual 91, 3) := by decide +kernel
theorem dX6_writeDirectory_12 : decode cX6_writeDirectory 12 = .ok (.aload_n 0, 1) := by decide +kernel
theorem dX6_writeDirectory_13 : decode cX6_writeDirectory 13 = .ok (.getfield 28, 3) := by decide +kernel
theorem dX6_writeDirectory_16 : decode cX6_writeDirectory 16 = .ok (.iconst 2, 1) := by decide +kernel
theorem dX6_writeDirectory_17 : decode cX6_writeDirectory 17 = .ok (.iadd, 1) := by decide +kernel
theorem dX6_writeDirectory_18 : decode cX6_writeDirectory 18 = .ok (.sipush 156, 3) := by decide +kernel
theorem dX6_writeDirectory_21 : decode cX6_writeDirectory 21 = .ok (.iadd, 1) := by decide +kernel
theorem dX6_writeDirectory_22 : decode cX6_writeDirectory 22 = .ok (.iconst 4, 1) := by decide +kernel
theorem dX6_writeDirectory_23 : decode cX6_writeDirectory 23 = .ok (.iadd, 1) := by decide +kernel
theorem dX6_writeDirectory_24 : decode cX6_writeDirectory 24 = .ok (.istore 5, 2) := by decide +kernel
theorem dX6_writeDirectory_26 : decode cX6_writeDirectory 26 = .ok (.aload_n 0, 1) := by decide +kernel
theorem dX6_writeDirectory_27 : decode cX6_writeDirectory 27 = .ok (.bipush 13, 2) := by decide +kernel
theorem dX6_writeDirectory_29 : decode cX6_writeDirectory 29 = .ok (.iconst 2, 1) := by decide +kernel
theorem dX6_writeDirectory_30 : decode cX6_writeDirectory 30 = .ok (.invokevirtual 59, 3) := by decide +kernel
theorem dX6_writeDirectory_33 : decode cX6_writeDirectory 33 = .ok (.aload_n 0, 1) := by decide +kernel
theorem dX6_writeDirectory_34 : decode cX6_writeDirectory 34 = .ok (.sipush 256, 3) := by decide +kernel
theorem dX6_writeDirectory_37 : decode cX6_writeDirectory 37 = .ok (.iconst 4, 1) := by decide +kernel
theorem dX6_writeDirectory_38 : decode cX6_writeDirectory 38 = .ok (.iload_n 1, 1) := by decide +kernel
theorem dX6_writeDirectory_39 : decode cX6_writeDirectory 39 = .ok (.invokevirtual 94, 3) := by decide +kernel
theorem dX6_writeDirectory_42 : decode cX6_writeDirectory 42 = .ok (.aload_n 0, 1) := by decide +kernel
theorem dX6_writeDirectory_43 : decode cX6_writeDirectory 43 = .ok (.sipush 257, 3) := by decide +kernel
theorem dX6_writeDirectory_46 : decode cX6_writeDirectory 46 = .ok (.iconst 4, 1) := by decide +kernel
theorem dX6_writeDirectory_47 : decode cX6_writeDirectory 47 = .ok (.iload_n 2, 1) := by decide +kernel
theorem dX6_writeDirectory_48 : decode cX6_writeDirectory 48 = .ok (.invokevirtual 94, 3) := by decide +kernel
theorem dX6_writeDirectory_51 : decode cX6_writeDirectory 51 = .ok (.aload_n 0, 1) := by decide +kernel
theorem dX6_writeDirectory_52 : decode cX6_writeDirectory 52 = .ok (.sipush 258, 3) := by decide +kernel
theorem dX6_writeDirectory_55 : decode cX6_writeDirectory 55 = .ok (.iconst 3, 1) := by decide +kernel
theorem dX6_writeDirectory_56 : decode cX6_writeDirectory 56 = .ok (.iconst 1, 1) := by decide +kernel
theorem dX6_writeDirectory_57 : decode cX6_writeDirectory 57 = .ok (.invokevirtual 94, 3) := by decide +kernel
theorem dX6_writeDirectory_60 : decode cX6_writeDirectory 60 = .ok (.aload_n 0, 1) := by decide +kernel
theorem dX6_writeDirectory_61 : decode cX6_writeDirectory 61 = .ok (.sipush 259, 3) := by decide +kernel
theorem dX6_writeDirectory_64 : decode cX6_writeDirectory 64 = .ok (.iconst 3, 1) := by decide +kernel
theorem dX6_writeDirectory_65 : decode cX6_writeDirectory 65 = .ok (.iconst 4, 1) := by decide +kernel
theorem dX6_writeDirectory_66 : decode cX6_writeDirectory 66 = .ok (.invokevirtual 94, 3) := by decide +kernel
theorem dX6_writeDirectory_69 : decode cX6_writeDirectory 69 = .ok (.aload_n 0, 1) := by decide +kernel
theorem dX6_writeDirectory_70 : decode cX6_writeDirectory 70 = .ok (.sipush 262, 3) := by decide +kernel
theorem dX6_writeDirectory_73 : decode cX6_writeDirectory 73 = .ok (.iconst 3, 1) := by decide +kernel
theorem dX6_writeDirectory_74 : decode cX6_writeDirectory 74 = .ok (.iconst 0, 1) := by decide +kernel
theorem dX6_writeDirectory_75 : decode cX6_writeDirectory 75 = .ok (.invokevirtual 94, 3) := by decide +kernel
theorem dX6_writeDirectory_78 : decode cX6_writeDirectory 78 = .ok (.aload_n 0, 1) := by decide +kernel
theorem dX6_writeDirectory_79 : decode cX6_writeDirectory 79 = .ok (.sipush 273, 3) := by decide +kernel
theorem dX6_writeDirectory_82 : decode cX6_writeDirectory 82 = .ok (.iconst 4, 1) := by decide +kernel
theorem dX6_writeDirectory_83 : decode cX6_writeDirectory 83 = .ok (.iload_n 3, 1) := by decide +kernel
theorem dX6_writeDirectory_84 : decode cX6_writeDirectory 84 = .ok (.invokevirtual 94, 3) := by decide +kernel
theorem dX6_writeDirectory_87 : decode cX6_writeDirectory 87 = .ok (.aload_n 0, 1) := by decide +kernel
theorem dX6_writeDirectory_88 : decode cX6_writeDirectory 88 = .ok (.sipush 277, 3) := by decide +kernel
theorem dX6_writeDirectory_91 : decode cX6_writeDirectory 91 = .ok (.iconst 3, 1) := by decide +kernel
theorem dX6_writeDirectory_92 : decode cX6_writeDirectory 92 = .ok (.iconst 1, 1) := by decide +kernel
theorem dX6_writeDirectory_93 : decode cX6_writeDirectory 93 = .ok (.invokevirtual 94, 3) := by decide +kernel
theorem dX6_writeDirectory_96 : decode cX6_writeDirectory 96 = .ok (.aload_n 0, 1) := by decide +kernel
theorem dX6_writeDirectory_97 : decode cX6_writeDirectory 97 = .ok (.sipush 278, 3) := by decide +kernel
theorem dX6_writeDirectory_100 : decode cX6_writeDirectory 100 = .ok (.iconst 4, 1) := by decide +kernel
theorem dX6_writeDirectory_101 : decode cX6_writeDirectory 101 = .ok (.iload_n 2, 1) := by decide +kernel
theorem dX6_writeDirectory_102 : decode cX6_writeDirectory 102 = .ok (.invokevirtual 94, 3) := by decide +kernel
theorem dX6_writeDirectory_105 : decode cX6_writeDirectory 105 = .ok (.aload_n 0, 1) := by decide +kernel
theorem dX6_writeDirectory_106 : decode cX6_writeDirectory 106 = .ok (.sipush 279, 3) := by decide +kernel
theorem dX6_writeDirectory_109 : decode cX6_writeDirectory 109 = .ok (.iconst 4, 1) := by decide +kernel
theorem dX6_writeDirectory_110 : decode cX6_writeDirectory 110 = .ok (.iload 4, 2) := by decide +kernel
theorem dX6_writeDirectory_112 : decode cX6_writeDirectory 112 = .ok (.invokevirtual 94, 3) := by decide +kernel
theorem dX6_writeDirectory_115 : decode cX6_writeDirectory 115 = .ok (.aload_n 0, 1) := by decide +kernel
theorem dX6_writeDirectory_116 : decode cX6_writeDirectory 116 = .ok (.sipush 282, 3) := by decide +kernel
theorem dX6_writeDirectory_119 : decode cX6_writeDirectory 119 = .ok (.iconst 5, 1) := by decide +kernel
theorem dX6_writeDirectory_120 : decode cX6_writeDirectory 120 = .ok (.iload 5, 2) := by decide +kernel
theorem dX6_writeDirectory_122 : decode cX6_writeDirectory 122 = .ok (.invokevirtual 94, 3) := by decide +kernel
theorem dX6_writeDirectory_125 : decode cX6_writeDirectory 125 = .ok (.aload_n 0, 1) := by decide +kernel
theorem dX6_writeDirectory_126 : decode cX6_writeDirectory 126 = .ok (.sipush 283, 3) := by decide +kernel
theorem dX6_writeDirectory_129 : decode cX6_writeDirectory 129 = .ok (.iconst 5, 1) := by decide +kernel
theorem dX6_writeDirectory_130 : decode cX6_writeDirectory 130 = .ok (.iload 5, 2) := by decide +kernel
theorem dX6_writeDirectory_132 : decode cX6_writeDirectory 132 = .ok (.invokevirtual 94, 3) := by decide +kernel
theorem dX6_writeDirectory_135 : decode cX6_writeDirectory 135 = .ok (.aload_n 0, 1) := by decide +kernel
theorem dX6_writeDirectory_136 : decode cX6_writeDirectory 136 = .ok (.sipush 293, 3) := by decide +kernel
theorem dX6_writeDirectory_139 : decode cX6_writeDirectory 139 = .ok (.iconst 4, 1) := by decide +kernel
theorem dX6_writeDirectory_140 : decode cX6_writeDirectory 140 = .ok (.iconst 0, 1) := by decide +kernel
theorem dX6_writeDirectory_141 : decode cX6_writeDirectory 141 = .ok (.invokevirtual 94, 3) := by decide +kernel
theorem dX6_writeDirectory_144 : decode cX6_writeDirectory 144 = .ok (.aload_n 0, 1) := by decide +kernel
theorem dX6_writeDirectory_145 : decode cX6_writeDirectory 145 = .ok (.sipush 296, 3) := by decide +kernel
theorem dX6_writeDirectory_148 : decode cX6_writeDirectory 148 = .ok (.iconst 3, 1) := by decide +kernel
theorem dX6_writeDirectory_149 : decode cX6_writeDirectory 149 = .ok (.iconst 2, 1) := by decide +kernel
theorem dX6_writeDirectory_150 : decode cX6_writeDirectory 150 = .ok (.invokevirtual 94, 3) := by decide +kernel
theorem dX6_writeDirectory_153 : decode cX6_writeDirectory 153 = .ok (.aload_n 0, 1) := by decide +kernel
theorem dX6_writeDirectory_154 : decode cX6_writeDirectory 154 = .ok (.aload_n 0, 1) := by decide +kernel
theorem dX6_writeDirectory_155 : decode cX6_writeDirectory 155 = .ok (.getfield 28, 3) := by decide +kernel
theorem dX6_writeDirectory_158 : decode cX6_writeDirectory 158 = .ok (.putfield 63, 3) := by decide +kernel
theorem dX6_writeDirectory_161 : decode cX6_writeDirectory 161 = .ok (.aload_n 0, 1) := by decide +kernel
theorem dX6_writeDirectory_162 : decode cX6_writeDirectory 162 = .ok (.iconst 0, 1) := by decide +kernel
theorem dX6_writeDirectory_163 : decode cX6_writeDirectory 163 = .ok (.iconst 4, 1) := by decide +kernel
theorem dX6_writeDirectory_164 : decode cX6_writeDirectory 164 = .ok (.invokevirtual 59, 3) := by decide +kernel
theorem dX6_writeDirectory_167 : decode cX6_writeDirectory 167 = .ok (.aload_n 0, 1) := by decide +kernel
theorem dX6_writeDirectory_168 : decode cX6_writeDirectory 168 = .ok (.bipush 75, 2) := by decide +kernel
theorem dX6_writeDirectory_170 : decode cX6_writeDirectory 170 = .ok (.iconst 4, 1) := by decide +kernel
theorem dX6_writeDirectory_171 : decode cX6_writeDirectory 171 = .ok (.invokevirtual 59, 3) := by decide +kernel
theorem dX6_writeDirectory_174 : decode cX6_writeDirectory 174 = .ok (.aload_n 0, 1) := by decide +kernel
theorem dX6_writeDirectory_175 : decode cX6_writeDirectory 175 = .ok (.iconst 1, 1) := by decide +kernel
theorem dX6_writeDirectory_176 : decode cX6_writeDirectory 176 = .ok (.iconst 4, 1) := by decide +kernel
theorem dX6_writeDirectory_177 : decode cX6_writeDirectory 177 = .ok (.invokevirtual 59, 3) := by decide +kernel
theorem dX6_writeDirectory_180 : decode cX6_writeDirectory 180 = .ok (.return_, 1) := by decide +kernel

set_option maxRecDepth 100000 in
set_option maxHeartbeats 4000000 in
theorem c_X6_writeDirectory (S : Hp) (ad : Nat → Nat) (hW : Wd ad S) (v1 : Int32) (v2 : Int32) (v3 : Int32) (v4 : Int32) (z : Nat) (hI_601_ad5 : hI S 601 (ad 5) = nI z) (lk : Nat) (hI_607_ad5 : hI S 607 (ad 5) = nI lk) (hl : lk + 4 ≤ z) (hz : z + 170 ≤ 60000) : Ct 4 yX6_writeDirectory cX6_writeDirectory 6 none 0 0 [.ref (ad 5), .int v1, .int v2, .int v3, .int v4] S (fun r S' => r = none ∧ Fm (fun f9 b9 => (f9 = 601 ∧ b9 = (ad 5)) ∨ (f9 = 607 ∧ b9 = (ad 5))) (fun _ _ => False) (fun b9 => b9 = (ad 7)) S S') := by
  refine ct_of (by decide) (Nat.le_of_ble_eq_true rfl) fun x hn9 C M hm9 => ?_
  have C : CB x RX6 cX6_writeDirectory := C
  refine J.eq (lv' := [(0, .ref (ad 5)), (1, .int v1), (2, .int v2), (3, .int v3), (4, .int v4)]) rfl rfl rfl ?_
  refine j_aload_n C dX6_writeDirectory_0 rfl 0 rfl ?_
  refine j_aload_n C dX6_writeDirectory_1 rfl 0 rfl ?_
  refine j_geti (f := 607) (v := nI lk) C flX6_63 dX6_writeDirectory_2 (wm_5 (S := S) hW) (wk_5 (S := S) hW) (by decide) (by decide) rfl hI_607_ad5 ?_
  refine j_aload_n C dX6_writeDirectory_5 rfl 0 rfl ?_
  refine j_geti (f := 601) (v := nI z) C flX6_28 dX6_writeDirectory_6 (wm_5 (S := S) hW) (wk_5 (S := S) hW) (by decide) (by decide) rfl hI_601_ad5 ?_
  refine j_callV (ci := 6) C [.int (nI lk), .int (nI z)] [] mlX6_91 mcX6_setNumber (c_X6_setNumber S ad hW lk (nI z) z hI_601_ad5 (by omega) (by omega)) (wm_5 (S := S) hW) (wk_5 (S := S) hW) rfl (M.rm (by decide) (by decide) (Nat.le_of_ble_eq_true rfl) (Nat.le_of_ble_eq_true rfl)) rfl rfl (Nat.le_of_ble_eq_true rfl) dX6_writeDirectory_9 (fun r_1 S_2 hp_3 => ?_)
  obtain ⟨rfl, hf_4⟩ := hp_3
  refine J.eq (st' := []) rfl rfl rfl ?_
  have hv_5 : hI S_2 601 (ad 5) = nI z := hf_4.fi (wm_5 (S := S) hW) (fun h9 => h9) hI_601_ad5
  have hv_6 : hI S_2 607 (ad 5) = nI lk := hf_4.fi (wm_5 (S := S) hW) (fun h9 => h9) hI_607_ad5
  have hf_7 : Fm (fun f9 b9 => (f9 = 601 ∧ b9 = (ad 5)) ∨ (f9 = 607 ∧ b9 = (ad 5))) (fun _ _ => False) (fun b9 => b9 = (ad 7)) S S_2 := (Fm.refl (WI := (fun f9 b9 => (f9 = 601 ∧ b9 = (ad 5)) ∨ (f9 = 607 ∧ b9 = (ad 5)))) (WR := (fun _ _ => False)) (WA := (fun b9 => b9 = (ad 7)))).then hf_4 (fun a9 ha9 => ⟨(fun f9 h9 => h9.elim), (fun f9 h9 => h9.elim), (fun h9 => (fun h8 => h8) h9)⟩)
  have hW_8 : Wd ad S_2 := hW.fm hf_4 (by intro _ _ h9; exact h9) (by intro p9 hp9; simp only [wqL, List.mem_cons, List.not_mem_nil, or_false] at hp9; rcases hp9 with rfl | rfl <;> intro h9 <;> skip <;> exact absurd h9 (wn hW (by decide) (by decide) (by decide)))
  refine j_aload_n C dX6_writeDirectory_12 rfl 0 rfl ?_
  refine j_geti (f := 601) (v := nI z) C flX6_28 dX6_writeDirectory_13 (wm_5 (S := S_2) hW_8) (wk_5 (S := S_2) hW_8) (by decide) (by decide) rfl hv_5 ?_
  show J _ _ _ _ _ 16 _
  refine j_iconst (v := 2) C dX6_writeDirectory_16 (by decide) ?_
  refine j_iadd (v := nI (z + 2)) C dX6_writeDirectory_17 (nI_add z 2) ?_
  refine j_sipush (v := 156) C dX6_writeDirectory_18 (by decide) ?_
  refine j_iadd (v := nI ((z + 2) + 156)) C dX6_writeDirectory_21 (nI_add (z + 2) 156) ?_
  refine j_iconst (v := 4) C dX6_writeDirectory_22 (by decide) ?_
  refine j_iadd (v := nI (((z + 2) + 156) + 4)) C dX6_writeDirectory_23 (nI_add ((z + 2) + 156) 4) ?_
  refine j_istore (lv' := [(5, .int (nI (((z + 2) + 156) + 4))), (0, .ref (ad 5)), (1, .int v1), (2, .int v2), (3, .int v3), (4, .int v4)]) C dX6_writeDirectory_24 (by rw [hn9]; decide) rfl ?_
  refine j_aload_n C dX6_writeDirectory_26 rfl 1 rfl ?_
  show J _ _ _ _ _ 27 _
  refine j_bipush (v := 13) C dX6_writeDirectory_27 (by decide) ?_
  refine j_iconst (v := 2) C dX6_writeDirectory_29 (by decide) ?_
  refine j_callV (ci := 6) C [.int 13, .int 2] [] mlX6_59 mcX6_putNumber (c_pn2 S_2 ad hW_8 13 z hv_5 (by omega)) (wm_5 (S := S_2) hW_8) (wk_5 (S := S_2) hW_8) rfl (M.rm (by decide) (by decide) (Nat.le_of_ble_eq_true rfl) (Nat.le_of_ble_eq_true rfl)) rfl rfl (Nat.le_of_ble_eq_true rfl) dX6_writeDirectory_30 (fun r_10 S_11 hp_12 => ?_)
  obtain ⟨rfl, hf_13, e_9⟩ := hp_12
  refine J.eq (st' := []) rfl rfl rfl ?_
  have hv_14 : hI S_11 607 (ad 5) = nI lk := hf_13.fi (wm_5 (S := S_2) hW_8) (fun q9 => absurd q9.1 (by decide)) hv_6
  have hf_15 : Fm (fun f9 b9 => (f9 = 601 ∧ b9 = (ad 5)) ∨ (f9 = 607 ∧ b9 = (ad 5))) (fun _ _ => False) (fun b9 => b9 = (ad 7)) S S_11 := hf_7.then hf_13 (fun a9 ha9 => ⟨(fun f9 h9 => (fun h8 => (Or.inl h8)) h9), (fun f9 h9 => h9.elim), (fun h9 => (fun h8 => h8) h9)⟩)
  have hW_16 : Wd ad S_11 := hW_8.fm hf_13 (by intro _ _ h9; exact h9) (by intro p9 hp9; simp only [wqL, List.mem_cons, List.not_mem_nil, or_false] at hp9; rcases hp9 with rfl | rfl <;> intro h9 <;> skip <;> exact absurd h9 (wn hW_8 (by decide) (by decide) (by decide)))
  refine j_aload_n C dX6_writeDirectory_33 rfl 1 rfl ?_
  refine j_sipush (v := 256) C dX6_writeDirectory_34 (by decide) ?_
  refine j_iconst (v := 4) C dX6_writeDirectory_37 (by decide) ?_
  refine j_iload_n C dX6_writeDirectory_38 rfl 2 rfl ?_
  refine j_callV (ci := 6) C [.int 256, .int 4, .int v1] [] mlX6_94 mcX6_putEntry (c_X6_putEntry S_11 ad hW_16 256 4 v1 (z + 2) e_9 (by omega)) (wm_5 (S := S_11) hW_16) (wk_5 (S := S_11) hW_16) rfl (M.rm (by decide) (by decide) (Nat.le_of_ble_eq_true rfl) (Nat.le_of_ble_eq_true rfl)) rfl rfl (Nat.le_of_ble_eq_true rfl) dX6_writeDirectory_39 (fun r_18 S_19 hp_20 => ?_)
  obtain ⟨rfl, hf_21, e_17⟩ := hp_20
  refine J.eq (st' := []) rfl rfl rfl ?_
  have hv_22 : hI S_19 607 (ad 5) = nI lk := hf_21.fi (wm_5 (S := S_11) hW_16) (fun q9 => absurd q9.1 (by decide)) hv_14
  have hf_23 : Fm (fun f9 b9 => (f9 = 601 ∧ b9 = (ad 5)) ∨ (f9 = 607 ∧ b9 = (ad 5))) (fun _ _ => False) (fun b9 => b9 = (ad 7)) S S_19 := hf_15.then hf_21 (fun a9 ha9 => ⟨(fun f9 h9 => (fun h8 => (Or.inl h8)) h9), (fun f9 h9 => h9.elim), (fun h9 => (fun h8 => h8) h9)⟩)
  have hW_24 : Wd ad S_19 := hW_16.fm hf_21 (by intro _ _ h9; exact h9) (by intro p9 hp9; simp only [wqL, List.mem_cons, List.not_mem_nil, or_false] at hp9; rcases hp9 with rfl | rfl <;> intro h9 <;> skip <;> exact absurd h9 (wn hW_16 (by decide) (by decide) (by decide)))
  show J _ _ _ _ _ 42 _
  refine j_aload_n C dX6_writeDirectory_42 rfl 1 rfl ?_
  refine j_sipush (v := 257) C dX6_writeDirectory_43 (by decide) ?_
  refine j_iconst (v := 4) C dX6_writeDirectory_46 (by decide) ?_
  refine j_iload_n C dX6_writeDirectory_47 rfl 3 rfl ?_
  refine j_callV (ci := 6) C [.int 257, .int 4, .int v2] [] mlX6_94 mcX6_putEntry (c_X6_putEntry S_19 ad hW_24 257 4 v2 ((z + 2) + 12) e_17 (by omega)) (wm_5 (S := S_19) hW_24) (wk_5 (S := S_19) hW_24) rfl (M.rm (by decide) (by decide) (Nat.le_of_ble_eq_true rfl) (Nat.le_of_ble_eq_true rfl)) rfl rfl (Nat.le_of_ble_eq_true rfl) dX6_writeDirectory_48 (fun r_26 S_27 hp_28 => ?_)
  obtain ⟨rfl, hf_29, e_25⟩ := hp_28
  refine J.eq (st' := []) rfl rfl rfl ?_
  have hv_30 : hI S_27 607 (ad 5) = nI lk := hf_29.fi (wm_5 (S := S_19) hW_24) (fun q9 => absurd q9.1 (by decide)) hv_22
  have hf_31 : Fm (fun f9 b9 => (f9 = 601 ∧ b9 = (ad 5)) ∨ (f9 = 607 ∧ b9 = (ad 5))) (fun _ _ => False) (fun b9 => b9 = (ad 7)) S S_27 := hf_23.then hf_29 (fun a9 ha9 => ⟨(fun f9 h9 => (fun h8 => (Or.inl h8)) h9), (fun f9 h9 => h9.elim), (fun h9 => (fun h8 => h8) h9)⟩)
  have hW_32 : Wd ad S_27 := hW_24.fm hf_29 (by intro _ _ h9; exact h9) (by intro p9 hp9; simp only [wqL, List.mem_cons, List.not_mem_nil, or_false] at hp9; rcases hp9 with rfl | rfl <;> intro h9 <;> skip <;> exact absurd h9 (wn hW_24 (by decide) (by decide) (by decide)))
  refine j_aload_n C dX6_writeDirectory_51 rfl 1 rfl ?_
  refine j_sipush (v := 258) C dX6_writeDirectory_52 (by decide) ?_
  refine j_iconst (v := 3) C dX6_writeDirectory_55 (by decide) ?_
  show J _ _ _ _ _ 56 _
  refine j_iconst (v := 1) C dX6_writeDirectory_56 (by decide) ?_
  refine j_callV (ci := 6) C [.int 258, .int 3, .int 1] [] mlX6_94 mcX6_putEntry (c_X6_putEntry S_27 ad hW_32 258 3 1 (((z + 2) + 12) + 12) e_25 (by omega)) (wm_5 (S := S_27) hW_32) (wk_5 (S := S_27) hW_32) rfl (M.rm (by decide) (by decide) (Nat.le_of_ble_eq_true rfl) (Nat.le_of_ble_eq_true rfl)) rfl rfl (Nat.le_of_ble_eq_true rfl) dX6_writeDirectory_57 (fun r_34 S_35 hp_36 => ?_)
  obtain ⟨rfl, hf_37, e_33⟩ := hp_36
  refine J.eq (st' := []) rfl rfl rfl ?_
  have hv_38 : hI S_35 607 (ad 5) = nI lk := hf_37.fi (wm_5 (S := S_27) hW_32) (fun q9 => absurd q9.1 (by decide)) hv_30
  have hf_39 : Fm (fun f9 b9 => (f9 = 601 ∧ b9 = (ad 5)) ∨ (f9 = 607 ∧ b9 = (ad 5))) (fun _ _ => False) (fun b9 => b9 = (ad 7)) S S_35 := hf_31.then hf_37 (fun a9 ha9 => ⟨(fun f9 h9 => (fun h8 => (Or.inl h8)) h9), (fun f9 h9 => h9.elim), (fun h9 => (fun h8 => h8) h9)⟩)
  have hW_40 : Wd ad S_35 := hW_32.fm hf_37 (by intro _ _ h9; exact h9) (by intro p9 hp9; simp only [wqL, List.mem_cons, List.not_mem_nil, or_false] at hp9; rcases hp9 with rfl | rfl <;> intro h9 <;> skip <;> exact absurd h9 (wn hW_32 (by decide) (by decide) (by decide)))
  refine j_aload_n C dX6_writeDirectory_60 rfl 1 rfl ?_
  refine j_sipush (v := 259) C dX6_writeDirectory_61 (by decide) ?_
  refine j_iconst (v := 3) C dX6_writeDirectory_64 (by decide) ?_
  refine j_iconst (v := 4) C dX6_writeDirectory_65 (by decide) ?_
  refine j_callV (ci := 6) C [.int 259, .int 3, .int 4] [] mlX6_94 mcX6_putEntry (c_X6_putEntry S_35 ad hW_40 259 3 4 ((((z + 2) + 12) + 12) + 12) e_33 (by omega)) (wm_5 (S := S_35) hW_40) (wk_5 (S := S_35) hW_40) rfl (M.rm (by decide) (by decide) (Nat.le_of_ble_eq_true rfl) (Nat.le_of_ble_eq_true rfl)) rfl rfl (Nat.le_of_ble_eq_true rfl) dX6_writeDirectory_66 (fun r_42 S_43 hp_44 => ?_)
  obtain ⟨rfl, hf_45, e_41⟩ := hp_44
  refine J.eq (st' := []) rfl rfl rfl ?_
  have hv_46 : hI S_43 607 (ad 5) = nI lk := hf_45.fi (wm_5 (S := S_35) hW_40) (fun q9 => absurd q9.1 (by decide)) hv_38
  have hf_47 : Fm (fun f9 b9 => (f9 = 601 ∧ b9 = (ad 5)) ∨ (f9 = 607 ∧ b9 = (ad 5))) (fun _ _ => False) (fun b9 => b9 = (ad 7)) S S_43 := hf_39.then hf_45 (fun a9 ha9 => ⟨(fun f9 h9 => (fun h8 => (Or.inl h8)) h9), (fun f9 h9 => h9.elim), (fun h9 => (fun h8 => h8) h9)⟩)
  have hW_48 : Wd ad S_43 := hW_40.fm hf_45 (by intro _ _ h9; exact h9) (by intro p9 hp9; simp only [wqL, List.mem_cons, List.not_mem_nil, or_false] at hp9; rcases hp9 with rfl | rfl <;> intro h9 <;> skip <;> exact absurd h9 (wn hW_40 (by decide) (by decide) (by decide)))
  refine j_aload_n C dX6_writeDirectory_69 rfl 1 rfl ?_
  show J _ _ _ _ _ 70 _
  refine j_sipush (v := 262) C dX6_writeDirectory_70 (by decide) ?_
  refine j_iconst (v := 3) C dX6_writeDirectory_73 (by decide) ?_
  refine j_iconst (v := 0) C dX6_writeDirectory_74 (by decide) ?_
  refine j_callV (ci := 6) C [.int 262, .int 3, .int 0] [] mlX6_94 mcX6_putEntry (c_X6_putEntry S_43 ad hW_48 262 3 0 (((((z + 2) + 12) + 12) + 12) + 12) e_41 (by omega)) (wm_5 (S := S_43) hW_48) (wk_5 (S := S_43) hW_48) rfl (M.rm (by decide) (by decide) (Nat.le_of_ble_eq_true rfl) (Nat.le_of_ble_eq_true rfl)) rfl rfl (Nat.le_of_ble_eq_true rfl) dX6_writeDirectory_75 (fun r_50 S_51 hp_52 => ?_)
  obtain ⟨rfl, hf_53, e_49⟩ := hp_52
  refine J.eq (st' := []) rfl rfl rfl ?_
  have hv_54 : hI S_51 607 (ad 5) = nI lk := hf_53.fi (wm_5 (S := S_43) hW_48) (fun q9 => absurd q9.1 (by decide)) hv_46
  have hf_55 : Fm (fun f9 b9 => (f9 = 601 ∧ b9 = (ad 5)) ∨ (f9 = 607 ∧ b9 = (ad 5))) (fun _ _ => False) (fun b9 => b9 = (ad 7)) S S_51 := hf_47.then hf_53 (fun a9 ha9 => ⟨(fun f9 h9 => (fun h8 => (Or.inl h8)) h9), (fun f9 h9 => h9.elim), (fun h9 => (fun h8 => h8) h9)⟩)
  have hW_56 : Wd ad S_51 := hW_48.fm hf_53 (by intro _ _ h9; exact h9) (by intro p9 hp9; simp only [wqL, List.mem_cons, List.not_mem_nil, or_false] at hp9; rcases hp9 with rfl | rfl <;> intro h9 <;> skip <;> exact absurd h9 (wn hW_48 (by decide) (by decide) (by decide)))
  refine j_aload_n C dX6_writeDirectory_78 rfl 1 rfl ?_
  refine j_sipush (v := 273) C dX6_writeDirectory_79 (by decide) ?_
  refine j_iconst (v := 4) C dX6_writeDirectory_82 (by decide) ?_
  refine j_iload_n C dX6_writeDirectory_83 rfl 4 rfl ?_
  show J _ _ _ _ _ 84 _
  refine j_callV (ci := 6) C [.int 273, .int 4, .int v3] [] mlX6_94 mcX6_putEntry (c_X6_putEntry S_51 ad hW_56 273 4 v3 ((((((z + 2) + 12) + 12) + 12) + 12) + 12) e_49 (by omega)) (wm_5 (S := S_51) hW_56) (wk_5 (S := S_51) hW_56) rfl (M.rm (by decide) (by decide) (Nat.le_of_ble_eq_true rfl) (Nat.le_of_ble_eq_true rfl)) rfl rfl (Nat.le_of_ble_eq_true rfl) dX6_writeDirectory_84 (fun r_58 S_59 hp_60 => ?_)
  obtain ⟨rfl, hf_61, e_57⟩ := hp_60
  refine J.eq (st' := []) rfl rfl rfl ?_
  have hv_62 : hI S_59 607 (ad 5) = nI lk := hf_61.fi (wm_5 (S := S_51) hW_56) (fun q9 => absurd q9.1 (by decide)) hv_54
  have hf_63 : Fm (fun f9 b9 => (f9 = 601 ∧ b9 = (ad 5)) ∨ (f9 = 607 ∧ b9 = (ad 5))) (fun _ _ => False) (fun b9 => b9 = (ad 7)) S S_59 := hf_55.then hf_61 (fun a9 ha9 => ⟨(fun f9 h9 => (fun h8 => (Or.inl h8)) h9), (fun f9 h9 => h9.elim), (fun h9 => (fun h8 => h8) h9)⟩)
  have hW_64 : Wd ad S_59 := hW_56.fm hf_61 (by intro _ _ h9; exact h9) (by intro p9 hp9; simp only [wqL, List.mem_cons, List.not_mem_nil, or_false] at hp9; rcases hp9 with rfl | rfl <;> intro h9 <;> skip <;> exact absurd h9 (wn hW_56 (by decide) (by decide) (by decide)))
  refine j_aload_n C dX6_writeDirectory_87 rfl 1 rfl ?_
  refine j_sipush (v := 277) C dX6_writeDirectory_88 (by decide) ?_
  refine j_iconst (v := 3) C dX6_writeDirectory_91 (by decide) ?_
  refine j_iconst (v := 1) C dX6_writeDirectory_92 (by decide) ?_
  refine j_callV (ci := 6) C [.int 277, .int 3, .int 1] [] mlX6_94 mcX6_putEntry (c_X6_putEntry S_59 ad hW_64 277 3 1 (((((((z + 2) + 12) + 12) + 12) + 12) + 12) + 12) e_57 (by omega)) (wm_5 (S := S_59) hW_64) (wk_5 (S := S_59) hW_64) rfl (M.rm (by decide) (by decide) (Nat.le_of_ble_eq_true rfl) (Nat.le_of_ble_eq_true rfl)) rfl rfl (Nat.le_of_ble_eq_true rfl) dX6_writeDirectory_93 (fun r_66 S_67 hp_68 => ?_)
  obtain ⟨rfl, hf_69, e_65⟩ := hp_68
  refine J.eq (st' := []) rfl rfl rfl ?_
  have hv_70 : hI S_67 607 (ad 5) = nI lk := hf_69.fi (wm_5 (S := S_59) hW_64) (fun q9 => absurd q9.1 (by decide)) hv_62
  have hf_71 : Fm (fun f9 b9 => (f9 = 601 ∧ b9 = (ad 5)) ∨ (f9 = 607 ∧ b9 = (ad 5))) (fun _ _ => False) (fun b9 => b9 = (ad 7)) S S_67 := hf_63.then hf_69 (fun a9 ha9 => ⟨(fun f9 h9 => (fun h8 => (Or.inl h8)) h9), (fun f9 h9 => h9.elim), (fun h9 => (fun h8 => h8) h9)⟩)
  have hW_72 : Wd ad S_67 := hW_64.fm hf_69 (by intro _ _ h9; exact h9) (by intro p9 hp9; simp only [wqL, List.mem_cons, List.not_mem_nil, or_false] at hp9; rcases hp9 with rfl | rfl <;> intro h9 <;> skip <;> exact absurd h9 (wn hW_64 (by decide) (by decide) (by decide)))
  refine j_aload_n C dX6_writeDirectory_96 rfl 1 rfl ?_
  refine j_sipush (v := 278) C dX6_writeDirectory_97 (by decide) ?_
  show J _ _ _ _ _ 100 _
  refine j_iconst (v := 4) C dX6_writeDirectory_100 (by decide) ?_
  refine j_iload_n C dX6_writeDirectory_101 rfl 3 rfl ?_
  refine j_callV (ci := 6) C [.int 278, .int 4, .int v2] [] mlX6_94 mcX6_putEntry (c_X6_putEntry S_67 ad hW_72 278 4 v2 ((((((((z + 2) + 12) + 12) + 12) + 12) + 12) + 12) + 12) e_65 (by omega)) (wm_5 (S := S_67) hW_72) (wk_5 (S := S_67) hW_72) rfl (M.rm (by decide) (by decide) (Nat.le_of_ble_eq_true rfl) (Nat.le_of_ble_eq_true rfl)) rfl rfl (Nat.le_of_ble_eq_true rfl) dX6_writeDirectory_102 (fun r_74 S_75 hp_76 => ?_)
  obtain ⟨rfl, hf_77, e_73⟩ := hp_76
  refine J.eq (st' := []) rfl rfl rfl ?_
  have hv_78 : hI S_75 607 (ad 5) = nI lk := hf_77.fi (wm_5 (S := S_67) hW_72) (fun q9 => absurd q9.1 (by decide)) hv_70
  have hf_79 : Fm (fun f9 b9 => (f9 = 601 ∧ b9 = (ad 5)) ∨ (f9 = 607 ∧ b9 = (ad 5))) (fun _ _ => False) (fun b9 => b9 = (ad 7)) S S_75 := hf_71.then hf_77 (fun a9 ha9 => ⟨(fun f9 h9 => (fun h8 => (Or.inl h8)) h9), (fun f9 h9 => h9.elim), (fun h9 => (fun h8 => h8) h9)⟩)
  have hW_80 : Wd ad S_75 := hW_72.fm hf_77 (by intro _ _ h9; exact h9) (by intro p9 hp9; simp only [wqL, List.mem_cons, List.not_mem_nil, or_false] at hp9; rcases hp9 with rfl | rfl <;> intro h9 <;> skip <;> exact absurd h9 (wn hW_72 (by decide) (by decide) (by decide)))
  refine j_aload_n C dX6_writeDirectory_105 rfl 1 rfl ?_
  refine j_sipush (v := 279) C dX6_writeDirectory_106 (by decide) ?_
  refine j_iconst (v := 4) C dX6_writeDirectory_109 (by decide) ?_
  refine j_iload C dX6_writeDirectory_110 5 rfl ?_
  refine j_callV (ci := 6) C [.int 279, .int 4, .int v4] [] mlX6_94 mcX6_putEntry (c_X6_putEntry S_75 ad hW_80 279 4 v4 (((((((((z + 2) + 12) + 12) + 12) + 12) + 12) + 12) + 12) + 12) e_73 (by omega)) (wm_5 (S := S_75) hW_80) (wk_5 (S := S_75) hW_80) rfl (M.rm (by decide) (by decide) (Nat.le_of_ble_eq_true rfl) (Nat.le_of_ble_eq_true rfl)) rfl rfl (Nat.le_of_ble_eq_true rfl) dX6_writeDirectory_112 (fun r_82 S_83 hp_84 => ?_)
  obtain ⟨rfl, hf_85, e_81⟩ := hp_84
  refine J.eq (st' := []) rfl rfl rfl ?_
  have hv_86 : hI S_83 607 (ad 5) = nI lk := hf_85.fi (wm_5 (S := S_75) hW_80) (fun q9 => absurd q9.1 (by decide)) hv_78
  have hf_87 : Fm (fun f9 b9 => (f9 = 601 ∧ b9 = (ad 5)) ∨ (f9 = 607 ∧ b9 = (ad 5))) (fun _ _ => False) (fun b9 => b9 = (ad 7)) S S_83 := hf_79.then hf_85 (fun a9 ha9 => ⟨(fun f9 h9 => (fun h8 => (Or.inl h8)) h9), (fun f9 h9 => h9.elim), (fun h9 => (fun h8 => h8) h9)⟩)
  have hW_88 : Wd ad S_83 := hW_80.fm hf_85 (by intro _ _ h9; exact h9) (by intro p9 hp9; simp only [wqL, List.mem_cons, List.not_mem_nil, or_false] at hp9; rcases hp9 with rfl | rfl <;> intro h9 <;> skip <;> exact absurd h9 (wn hW_80 (by decide) (by decide) (by decide)))
  show J _ _ _ _ _ 115 _
  refine j_aload_n C dX6_writeDirectory_115 rfl 1 rfl ?_
  refine j_sipush (v := 282) C dX6_writeDirectory_116 (by decide) ?_
  refine j_iconst (v := 5) C dX6_writeDirectory_119 (by decide) ?_
  refine j_iload C dX6_writeDirectory_120 0 rfl ?_
  refine j_callV (ci := 6) C [.int 282, .int 5, .int (nI (((z + 2) + 156) + 4))] [] mlX6_94 mcX6_putEntry (c_X6_putEntry S_83 ad hW_88 282 5 (nI (((z + 2) + 156) + 4)) ((((((((((z + 2) + 12) + 12) + 12) + 12) + 12) + 12) + 12) + 12) + 12) e_81 (by omega)) (wm_5 (S := S_83) hW_88) (wk_5 (S := S_83) hW_88) rfl (M.rm (by decide) (by decide) (Nat.le_of_ble_eq_true rfl) (Nat.le_of_ble_eq_true rfl)) rfl rfl (Nat.le_of_ble_eq_true rfl) dX6_writeDirectory_122 (fun r_90 S_91 hp_92 => ?_)
  obtain ⟨rfl, hf_93, e_89⟩ := hp_92
  refine J.eq (st' := []) rfl rfl rfl ?_
  have hv_94 : hI S_91 607 (ad 5) = nI lk := hf_93.fi (wm_5 (S := S_83) hW_88) (fun q9 => absurd q9.1 (by decide)) hv_86
  have hf_95 : Fm (fun f9 b9 => (f9 = 601 ∧ b9 = (ad 5)) ∨ (f9 = 607 ∧ b9 = (ad 5))) (fun _ _ => False) (fun b9 => b9 = (ad 7)) S S_91 := hf_87.then hf_93 (fun a9 ha9 => ⟨(fun f9 h9 => (fun h8 => (Or.inl h8)) h9), (fun f9 h9 => h9.elim), (fun h9 => (fun h8 => h8) h9)⟩)
  have hW_96 : Wd ad S_91 := hW_88.fm hf_93 (by intro _ _ h9; exact h9) (by intro p9 hp9; simp only [wqL, List.mem_cons, List.not_mem_nil, or_false] at hp9; rcases hp9 with rfl | rfl <;> intro h9 <;> skip <;> exact absurd h9 (wn hW_88 (by decide) (by decide) (by decide)))
  refine j_aload_n C dX6_writeDirectory_125 rfl 1 rfl ?_
  refine j_sipush (v := 283) C dX6_writeDirectory_126 (by decide) ?_
  refine j_iconst (v := 5) C dX6_writeDirectory_129 (by decide) ?_
  show J _ _ _ _ _ 130 _
  refine j_iload C dX6_writeDirectory_130 0 rfl ?_
  refine j_callV (ci := 6) C [.int 283, .int 5, .int (nI (((z + 2) + 156) + 4))] [] mlX6_94 mcX6_putEntry (c_X6_putEntry S_91 ad hW_96 283 5 (nI (((z + 2) + 156) + 4)) (((((((((((z + 2) + 12) + 12) + 12) + 12) + 12) + 12) + 12) + 12) + 12) + 12) e_89 (by omega)) (wm_5 (S := S_91) hW_96) (wk_5 (S := S_91) hW_96) rfl (M.rm (by decide) (by decide) (Nat.le_of_ble_eq_true rfl) (Nat.le_of_ble_eq_true rfl)) rfl rfl (Nat.le_of_ble_eq_true rfl) dX6_writeDirectory_132 (fun r_98 S_99 hp_100 => ?_)
  obtain ⟨rfl, hf_101, e_97⟩ := hp_100
  refine J.eq (st' := []) rfl rfl rfl ?_
  have hv_102 : hI S_99 607 (ad 5) = nI lk := hf_101.fi (wm_5 (S := S_91) hW_96) (fun q9 => absurd q9.1 (by decide)) hv_94
  have hf_103 : Fm (fun f9 b9 => (f9 = 601 ∧ b9 = (ad 5)) ∨ (f9 = 607 ∧ b9 = (ad 5))) (fun _ _ => False) (fun b9 => b9 = (ad 7)) S S_99 := hf_95.then hf_101 (fun a9 ha9 => ⟨(fun f9 h9 => (fun h8 => (Or.inl h8)) h9), (fun f9 h9 => h9.elim), (fun h9 => (fun h8 => h8) h9)⟩)
  have hW_104 : Wd ad S_99 := hW_96.fm hf_101 (by intro _ _ h9; exact h9) (by intro p9 hp9; simp only [wqL, List.mem_cons, List.not_mem_nil, or_false] at hp9; rcases hp9 with rfl | rfl <;> intro h9 <;> skip <;> exact absurd h9 (wn hW_96 (by decide) (by decide) (by decide)))
  refine j_aload_n C dX6_writeDirectory_135 rfl 1 rfl ?_
  refine j_sipush (v := 293) C dX6_writeDirectory_136 (by decide) ?_
  refine j_iconst (v := 4) C dX6_writeDirectory_139 (by decide) ?_
  refine j_iconst (v := 0) C dX6_writeDirectory_140 (by decide) ?_
  refine j_callV (ci := 6) C [.int 293, .int 4, .int 0] [] mlX6_94 mcX6_putEntry (c_X6_putEntry S_99 ad hW_104 293 4 0 ((((((((((((z + 2) + 12) + 12) + 12) + 12) + 12) + 12) + 12) + 12) + 12) + 12) + 12) e_97 (by omega)) (wm_5 (S := S_99) hW_104) (wk_5 (S := S_99) hW_104) rfl (M.rm (by decide) (by decide) (Nat.le_of_ble_eq_true rfl) (Nat.le_of_ble_eq_true rfl)) rfl rfl (Nat.le_of_ble_eq_true rfl) dX6_writeDirectory_141 (fun r_106 S_107 hp_108 => ?_)
  obtain ⟨rfl, hf_109, e_105⟩ := hp_108
  refine J.eq (st' := []) rfl rfl rfl ?_
  have hv_110 : hI S_107 607 (ad 5) = nI lk := hf_109.fi (wm_5 (S := S_99) hW_104) (fun q9 => absurd q9.1 (by decide)) hv_102
  have hf_111 : Fm (fun f9 b9 => (f9 = 601 ∧ b9 = (ad 5)) ∨ (f9 = 607 ∧ b9 = (ad 5))) (fun _ _ => False) (fun b9 => b9 = (ad 7)) S S_107 := hf_103.then hf_109 (fun a9 ha9 => ⟨(fun f9 h9 => (fun h8 => (Or.inl h8)) h9), (fun f9 h9 => h9.elim), (fun h9 => (fun h8 => h8) h9)⟩)
  have hW_112 : Wd ad S_107 := hW_104.fm hf_109 (by intro _ _ h9; exact h9) (by intro p9 hp9; simp only [wqL, List.mem_cons, List.not_mem_nil, or_false] at hp9; rcases hp9 with rfl | rfl <;> intro h9 <;> skip <;> exact absurd h9 (wn hW_104 (by decide) (by decide) (by decide)))
  refine j_aload_n C dX6_writeDirectory_144 rfl 1 rfl ?_
  show J _ _ _ _ _ 145 _
  refine j_sipush (v := 296) C dX6_writeDirectory_145 (by decide) ?_
  refine j_iconst (v := 3) C dX6_writeDirectory_148 (by decide) ?_
  refine j_iconst (v := 2) C dX6_writeDirectory_149 (by decide) ?_
  refine j_callV (ci := 6) C [.int 296, .int 3, .int 2] [] mlX6_94 mcX6_putEntry (c_X6_putEntry S_107 ad hW_112 296 3 2 (((((((((((((z + 2) + 12) + 12) + 12) + 12) + 12) + 12) + 12) + 12) + 12) + 12) + 12) + 12) e_105 (by omega)) (wm_5 (S := S_107) hW_112) (wk_5 (S := S_107) hW_112) rfl (M.rm (by decide) (by decide) (Nat.le_of_ble_eq_true rfl) (Nat.le_of_ble_eq_true rfl)) rfl rfl (Nat.le_of_ble_eq_true rfl) dX6_writeDirectory_150 (fun r_114 S_115 hp_116 => ?_)
  obtain ⟨rfl, hf_117, e_113⟩ := hp_116
  refine J.eq (st' := []) rfl rfl rfl ?_
  have hv_118 : hI S_115 607 (ad 5) = nI lk := hf_117.fi (wm_5 (S := S_107) hW_112) (fun q9 => absurd q9.1 (by decide)) hv_110
  have hf_119 : Fm (fun f9 b9 => (f9 = 601 ∧ b9 = (ad 5)) ∨ (f9 = 607 ∧ b9 = (ad 5))) (fun _ _ => False) (fun b9 => b9 = (ad 7)) S S_115 := hf_111.then hf_117 (fun a9 ha9 => ⟨(fun f9 h9 => (fun h8 => (Or.inl h8)) h9), (fun f9 h9 => h9.elim), (fun h9 => (fun h8 => h8) h9)⟩)
  have hW_120 : Wd ad S_115 := hW_112.fm hf_117 (by intro _ _ h9; exact h9) (by intro p9 hp9; simp only [wqL, List.mem_cons, List.not_mem_nil, or_false] at hp9; rcases hp9 with rfl | rfl <;> intro h9 <;> skip <;> exact absurd h9 (wn hW_112 (by decide) (by decide) (by decide)))
  refine j_aload_n C dX6_writeDirectory_153 rfl 1 rfl ?_
  refine j_aload_n C dX6_writeDirectory_154 rfl 1 rfl ?_
  refine j_geti (f := 601) (v := nI ((((((((((((((z + 2) + 12) + 12) + 12) + 12) + 12) + 12) + 12) + 12) + 12) + 12) + 12) + 12) + 12)) C flX6_28 dX6_writeDirectory_155 (wm_5 (S := S_115) hW_120) (wk_5 (S := S_115) hW_120) (by decide) (by decide) rfl e_113 ?_
  refine j_puti (f := 607) C flX6_63 (by decide) rfl rfl dX6_writeDirectory_158 (wm_5 (S := S_115) hW_120) (wk_5 (S := S_115) hW_120) rfl ?_
  show J _ _ _ _ _ 161 _
  refine j_aload_n C dX6_writeDirectory_161 rfl 1 rfl ?_
  refine j_iconst (v := 0) C dX6_writeDirectory_162 (by decide) ?_
  refine j_iconst (v := 4) C dX6_writeDirectory_163 (by decide) ?_
  have hf_121 : Fm (fun f9 b9 => (f9 = 601 ∧ b9 = (ad 5)) ∨ (f9 = 607 ∧ b9 = (ad 5))) (fun _ _ => False) (fun b9 => b9 = (ad 7)) S (sI S_115 607 (ad 5) (nI ((((((((((((((z + 2) + 12) + 12) + 12) + 12) + 12) + 12) + 12) + 12) + 12) + 12) + 12) + 12) + 12))) := (hf_119.sI _ (fun _ => (Or.inr ⟨rfl, rfl⟩)))
  refine j_callV (ci := 6) C [.int 0, .int 4] [] mlX6_59 mcX6_putNumber (c_pn4 (sI S_115 607 (ad 5) (nI ((((((((((((((z + 2) + 12) + 12) + 12) + 12) + 12) + 12) + 12) + 12) + 12) + 12) + 12) + 12) + 12))) ad hW_120 0 ((((((((((((((z + 2) + 12) + 12) + 12) + 12) + 12) + 12) + 12) + 12) + 12) + 12) + 12) + 12) + 12) (rd_sIf (S := S_115) (g := 607) (a := (ad 5)) (v := nI ((((((((((((((z + 2) + 12) + 12) + 12) + 12) + 12) + 12) + 12) + 12) + 12) + 12) + 12) + 12) + 12)) (by decide) e_113) (by omega)) (wm_5 (S := S_115) hW_120) (wk_5 (S := S_115) hW_120) rfl (M.rm (by decide) (by decide) (Nat.le_of_ble_eq_true rfl) (Nat.le_of_ble_eq_true rfl)) rfl rfl (Nat.le_of_ble_eq_true rfl) dX6_writeDirectory_164 (fun r_123 S_124 hp_125 => ?_)
  obtain ⟨rfl, hf_126, e_122⟩ := hp_125
  refine J.eq (st' := []) rfl rfl rfl ?_
  have hv_127 : hI S_124 607 (ad 5) = nI ((((((((((((((z + 2) + 12) + 12) + 12) + 12) + 12) + 12) + 12) + 12) + 12) + 12) + 12) + 12) + 12) := hf_126.fi (wm_5 (S := S_115) hW_120) (fun q9 => absurd q9.1 (by decide)) (rd_sI (S := S_115) (g := 607) (a := (ad 5)) (v := nI ((((((((((((((z + 2) + 12) + 12) + 12) + 12) + 12) + 12) + 12) + 12) + 12) + 12) + 12) + 12) + 12)))
  have hf_128 : Fm (fun f9 b9 => (f9 = 601 ∧ b9 = (ad 5)) ∨ (f9 = 607 ∧ b9 = (ad 5))) (fun _ _ => False) (fun b9 => b9 = (ad 7)) S S_124 := hf_121.then hf_126 (fun a9 ha9 => ⟨(fun f9 h9 => (fun h8 => (Or.inl h8)) h9), (fun f9 h9 => h9.elim), (fun h9 => (fun h8 => h8) h9)⟩)
  have hW_129 : Wd ad S_124 := Wd.fm (Wd.sI hW_120) hf_126 (by intro _ _ h9; exact h9) (by intro p9 hp9; simp only [wqL, List.mem_cons, List.not_mem_nil, or_false] at hp9; rcases hp9 with rfl | rfl <;> intro h9 <;> skip <;> exact absurd h9 (wn hW_120 (by decide) (by decide) (by decide)))
  refine j_aload_n C dX6_writeDirectory_167 rfl 1 rfl ?_
  refine j_bipush (v := 75) C dX6_writeDirectory_168 (by decide) ?_
  refine j_iconst (v := 4) C dX6_writeDirectory_170 (by decide) ?_
  refine j_callV (ci := 6) C [.int 75, .int 4] [] mlX6_59 mcX6_putNumber (c_pn4 S_124 ad hW_129 75 (((((((((((((((z + 2) + 12) + 12) + 12) + 12) + 12) + 12) + 12) + 12) + 12) + 12) + 12) + 12) + 12) + 4) e_122 (by omega)) (wm_5 (S := S_124) hW_129) (wk_5 (S := S_124) hW_129) rfl (M.rm (by decide) (by decide) (Nat.le_of_ble_eq_true rfl) (Nat.le_of_ble_eq_true rfl)) rfl rfl (Nat.le_of_ble_eq_true rfl) dX6_writeDirectory_171 (fun r_131 S_132 hp_133 => ?_)
  obtain ⟨rfl, hf_134, e_130⟩ := hp_133
  refine J.eq (st' := []) rfl rfl rfl ?_
  have hv_135 : hI S_132 607 (ad 5) = nI ((((((((((((((z + 2) + 12) + 12) + 12) + 12) + 12) + 12) + 12) + 12) + 12) + 12) + 12) + 12) + 12) := hf_134.fi (wm_5 (S := S_124) hW_129) (fun q9 => absurd q9.1 (by decide)) hv_127
  have hf_136 : Fm (fun f9 b9 => (f9 = 601 ∧ b9 = (ad 5)) ∨ (f9 = 607 ∧ b9 = (ad 5))) (fun _ _ => False) (fun b9 => b9 = (ad 7)) S S_132 := hf_128.then hf_134 (fun a9 ha9 => ⟨(fun f9 h9 => (fun h8 => (Or.inl h8)) h9), (fun f9 h9 => h9.elim), (fun h9 => (fun h8 => h8) h9)⟩)
  have hW_137 : Wd ad S_132 := hW_129.fm hf_134 (by intro _ _ h9; exact h9) (by intro p9 hp9; simp only [wqL, List.mem_cons, List.not_mem_nil, or_false] at hp9; rcases hp9 with rfl | rfl <;> intro h9 <;> skip <;> exact absurd h9 (wn hW_129 (by decide) (by decide) (by decide)))
  show J _ _ _ _ _ 174 _
  refine j_aload_n C dX6_writeDirectory_174 rfl 1 rfl ?_
  refine j_iconst (v := 1) C dX6_writeDirectory_175 (by decide) ?_
  refine j_iconst (v := 4) C dX6_writeDirectory_176 (by decide) ?_
  refine j_callV (ci := 6) C [.int 1, .int 4] [] mlX6_59 mcX6_putNumber (c_pn4 S_132 ad hW_137 1 ((((((((((((((((z + 2) + 12) + 12) + 12) + 12) + 12) + 12) + 12) + 12) + 12) + 12) + 12) + 12) + 12) + 4) + 4) e_130 (by omega)) (wm_5 (S := S_132) hW_137) (wk_5 (S := S_132) hW_137) rfl (M.rm (by decide) (by decide) (Nat.le_of_ble_eq_true rfl) (Nat.le_of_ble_eq_true rfl)) rfl rfl (Nat.le_of_ble_eq_true rfl) dX6_writeDirectory_177 (fun r_139 S_140 hp_141 => ?_)
  obtain ⟨rfl, hf_142, e_138⟩ := hp_141
  refine J.eq (st' := []) rfl rfl rfl ?_
  have hv_143 : hI S_140 607 (ad 5) = nI ((((((((((((((z + 2) + 12) + 12) + 12) + 12) + 12) + 12) + 12) + 12) + 12) + 12) + 12) + 12) + 12) := hf_142.fi (wm_5 (S := S_132) hW_137) (fun q9 => absurd q9.1 (by decide)) hv_135
  have hf_144 : Fm (fun f9 b9 => (f9 = 601 ∧ b9 = (ad 5)) ∨ (f9 = 607 ∧ b9 = (ad 5))) (fun _ _ => False) (fun b9 => b9 = (ad 7)) S S_140 := hf_136.then hf_142 (fun a9 ha9 => ⟨(fun f9 h9 => (fun h8 => (Or.inl h8)) h9), (fun f9 h9 => h9.elim), (fun h9 => (fun h8 => h8) h9)⟩)
  have hW_145 : Wd ad S_140 := hW_137.fm hf_142 (by intro _ _ h9; exact h9) (by intro p9 hp9; simp only [wqL, List.mem_cons, List.not_mem_nil, or_false] at hp9; rcases hp9 with rfl | rfl <;> intro h9 <;> skip <;> exact absurd h9 (wn hW_137 (by decide) (by decide) (by decide)))
  exact j_vret C M dX6_writeDirectory_180 (Nat.le_of_ble_eq_true rfl) (Nat.le_of_ble_eq_true rfl) ⟨rfl, hf_144⟩

theorem dX6_putBits_0 : decode cX6_putBits 0 = .ok (.aload_n 0, 1) := by decide +kernel
theorem dX6_putBits_1 : decode cX6_putBits 1 = .ok (.aload_n 0, 1) := by decide +kernel
theorem dX6_putBits_2 : decode cX6_putBits 2 = .ok (.getfield 66, 3) := by decide +kernel
theorem dX6_putBits_5 : decode cX6_putBits 5 = .ok (.iload_n 2, 1) := by decide +kernel
theorem dX6_putBits_6 : decode cX6_putBits 6 = .ok (.ishl, 1) := by decide +kernel
theorem dX6_putBits_7 : decode cX6_putBits 7 = .ok (.iload_n 1, 1) := by decide +kernel
theorem dX6_putBits_8 : decode cX6_putBits 8 = .ok (.ior, 1) := by decide +kernel
theorem dX6_putBits_9 : decode cX6_putBits 9 = .ok (.putfield 66, 3) := by decide +kernel
theorem dX6_putBits_12 : decode cX6_putBits 12 = .ok (.aload_n 0, 1) := by decide +kernel
theorem dX6_putBits_13 : decode cX6_putBits 13 = .ok (.dup, 1) := by decide +kernel
theorem dX6_putBits_14 : decode cX6_putBits 14 = .ok (.getfield 69, 3) := by decide +kernel
theorem dX6_putBits_17 : decode cX6_putBits 17 = .ok (.iload_n 2, 1) := by decide +kernel
theorem dX6_putBits_18 : decode cX6_putBits 18 = .ok (.iadd, 1) := by decide +kernel
theorem dX6_putBits_19 : decode cX6_putBits 19 = .ok (.putfield 69, 3) := by decide +kernel
theorem dX6_putBits_22 : decode cX6_putBits 22 = .ok (.aload_n 0, 1) := by decide +kernel
theorem dX6_putBits_23 : decode cX6_putBits 23 = .ok (.getfield 69, 3) := by decide +kernel
theorem dX6_putBits_26 : decode cX6_putBits 26 = .ok (.bipush 8, 2) := by decide +kernel
theorem dX6_putBits_28 : decode cX6_putBits 28 = .ok (.if_icmp .lt 30, 3) := by decide +kernel
theorem dX6_putBits_31 : decode cX6_putBits 31 = .ok (.aload_n 0, 1) := by decide +kernel
theorem dX6_putBits_32 : decode cX6_putBits 32 = .ok (.dup, 1) := by decide +kernel
theorem dX6_putBits_33 : decode cX6_putBits 33 = .ok (.getfield 69, 3) := by decide +kernel
theorem dX6_putBits_36 : decode cX6_putBits 36 = .ok (.bipush 8, 2) := by decide +kernel
theorem dX6_putBits_38 : decode cX6_putBits 38 = .ok (.isub, 1) := by decide +kernel
theorem dX6_putBits_39 : decode cX6_putBits 39 = .ok (.putfield 69, 3) := by decide +kernel
theorem dX6_putBits_42 : decode cX6_putBits 42 = .ok (.aload_n 0, 1) := by decide +kernel
theorem dX6_putBits_43 : decode cX6_putBits 43 = .ok (.aload_n 0, 1) := by decide +kernel
theorem dX6_putBits_44 : decode cX6_putBits 44 = .ok (.getfield 66, 3) := by decide +kernel
theorem dX6_putBits_47 : decode cX6_putBits 47 = .ok (.aload_n 0, 1) := by decide +kernel
theorem dX6_putBits_48 : decode cX6_putBits 48 = .ok (.getfield 69, 3) := by decide +kernel
theorem dX6_putBits_51 : decode cX6_putBits 51 = .ok (.iushr, 1) := by decide +kernel
theorem dX6_putBits_52 : decode cX6_putBits 52 = .ok (.invokevirtual 83, 3) := by decide +kernel
theorem dX6_putBits_55 : decode cX6_putBits 55 = .ok (.goto (-33), 3) := by decide +kernel
theorem dX6_putBits_58 : decode cX6_putBits 58 = .ok (.return_, 1) := by decide +kernel

set_option maxRecDepth 100000 in
set_option maxHeartbeats 4000000 in
theorem c_pb0 (S : Hp) (ad : Nat → Nat) (hW : Wd ad S) (vb : Int32) (ct : Nat) (tb : Nat) (hI_601_ad5 : hI S 601 (ad 5) = nI (tb / 8)) (hI_609_ad5 : hI S 609 (ad 5) = nI (tb % 8)) (hc : ct ≤ 13) (ht : tb + ct < 480000) (hm : tb % 8 + ct < 8) : Ct 2 yX6_putBits cX6_putBits 3 none 0 0 [.ref (ad 5), .int vb, .int (nI ct)] S (fun r S' => r = none ∧ Fm (fun f9 b9 => (f9 = 601 ∧ b9 = (ad 5)) ∨ (f9 = 608 ∧ b9 = (ad 5)) ∨ (f9 = 609 ∧ b9 = (ad 5))) (fun _ _ => False) (fun b9 => b9 = (ad 7)) S S' ∧ hI S' 601 (ad 5) = nI ((tb + ct) / 8) ∧ hI S' 609 (ad 5) = nI ((tb + ct) % 8)) := by
  refine ct_of (by decide) (Nat.le_of_ble_eq_true rfl) fun x hn9 C M hm9 => ?_
  have C : CB x RX6 cX6_putBits := C
  refine J.eq (lv' := [(0, .ref (ad 5)), (1, .int vb), (2, .int (nI ct))]) rfl rfl rfl ?_
  refine j_aload_n C dX6_putBits_0 rfl 0 rfl ?_
  refine j_aload_n C dX6_putBits_1 rfl 0 rfl ?_
  refine j_geti (f := 608) (v := hI S 608 (ad 5)) C flX6_66 dX6_putBits_2 (wm_5 (S := S) hW) (wk_5 (S := S) hW) (by decide) (by decide) rfl rfl ?_
  refine j_iload_n C dX6_putBits_5 rfl 2 rfl ?_
  refine j_ishl C dX6_putBits_6 rfl ?_
  refine j_iload_n C dX6_putBits_7 rfl 1 rfl ?_
  refine j_ior C dX6_putBits_8 rfl ?_
  refine j_puti (f := 608) C flX6_66 (by decide) rfl rfl dX6_putBits_9 (wm_5 (S := S) hW) (wk_5 (S := S) hW) rfl ?_
  show J _ _ _ _ _ 12 _
  refine j_aload_n C dX6_putBits_12 rfl 0 rfl ?_
  refine j_dup C dX6_putBits_13 rfl ?_
  refine j_geti (f := 609) (v := nI (tb % 8)) C flX6_69 dX6_putBits_14 (wm_5 (S := S) hW) (wk_5 (S := S) hW) (by decide) (by decide) rfl (rd_sIf (S := S) (g := 608) (a := (ad 5)) (v := ((hI S 608 (ad 5)) <<< ((nI ct) &&& 31)) ||| vb) (by decide) hI_609_ad5) ?_
  refine j_iload_n C dX6_putBits_17 rfl 2 rfl ?_
  refine j_iadd (v := nI ((tb % 8) + ct)) C dX6_putBits_18 (nI_add (tb % 8) ct) ?_
  refine j_puti (f := 609) C flX6_69 (by decide) rfl rfl dX6_putBits_19 (wm_5 (S := S) hW) (wk_5 (S := S) hW) rfl ?_
  refine j_aload_n C dX6_putBits_22 rfl 0 rfl ?_
  refine j_geti (f := 609) (v := nI ((tb % 8) + ct)) C flX6_69 dX6_putBits_23 (wm_5 (S := S) hW) (wk_5 (S := S) hW) (by decide) (by decide) rfl (rd_sI (S := (sI S 608 (ad 5) (((hI S 608 (ad 5)) <<< ((nI ct) &&& 31)) ||| vb))) (g := 609) (a := (ad 5)) (v := nI ((tb % 8) + ct))) ?_
  show J _ _ _ _ _ 26 _
  refine j_bipush (v := 8) C dX6_putBits_26 (by decide) ?_
  refine j_ic_lt (tgt := 58) C dX6_putBits_28 (by decide) (fun c_28 => ?_) (fun c_28 => absurd (nI_lt (b := 8) (by omega) (by decide)) c_28)
  exact j_vret C M dX6_putBits_58 (by decide) (by decide) ⟨rfl, (((Fm.refl (WI := (fun f9 b9 => (f9 = 601 ∧ b9 = (ad 5)) ∨ (f9 = 608 ∧ b9 = (ad 5)) ∨ (f9 = 609 ∧ b9 = (ad 5)))) (WR := (fun _ _ => False)) (WA := (fun b9 => b9 = (ad 7)))).sI _ (fun _ => (Or.inr (Or.inl ⟨rfl, rfl⟩)))).sI _ (fun _ => (Or.inr (Or.inr ⟨rfl, rfl⟩)))), ((rd_sIf (S := (sI S 608 (ad 5) (((hI S 608 (ad 5)) <<< ((nI ct) &&& 31)) ||| vb))) (g := 609) (a := (ad 5)) (v := nI ((tb % 8) + ct)) (by decide) (rd_sIf (S := S) (g := 608) (a := (ad 5)) (v := ((hI S 608 (ad 5)) <<< ((nI ct) &&& 31)) ||| vb) (by decide) hI_601_ad5)).trans (congrArg nI (by omega))), ((rd_sI (S := (sI S 608 (ad 5) (((hI S 608 (ad 5)) <<< ((nI ct) &&& 31)) ||| vb))) (g := 609) (a := (ad 5)) (v := nI ((tb % 8) + ct))).trans (congrArg nI (by omega)))⟩

set_option maxRecDepth 100000 in
set_option maxHeartbeats 4000000 in
theorem c_pb1 (S : Hp) (ad : Nat → Nat) (hW : Wd ad S) (vb : Int32) (ct : Nat) (tb : Nat) (hI_601_ad5 : hI S 601 (ad 5) = nI (tb / 8)) (hI_609_ad5 : hI S 609 (ad 5) = nI (tb % 8)) (hc : ct ≤ 13) (ht : tb + ct < 480000) (hm : 8 ≤ tb % 8 + ct ∧ tb % 8 + ct < 16) : Ct 2 yX6_putBits cX6_putBits 3 none 0 0 [.ref (ad 5), .int vb, .int (nI ct)] S (fun r S' => r = none ∧ Fm (fun f9 b9 => (f9 = 601 ∧ b9 = (ad 5)) ∨ (f9 = 608 ∧ b9 = (ad 5)) ∨ (f9 = 609 ∧ b9 = (ad 5))) (fun _ _ => False) (fun b9 => b9 = (ad 7)) S S' ∧ hI S' 601 (ad 5) = nI ((tb + ct) / 8) ∧ hI S' 609 (ad 5) = nI ((tb + ct) % 8)) := by
  refine ct_of (by decide) (Nat.le_of_ble_eq_true rfl) fun x hn9 C M hm9 => ?_
  have C : CB x RX6 cX6_putBits := C
  refine J.eq (lv' := [(0, .ref (ad 5)), (1, .int vb), (2, .int (nI ct))]) rfl rfl rfl ?_
  refine j_aload_n C dX6_putBits_0 rfl 0 rfl ?_
  refine j_aload_n C dX6_putBits_1 rfl 0 rfl ?_
  refine j_geti (f := 608) (v := hI S 608 (ad 5)) C flX6_66 dX6_putBits_2 (wm_5 (S := S) hW) (wk_5 (S := S) hW) (by decide) (by decide) rfl rfl ?_
  refine j_iload_n C dX6_putBits_5 rfl 2 rfl ?_
  refine j_ishl C dX6_putBits_6 rfl ?_
  refine j_iload_n C dX6_putBits_7 rfl 1 rfl ?_
  refine j_ior C dX6_putBits_8 rfl ?_
  refine j_puti (f := 608) C flX6_66 (by decide) rfl rfl dX6_putBits_9 (wm_5 (S := S) hW) (wk_5 (S := S) hW) rfl ?_
  show J _ _ _ _ _ 12 _
  refine j_aload_n C dX6_putBits_12 rfl 0 rfl ?_
  refine j_dup C dX6_putBits_13 rfl ?_
  refine j_geti (f := 609) (v := nI (tb % 8)) C flX6_69 dX6_putBits_14 (wm_5 (S := S) hW) (wk_5 (S := S) hW) (by decide) (by decide) rfl (rd_sIf (S := S) (g := 608) (a := (ad 5)) (v := ((hI S 608 (ad 5)) <<< ((nI ct) &&& 31)) ||| vb) (by decide) hI_609_ad5) ?_
  refine j_iload_n C dX6_putBits_17 rfl 2 rfl ?_
  refine j_iadd (v := nI ((tb % 8) + ct)) C dX6_putBits_18 (nI_add (tb % 8) ct) ?_
  refine j_puti (f := 609) C flX6_69 (by decide) rfl rfl dX6_putBits_19 (wm_5 (S := S) hW) (wk_5 (S := S) hW) rfl ?_
  refine j_aload_n C dX6_putBits_22 rfl 0 rfl ?_
  refine j_geti (f := 609) (v := nI ((tb % 8) + ct)) C flX6_69 dX6_putBits_23 (wm_5 (S := S) hW) (wk_5 (S := S) hW) (by decide) (by decide) rfl (rd_sI (S := (sI S 608 (ad 5) (((hI S 608 (ad 5)) <<< ((nI ct) &&& 31)) ||| vb))) (g := 609) (a := (ad 5)) (v := nI ((tb % 8) + ct))) ?_
  show J _ _ _ _ _ 26 _
  refine j_bipush (v := 8) C dX6_putBits_26 (by decide) ?_
  refine j_ic_lt (tgt := 58) C dX6_putBits_28 (by decide) (fun c_28 => absurd c_28 (nI_nlt (b := 8) (by omega) (by omega))) (fun c_28 => ?_)
  refine j_aload_n C dX6_putBits_31 rfl 0 rfl ?_
  refine j_dup C dX6_putBits_32 rfl ?_
  refine j_geti (f := 609) (v := nI ((tb % 8) + ct)) C flX6_69 dX6_putBits_33 (wm_5 (S := S) hW) (wk_5 (S := S) hW) (by decide) (by decide) rfl (rd_sI (S := (sI S 608 (ad 5) (((hI S 608 (ad 5)) <<< ((nI ct) &&& 31)) ||| vb))) (g := 609) (a := (ad 5)) (v := nI ((tb % 8) + ct))) ?_
  refine j_bipush (v := 8) C dX6_putBits_36 (by decide) ?_
  refine j_isub (v := nI (((tb % 8) + ct) - 8)) C dX6_putBits_38 (pk_sub (a := ((tb % 8) + ct)) (b := 8) (by omega)) ?_
  refine j_puti (f := 609) C flX6_69 (by decide) rfl rfl dX6_putBits_39 (wm_5 (S := S) hW) (wk_5 (S := S) hW) rfl ?_
  show J _ _ _ _ _ 42 _
  refine j_aload_n C dX6_putBits_42 rfl 0 rfl ?_
  refine j_aload_n C dX6_putBits_43 rfl 0 rfl ?_
  refine j_geti (f := 608) (v := ((hI S 608 (ad 5)) <<< ((nI ct) &&& 31)) ||| vb) C flX6_66 dX6_putBits_44 (wm_5 (S := S) hW) (wk_5 (S := S) hW) (by decide) (by decide) rfl (rd_sIf (S := (sI (sI S 608 (ad 5) (((hI S 608 (ad 5)) <<< ((nI ct) &&& 31)) ||| vb)) 609 (ad 5) (nI ((tb % 8) + ct)))) (g := 609) (a := (ad 5)) (v := nI (((tb % 8) + ct) - 8)) (by decide) (rd_sIf (S := (sI S 608 (ad 5) (((hI S 608 (ad 5)) <<< ((nI ct) &&& 31)) ||| vb))) (g := 609) (a := (ad 5)) (v := nI ((tb % 8) + ct)) (by decide) (rd_sI (S := S) (g := 608) (a := (ad 5)) (v := ((hI S 608 (ad 5)) <<< ((nI ct) &&& 31)) ||| vb)))) ?_
  refine j_aload_n C dX6_putBits_47 rfl 0 rfl ?_
  refine j_geti (f := 609) (v := nI (((tb % 8) + ct) - 8)) C flX6_69 dX6_putBits_48 (wm_5 (S := S) hW) (wk_5 (S := S) hW) (by decide) (by decide) rfl (rd_sI (S := (sI (sI S 608 (ad 5) (((hI S 608 (ad 5)) <<< ((nI ct) &&& 31)) ||| vb)) 609 (ad 5) (nI ((tb % 8) + ct)))) (g := 609) (a := (ad 5)) (v := nI (((tb % 8) + ct) - 8))) ?_
  refine j_iushr C dX6_putBits_51 rfl ?_
  have hf_3 : Fm (fun f9 b9 => (f9 = 601 ∧ b9 = (ad 5)) ∨ (f9 = 608 ∧ b9 = (ad 5)) ∨ (f9 = 609 ∧ b9 = (ad 5))) (fun _ _ => False) (fun b9 => b9 = (ad 7)) S (sI (sI (sI S 608 (ad 5) (((hI S 608 (ad 5)) <<< ((nI ct) &&& 31)) ||| vb)) 609 (ad 5) (nI ((tb % 8) + ct))) 609 (ad 5) (nI (((tb % 8) + ct) - 8))) := ((((Fm.refl (WI := (fun f9 b9 => (f9 = 601 ∧ b9 = (ad 5)) ∨ (f9 = 608 ∧ b9 = (ad 5)) ∨ (f9 = 609 ∧ b9 = (ad 5)))) (WR := (fun _ _ => False)) (WA := (fun b9 => b9 = (ad 7)))).sI _ (fun _ => (Or.inr (Or.inl ⟨rfl, rfl⟩)))).sI _ (fun _ => (Or.inr (Or.inr ⟨rfl, rfl⟩)))).sI _ (fun _ => (Or.inr (Or.inr ⟨rfl, rfl⟩))))
  obtain ⟨S_1, eS_2⟩ : ∃ S9 : Hp, S9 = (sI (sI (sI S 608 (ad 5) (((hI S 608 (ad 5)) <<< ((nI ct) &&& 31)) ||| vb)) 609 (ad 5) (nI ((tb % 8) + ct))) 609 (ad 5) (nI (((tb % 8) + ct) - 8))) := ⟨_, rfl⟩
  refine J.eq (S' := S_1) eS_2.symm rfl rfl ?_
  have hv_4 : hI S_1 601 (ad 5) = nI (tb / 8) := by rw [eS_2]; exact (rd_sIf (S := (sI (sI S 608 (ad 5) (((hI S 608 (ad 5)) <<< ((nI ct) &&& 31)) ||| vb)) 609 (ad 5) (nI ((tb % 8) + ct)))) (g := 609) (a := (ad 5)) (v := nI (((tb % 8) + ct) - 8)) (by decide) (rd_sIf (S := (sI S 608 (ad 5) (((hI S 608 (ad 5)) <<< ((nI ct) &&& 31)) ||| vb))) (g := 609) (a := (ad 5)) (v := nI ((tb % 8) + ct)) (by decide) (rd_sIf (S := S) (g := 608) (a := (ad 5)) (v := ((hI S 608 (ad 5)) <<< ((nI ct) &&& 31)) ||| vb) (by decide) hI_601_ad5)))
  have hv_5 : hI S_1 608 (ad 5) = ((hI S 608 (ad 5)) <<< ((nI ct) &&& 31)) ||| vb := by rw [eS_2]; exact (rd_sIf (S := (sI (sI S 608 (ad 5) (((hI S 608 (ad 5)) <<< ((nI ct) &&& 31)) ||| vb)) 609 (ad 5) (nI ((tb % 8) + ct)))) (g := 609) (a := (ad 5)) (v := nI (((tb % 8) + ct) - 8)) (by decide) (rd_sIf (S := (sI S 608 (ad 5) (((hI S 608 (ad 5)) <<< ((nI ct) &&& 31)) ||| vb))) (g := 609) (a := (ad 5)) (v := nI ((tb % 8) + ct)) (by decide) (rd_sI (S := S) (g := 608) (a := (ad 5)) (v := ((hI S 608 (ad 5)) <<< ((nI ct) &&& 31)) ||| vb))))
  have hv_6 : hI S_1 609 (ad 5) = nI (((tb % 8) + ct) - 8) := by rw [eS_2]; exact (rd_sI (S := (sI (sI S 608 (ad 5) (((hI S 608 (ad 5)) <<< ((nI ct) &&& 31)) ||| vb)) 609 (ad 5) (nI ((tb % 8) + ct)))) (g := 609) (a := (ad 5)) (v := nI (((tb % 8) + ct) - 8)))
  have hf_7 : Fm (fun f9 b9 => (f9 = 601 ∧ b9 = (ad 5)) ∨ (f9 = 608 ∧ b9 = (ad 5)) ∨ (f9 = 609 ∧ b9 = (ad 5))) (fun _ _ => False) (fun b9 => b9 = (ad 7)) S S_1 := by rw [eS_2]; exact hf_3
  have hW_8 : Wd ad S_1 := by rw [eS_2]; exact (Wd.sI (Wd.sI (Wd.sI hW)))
  refine j_callV (ci := 6) C [.int (((((hI S 608 (ad 5)) <<< ((nI ct) &&& 31)) ||| vb).toUInt32 >>> ((nI (((tb % 8) + ct) - 8) : Int32).toUInt32 &&& Int32.toUInt32 31)).toInt32)] [] mlX6_83 mcX6_putByte (c_X6_putByte S_1 ad hW_8 (((((hI S 608 (ad 5)) <<< ((nI ct) &&& 31)) ||| vb).toUInt32 >>> ((nI (((tb % 8) + ct) - 8) : Int32).toUInt32 &&& Int32.toUInt32 31)).toInt32) (tb / 8) hv_4 (by omega)) (wm_5 (S := S_1) hW_8) (wk_5 (S := S_1) hW_8) rfl (M.rm (by decide) (by decide) (Nat.le_of_ble_eq_true rfl) (Nat.le_of_ble_eq_true rfl)) rfl rfl (Nat.le_of_ble_eq_true rfl) dX6_putBits_52 (fun r_10 S_11 hp_12 => ?_)
  obtain ⟨rfl, hf_13, e_9⟩ := hp_12
  refine J.eq (st' := []) rfl rfl rfl ?_
  have hv_14 : hI S_11 608 (ad 5) = ((hI S 608 (ad 5)) <<< ((nI ct) &&& 31)) ||| vb := hf_13.fi (wm_5 (S := S_1) hW_8) (fun q9 => absurd q9.1 (by decide)) hv_5
  have hv_15 : hI S_11 609 (ad 5) = nI (((tb % 8) + ct) - 8) := hf_13.fi (wm_5 (S := S_1) hW_8) (fun q9 => absurd q9.1 (by decide)) hv_6
  have hf_16 : Fm (fun f9 b9 => (f9 = 601 ∧ b9 = (ad 5)) ∨ (f9 = 608 ∧ b9 = (ad 5)) ∨ (f9 = 609 ∧ b9 = (ad 5))) (fun _ _ => False) (fun b9 => b9 = (ad 7)) S S_11 := hf_7.then hf_13 (fun a9 ha9 => ⟨(fun f9 h9 => (fun h8 => (Or.inl h8)) h9), (fun f9 h9 => h9.elim), (fun h9 => (fun h8 => h8) h9)⟩)
  have hW_17 : Wd ad S_11 := hW_8.fm hf_13 (by intro _ _ h9; exact h9) (by intro p9 hp9; simp only [wqL, List.mem_cons, List.not_mem_nil, or_false] at hp9; rcases hp9 with rfl | rfl <;> intro h9 <;> skip <;> exact absurd h9 (wn hW_8 (by decide) (by decide) (by decide)))
  refine j_goto (tgt := 22) C dX6_putBits_55 (by decide) ?_
  show J _ _ _ _ _ 22 _
  refine j_aload_n C dX6_putBits_22 rfl 0 rfl ?_
  refine j_geti (f := 609) (v := nI (((tb % 8) + ct) - 8)) C flX6_69 dX6_putBits_23 (wm_5 (S := S_11) hW_17) (wk_5 (S := S_11) hW_17) (by decide) (by decide) rfl hv_15 ?_
  refine j_bipush (v := 8) C dX6_putBits_26 (by decide) ?_
  refine j_ic_lt (tgt := 58) C dX6_putBits_28 (by decide) (fun c_28 => ?_) (fun c_28 => absurd (nI_lt (b := 8) (by omega) (by decide)) c_28)
  exact j_vret C M dX6_putBits_58 (Nat.le_of_ble_eq_true rfl) (Nat.le_of_ble_eq_true rfl) ⟨rfl, hf_16, (e_9.trans (congrArg nI (by omega))), (hv_15.trans (congrArg nI (by omega)))⟩

set_option maxRecDepth 100000 in
set_option maxHeartbeats 4000000 in
theorem c_pb2 (S : Hp) (ad : Nat → Nat) (hW : Wd ad S) (vb : Int32) (ct : Nat) (tb : Nat) (hI_601_ad5 : hI S 601 (ad 5) = nI (tb / 8)) (hI_609_ad5 : hI S 609 (ad 5) = nI (tb % 8)) (hc : ct ≤ 13) (ht : tb + ct < 480000) (hm : 16 ≤ tb % 8 + ct) : Ct 2 yX6_putBits cX6_putBits 3 none 0 0 [.ref (ad 5), .int vb, .int (nI ct)] S (fun r S' => r = none ∧ Fm (fun f9 b9 => (f9 = 601 ∧ b9 = (ad 5)) ∨ (f9 = 608 ∧ b9 = (ad 5)) ∨ (f9 = 609 ∧ b9 = (ad 5))) (fun _ _ => False) (fun b9 => b9 = (ad 7)) S S' ∧ hI S' 601 (ad 5) = nI ((tb + ct) / 8) ∧ hI S' 609 (ad 5) = nI ((tb + ct) % 8)) := by
  refine ct_of (by decide) (Nat.le_of_ble_eq_true rfl) fun x hn9 C M hm9 => ?_
  have C : CB x RX6 cX6_putBits := C
  refine J.eq (lv' := [(0, .ref (ad 5)), (1, .int vb), (2, .int (nI ct))]) rfl rfl rfl ?_
  refine j_aload_n C dX6_putBits_0 rfl 0 rfl ?_
  refine j_aload_n C dX6_putBits_1 rfl 0 rfl ?_
  refine j_geti (f := 608) (v := hI S 608 (ad 5)) C flX6_66 dX6_putBits_2 (wm_5 (S := S) hW) (wk_5 (S := S) hW) (by decide) (by decide) rfl rfl ?_
  refine j_iload_n C dX6_putBits_5 rfl 2 rfl ?_
  refine j_ishl C dX6_putBits_6 rfl ?_
  refine j_iload_n C dX6_putBits_7 rfl 1 rfl ?_
  refine j_ior C dX6_putBits_8 rfl ?_
  refine j_puti (f := 608) C flX6_66 (by decide) rfl rfl dX6_putBits_9 (wm_5 (S := S) hW) (wk_5 (S := S) hW) rfl ?_
  show J _ _ _ _ _ 12 _
  refine j_aload_n C dX6_putBits_12 rfl 0 rfl ?_
  refine j_dup C dX6_putBits_13 rfl ?_
  refine j_geti (f := 609) (v := nI (tb % 8)) C flX6_69 dX6_putBits_14 (wm_5 (S := S) hW) (wk_5 (S := S) hW) (by decide) (by decide) rfl (rd_sIf (S := S) (g := 608) (a := (ad 5)) (v := ((hI S 608 (ad 5)) <<< ((nI ct) &&& 31)) ||| vb) (by decide) hI_609_ad5) ?_
  refine j_iload_n C dX6_putBits_17 rfl 2 rfl ?_
  refine j_iadd (v := nI ((tb % 8) + ct)) C dX6_putBits_18 (nI_add (tb % 8) ct) ?_
  refine j_puti (f := 609) C flX6_69 (by decide) rfl rfl dX6_putBits_19 (wm_5 (S := S) hW) (wk_5 (S := S) hW) rfl ?_
  refine j_aload_n C dX6_putBits_22 rfl 0 rfl ?_
  refine j_geti (f := 609) (v := nI ((tb % 8) + ct)) C flX6_69 dX6_putBits_23 (wm_5 (S := S) hW) (wk_5 (S := S) hW) (by decide) (by decide) rfl (rd_sI (S := (sI S 608 (ad 5) (((hI S 608 (ad 5)) <<< ((nI ct) &&& 31)) ||| vb))) (g := 609) (a := (ad 5)) (v := nI ((tb % 8) + ct))) ?_
  show J _ _ _ _ _ 26 _
  refine j_bipush (v := 8) C dX6_putBits_26 (by decide) ?_
  refine j_ic_lt (tgt := 58) C dX6_putBits_28 (by decide) (fun c_28 => absurd c_28 (nI_nlt (b := 8) (by omega) (by omega))) (fun c_28 => ?_)
  refine j_aload_n C dX6_putBits_31 rfl 0 rfl ?_
  refine j_dup C dX6_putBits_32 rfl ?_
  refine j_geti (f := 609) (v := nI ((tb % 8) + ct)) C flX6_69 dX6_putBits_33 (wm_5 (S := S) hW) (wk_5 (S := S) hW) (by decide) (by decide) rfl (rd_sI (S := (sI S 608 (ad 5) (((hI S 608 (ad 5)) <<< ((nI ct) &&& 31)) ||| vb))) (g := 609) (a := (ad 5)) (v := nI ((tb % 8) + ct))) ?_
  refine j_bipush (v := 8) C dX6_putBits_36 (by decide) ?_
  refine j_isub (v := nI (((tb % 8) + ct) - 8)) C dX6_putBits_38 (pk_sub (a := ((tb % 8) + ct)) (b := 8) (by omega)) ?_
  refine j_puti (f := 609) C flX6_69 (by decide) rfl rfl dX6_putBits_39 (wm_5 (S := S) hW) (wk_5 (S := S) hW) rfl ?_
  show J _ _ _ _ _ 42 _
  refine j_aload_n C dX6_putBits_42 rfl 0 rfl ?_
  refine j_aload_n C dX6_putBits_43 rfl 0 rfl ?_
  refine j_geti (f := 608) (v := ((hI S 608 (ad 5)) <<< ((nI ct) &&& 31)) ||| vb) C flX6_66 dX6_putBits_44 (wm_5 (S := S) hW) (wk_5 (S := S) hW) (by decide) (by decide) rfl (rd_sIf (S := (sI (sI S 608 (ad 5) (((hI S 608 (ad 5)) <<< ((nI ct) &&& 31)) ||| vb)) 609 (ad 5) (nI ((tb % 8) + ct)))) (g := 609) (a := (ad 5)) (v := nI (((tb % 8) + ct) - 8)) (by decide) (rd_sIf (S := (sI S 608 (ad 5) (((hI S 608 (ad 5)) <<< ((nI ct) &&& 31)) ||| vb))) (g := 609) (a := (ad 5)) (v := nI ((tb % 8) + ct)) (by decide) (rd_sI (S := S) (g := 608) (a := (ad 5)) (v := ((hI S 608 (ad 5)) <<< ((nI ct) &&& 31)) ||| vb)))) ?_
  refine j_aload_n C dX6_putBits_47 rfl 0 rfl ?_
  refine j_geti (f := 609) (v := nI (((tb % 8) + ct) - 8)) C flX6_69 dX6_putBits_48 (wm_5 (S := S) hW) (wk_5 (S := S) hW) (by decide) (by decide) rfl (rd_sI (S := (sI (sI S 608 (ad 5) (((hI S 608 (ad 5)) <<< ((nI ct) &&& 31)) ||| vb)) 609 (ad 5) (nI ((tb % 8) + ct)))) (g := 609) (a := (ad 5)) (v := nI (((tb % 8) + ct) - 8))) ?_
  refine j_iushr C dX6_putBits_51 rfl ?_
  have hf_3 : Fm (fun f9 b9 => (f9 = 601 ∧ b9 = (ad 5)) ∨ (f9 = 608 ∧ b9 = (ad 5)) ∨ (f9 = 609 ∧ b9 = (ad 5))) (fun _ _ => False) (fun b9 => b9 = (ad 7)) S (sI (sI (sI S 608 (ad 5) (((hI S 608 (ad 5)) <<< ((nI ct) &&& 31)) ||| vb)) 609 (ad 5) (nI ((tb % 8) + ct))) 609 (ad 5) (nI (((tb % 8) + ct) - 8))) := ((((Fm.refl (WI := (fun f9 b9 => (f9 = 601 ∧ b9 = (ad 5)) ∨ (f9 = 608 ∧ b9 = (ad 5)) ∨ (f9 = 609 ∧ b9 = (ad 5)))) (WR := (fun _ _ => False)) (WA := (fun b9 => b9 = (ad 7)))).sI _ (fun _ => (Or.inr (Or.inl ⟨rfl, rfl⟩)))).sI _ (fun _ => (Or.inr (Or.inr ⟨rfl, rfl⟩)))).sI _ (fun _ => (Or.inr (Or.inr ⟨rfl, rfl⟩))))
  obtain ⟨S_1, eS_2⟩ : ∃ S9 : Hp, S9 = (sI (sI (sI S 608 (ad 5) (((hI S 608 (ad 5)) <<< ((nI ct) &&& 31)) ||| vb)) 609 (ad 5) (nI ((tb % 8) + ct))) 609 (ad 5) (nI (((tb % 8) + ct) - 8))) := ⟨_, rfl⟩
  refine J.eq (S' := S_1) eS_2.symm rfl rfl ?_
  have hv_4 : hI S_1 601 (ad 5) = nI (tb / 8) := by rw [eS_2]; exact (rd_sIf (S := (sI (sI S 608 (ad 5) (((hI S 608 (ad 5)) <<< ((nI ct) &&& 31)) ||| vb)) 609 (ad 5) (nI ((tb % 8) + ct)))) (g := 609) (a := (ad 5)) (v := nI (((tb % 8) + ct) - 8)) (by decide) (rd_sIf (S := (sI S 608 (ad 5) (((hI S 608 (ad 5)) <<< ((nI ct) &&& 31)) ||| vb))) (g := 609) (a := (ad 5)) (v := nI ((tb % 8) + ct)) (by decide) (rd_sIf (S := S) (g := 608) (a := (ad 5)) (v := ((hI S 608 (ad 5)) <<< ((nI ct) &&& 31)) ||| vb) (by decide) hI_601_ad5)))
  have hv_5 : hI S_1 608 (ad 5) = ((hI S 608 (ad 5)) <<< ((nI ct) &&& 31)) ||| vb := by rw [eS_2]; exact (rd_sIf (S := (sI (sI S 608 (ad 5) (((hI S 608 (ad 5)) <<< ((nI ct) &&& 31)) ||| vb)) 609 (ad 5) (nI ((tb % 8) + ct)))) (g := 609) (a := (ad 5)) (v := nI (((tb % 8) + ct) - 8)) (by decide) (rd_sIf (S := (sI S 608 (ad 5) (((hI S 608 (ad 5)) <<< ((nI ct) &&& 31)) ||| vb))) (g := 609) (a := (ad 5)) (v := nI ((tb % 8) + ct)) (by decide) (rd_sI (S := S) (g := 608) (a := (ad 5)) (v := ((hI S 608 (ad 5)) <<< ((nI ct) &&& 31)) ||| vb))))
  have hv_6 : hI S_1 609 (ad 5) = nI (((tb % 8) + ct) - 8) := by rw [eS_2]; exact (rd_sI (S := (sI (sI S 608 (ad 5) (((hI S 608 (ad 5)) <<< ((nI ct) &&& 31)) ||| vb)) 609 (ad 5) (nI ((tb % 8) + ct)))) (g := 609) (a := (ad 5)) (v := nI (((tb % 8) + ct) - 8)))
  have hf_7 : Fm (fun f9 b9 => (f9 = 601 ∧ b9 = (ad 5)) ∨ (f9 = 608 ∧ b9 = (ad 5)) ∨ (f9 = 609 ∧ b9 = (ad 5))) (fun _ _ => False) (fun b9 => b9 = (ad 7)) S S_1 := by rw [eS_2]; exact hf_3
  have hW_8 : Wd ad S_1 := by rw [eS_2]; exact (Wd.sI (Wd.sI (Wd.sI hW)))
  refine j_callV (ci := 6) C [.int (((((hI S 608 (ad 5)) <<< ((nI ct) &&& 31)) ||| vb).toUInt32 >>> ((nI (((tb % 8) + ct) - 8) : Int32).toUInt32 &&& Int32.toUInt32 31)).toInt32)] [] mlX6_83 mcX6_putByte (c_X6_putByte S_1 ad hW_8 (((((hI S 608 (ad 5)) <<< ((nI ct) &&& 31)) ||| vb).toUInt32 >>> ((nI (((tb % 8) + ct) - 8) : Int32).toUInt32 &&& Int32.toUInt32 31)).toInt32) (tb / 8) hv_4 (by omega)) (wm_5 (S := S_1) hW_8) (wk_5 (S := S_1) hW_8) rfl (M.rm (by decide) (by decide) (Nat.le_of_ble_eq_true rfl) (Nat.le_of_ble_eq_true rfl)) rfl rfl (Nat.le_of_ble_eq_true rfl) dX6_putBits_52 (fun r_10 S_11 hp_12 => ?_)
  obtain ⟨rfl, hf_13, e_9⟩ := hp_12
  refine J.eq (st' := []) rfl rfl rfl ?_
  have hv_14 : hI S_11 608 (ad 5) = ((hI S 608 (ad 5)) <<< ((nI ct) &&& 31)) ||| vb := hf_13.fi (wm_5 (S := S_1) hW_8) (fun q9 => absurd q9.1 (by decide)) hv_5
  have hv_15 : hI S_11 609 (ad 5) = nI (((tb % 8) + ct) - 8) := hf_13.fi (wm_5 (S := S_1) hW_8) (fun q9 => absurd q9.1 (by decide)) hv_6
  have hf_16 : Fm (fun f9 b9 => (f9 = 601 ∧ b9 = (ad 5)) ∨ (f9 = 608 ∧ b9 = (ad 5)) ∨ (f9 = 609 ∧ b9 = (ad 5))) (fun _ _ => False) (fun b9 => b9 = (ad 7)) S S_11 := hf_7.then hf_13 (fun a9 ha9 => ⟨(fun f9 h9 => (fun h8 => (Or.inl h8)) h9), (fun f9 h9 => h9.elim), (fun h9 => (fun h8 => h8) h9)⟩)
  have hW_17 : Wd ad S_11 := hW_8.fm hf_13 (by intro _ _ h9; exact h9) (by intro p9 hp9; simp only [wqL, List.mem_cons, List.not_mem_nil, or_false] at hp9; rcases hp9 with rfl | rfl <;> intro h9 <;> skip <;> exact absurd h9 (wn hW_8 (by decide) (by decide) (by decide)))
  refine j_goto (tgt := 22) C dX6_putBits_55 (by decide) ?_
  show J _ _ _ _ _ 22 _
  refine j_aload_n C dX6_putBits_22 rfl 0 rfl ?_
  refine j_geti (f := 609) (v := nI (((tb % 8) + ct) - 8)) C flX6_69 dX6_putBits_23 (wm_5 (S := S_11) hW_17) (wk_5 (S := S_11) hW_17) (by decide) (by decide) rfl hv_15 ?_
  refine j_bipush (v := 8) C dX6_putBits_26 (by decide) ?_
  refine j_ic_lt (tgt := 58) C dX6_putBits_28 (by decide) (fun c_28 => absurd c_28 (nI_nlt (b := 8) (by omega) (by omega))) (fun c_28 => ?_)
  refine j_aload_n C dX6_putBits_31 rfl 0 rfl ?_
  refine j_dup C dX6_putBits_32 rfl ?_
  refine j_geti (f := 609) (v := nI (((tb % 8) + ct) - 8)) C flX6_69 dX6_putBits_33 (wm_5 (S := S_11) hW_17) (wk_5 (S := S_11) hW_17) (by decide) (by decide) rfl hv_15 ?_
  refine j_bipush (v := 8) C dX6_putBits_36 (by decide) ?_
  show J _ _ _ _ _ 38 _
  refine j_isub (v := nI ((((tb % 8) + ct) - 8) - 8)) C dX6_putBits_38 (pk_sub (a := (((tb % 8) + ct) - 8)) (b := 8) (by omega)) ?_
  refine j_puti (f := 609) C flX6_69 (by decide) rfl rfl dX6_putBits_39 (wm_5 (S := S_11) hW_17) (wk_5 (S := S_11) hW_17) rfl ?_
  refine j_aload_n C dX6_putBits_42 rfl 0 rfl ?_
  refine j_aload_n C dX6_putBits_43 rfl 0 rfl ?_
  refine j_geti (f := 608) (v := ((hI S 608 (ad 5)) <<< ((nI ct) &&& 31)) ||| vb) C flX6_66 dX6_putBits_44 (wm_5 (S := S_11) hW_17) (wk_5 (S := S_11) hW_17) (by decide) (by decide) rfl (rd_sIf (S := S_11) (g := 609) (a := (ad 5)) (v := nI ((((tb % 8) + ct) - 8) - 8)) (by decide) hv_14) ?_
  refine j_aload_n C dX6_putBits_47 rfl 0 rfl ?_
  refine j_geti (f := 609) (v := nI ((((tb % 8) + ct) - 8) - 8)) C flX6_69 dX6_putBits_48 (wm_5 (S := S_11) hW_17) (wk_5 (S := S_11) hW_17) (by decide) (by decide) rfl (rd_sI (S := S_11) (g := 609) (a := (ad 5)) (v := nI ((((tb % 8) + ct) - 8) - 8))) ?_
  refine j_iushr C dX6_putBits_51 rfl ?_
  show J _ _ _ _ _ 52 _
  have hf_18 : Fm (fun f9 b9 => (f9 = 601 ∧ b9 = (ad 5)) ∨ (f9 = 608 ∧ b9 = (ad 5)) ∨ (f9 = 609 ∧ b9 = (ad 5))) (fun _ _ => False) (fun b9 => b9 = (ad 7)) S (sI S_11 609 (ad 5) (nI ((((tb % 8) + ct) - 8) - 8))) := (hf_16.sI _ (fun _ => (Or.inr (Or.inr ⟨rfl, rfl⟩))))
  refine j_callV (ci := 6) C [.int (((((hI S 608 (ad 5)) <<< ((nI ct) &&& 31)) ||| vb).toUInt32 >>> ((nI ((((tb % 8) + ct) - 8) - 8) : Int32).toUInt32 &&& Int32.toUInt32 31)).toInt32)] [] mlX6_83 mcX6_putByte (c_X6_putByte (sI S_11 609 (ad 5) (nI ((((tb % 8) + ct) - 8) - 8))) ad hW_17 (((((hI S 608 (ad 5)) <<< ((nI ct) &&& 31)) ||| vb).toUInt32 >>> ((nI ((((tb % 8) + ct) - 8) - 8) : Int32).toUInt32 &&& Int32.toUInt32 31)).toInt32) ((tb / 8) + 1) (rd_sIf (S := S_11) (g := 609) (a := (ad 5)) (v := nI ((((tb % 8) + ct) - 8) - 8)) (by decide) e_9) (by omega)) (wm_5 (S := S_11) hW_17) (wk_5 (S := S_11) hW_17) rfl (M.rm (by decide) (by decide) (Nat.le_of_ble_eq_true rfl) (Nat.le_of_ble_eq_true rfl)) rfl rfl (Nat.le_of_ble_eq_true rfl) dX6_putBits_52 (fun r_20 S_21 hp_22 => ?_)
  obtain ⟨rfl, hf_23, e_19⟩ := hp_22
  refine J.eq (st' := []) rfl rfl rfl ?_
  have hv_24 : hI S_21 608 (ad 5) = ((hI S 608 (ad 5)) <<< ((nI ct) &&& 31)) ||| vb := hf_23.fi (wm_5 (S := S_11) hW_17) (fun q9 => absurd q9.1 (by decide)) (rd_sIf (S := S_11) (g := 609) (a := (ad 5)) (v := nI ((((tb % 8) + ct) - 8) - 8)) (by decide) hv_14)
  have hv_25 : hI S_21 609 (ad 5) = nI ((((tb % 8) + ct) - 8) - 8) := hf_23.fi (wm_5 (S := S_11) hW_17) (fun q9 => absurd q9.1 (by decide)) (rd_sI (S := S_11) (g := 609) (a := (ad 5)) (v := nI ((((tb % 8) + ct) - 8) - 8)))
  have hf_26 : Fm (fun f9 b9 => (f9 = 601 ∧ b9 = (ad 5)) ∨ (f9 = 608 ∧ b9 = (ad 5)) ∨ (f9 = 609 ∧ b9 = (ad 5))) (fun _ _ => False) (fun b9 => b9 = (ad 7)) S S_21 := hf_18.then hf_23 (fun a9 ha9 => ⟨(fun f9 h9 => (fun h8 => (Or.inl h8)) h9), (fun f9 h9 => h9.elim), (fun h9 => (fun h8 => h8) h9)⟩)
  have hW_27 : Wd ad S_21 := Wd.fm (Wd.sI hW_17) hf_23 (by intro _ _ h9; exact h9) (by intro p9 hp9; simp only [wqL, List.mem_cons, List.not_mem_nil, or_false] at hp9; rcases hp9 with rfl | rfl <;> intro h9 <;> skip <;> exact absurd h9 (wn hW_17 (by decide) (by decide) (by decide)))
  refine j_goto (tgt := 22) C dX6_putBits_55 (by decide) ?_
  refine j_aload_n C dX6_putBits_22 rfl 0 rfl ?_
  refine j_geti (f := 609) (v := nI ((((tb % 8) + ct) - 8) - 8)) C flX6_69 dX6_putBits_23 (wm_5 (S := S_21) hW_27) (wk_5 (S := S_21) hW_27) (by decide) (by decide) rfl hv_25 ?_
  refine j_bipush (v := 8) C dX6_putBits_26 (by decide) ?_
  refine j_ic_lt (tgt := 58) C dX6_putBits_28 (by decide) (fun c_28 => ?_) (fun c_28 => absurd (nI_lt (b := 8) (by omega) (by decide)) c_28)
  exact j_vret C M dX6_putBits_58 (Nat.le_of_ble_eq_true rfl) (Nat.le_of_ble_eq_true rfl) ⟨rfl, hf_26, (e_19.trans (congrArg nI (by omega))), (hv_25.trans (congrArg nI (by omega)))⟩

theorem c_pb (S : Hp) (ad : Nat → Nat) (hW : Wd ad S) (vb : Int32) (ct tb : Nat) (h1 : hI S 601 (ad 5) = nI (tb / 8)) (h2 : hI S 609 (ad 5) = nI (tb % 8)) (hc : ct ≤ 13) (ht : tb + ct < 480000) : Ct 2 yX6_putBits cX6_putBits 3 none 0 0 [.ref (ad 5), .int vb, .int (nI ct)] S (fun r S' => r = none ∧ Fm (fun f9 b9 => (f9 = 601 ∧ b9 = (ad 5)) ∨ (f9 = 608 ∧ b9 = (ad 5)) ∨ (f9 = 609 ∧ b9 = (ad 5))) (fun _ _ => False) (fun b9 => b9 = (ad 7)) S S' ∧ hI S' 601 (ad 5) = nI ((tb + ct) / 8) ∧ hI S' 609 (ad 5) = nI ((tb + ct) % 8)) := by
  rcases (show tb % 8 + ct < 8 ∨ (8 ≤ tb % 8 + ct ∧ tb % 8 + ct < 16) ∨ 16 ≤ tb % 8 + ct by omega) with h | h | h
  · exact c_pb0 S ad hW vb ct tb h1 h2 hc ht h
  · exact c_pb1 S ad hW vb ct tb h1 h2 hc ht h
  · exact c_pb2 S ad hW vb ct tb h1 h2 hc ht h

theorem dX6_putRun_0 : decode cX6_putRun 0 = .ok (.iload_n 2, 1) := by decide +kernel
theorem dX6_putRun_1 : decode cX6_putRun 1 = .ok (.ifCond .ne 7, 3) := by decide +kernel
theorem dX6_putRun_4 : decode cX6_putRun 4 = .ok (.iconst 0, 1) := by decide +kernel
theorem dX6_putRun_5 : decode cX6_putRun 5 = .ok (.goto 5, 3) := by decide +kernel
theorem dX6_putRun_8 : decode cX6_putRun 8 = .ok (.bipush 74, 2) := by decide +kernel
theorem dX6_putRun_10 : decode cX6_putRun 10 = .ok (.istore_n 3, 1) := by decide +kernel
theorem dX6_putRun_11 : decode cX6_putRun 11 = .ok (.iload_n 1, 1) := by decide +kernel
theorem dX6_putRun_12 : decode cX6_putRun 12 = .ok (.bipush 64, 2) := by decide +kernel
theorem dX6_putRun_14 : decode cX6_putRun 14 = .ok (.if_icmp .lt 50, 3) := by decide +kernel
theorem dX6_putRun_17 : decode cX6_putRun 17 = .ok (.iload_n 3, 1) := by decide +kernel
theorem dX6_putRun_18 : decode cX6_putRun 18 = .ok (.bipush 64, 2) := by decide +kernel
theorem dX6_putRun_20 : decode cX6_putRun 20 = .ok (.iadd, 1) := by decide +kernel
theorem dX6_putRun_21 : decode cX6_putRun 21 = .ok (.iconst 1, 1) := by decide +kernel
theorem dX6_putRun_22 : decode cX6_putRun 22 = .ok (.isub, 1) := by decide +kernel
theorem dX6_putRun_23 : decode cX6_putRun 23 = .ok (.iload_n 1, 1) := by decide +kernel
theorem dX6_putRun_24 : decode cX6_putRun 24 = .ok (.bipush 64, 2) := by decide +kernel
theorem dX6_putRun_26 : decode cX6_putRun 26 = .ok (.idiv, 1) := by decide +kernel
theorem dX6_putRun_27 : decode cX6_putRun 27 = .ok (.iadd, 1) := by decide +kernel
theorem dX6_putRun_28 : decode cX6_putRun 28 = .ok (.istore 4, 2) := by decide +kernel
theorem dX6_putRun_30 : decode cX6_putRun 30 = .ok (.iload 4, 2) := by decide +kernel
theorem dX6_putRun_32 : decode cX6_putRun 32 = .ok (.getstatic 98, 3) := by decide +kernel
theorem dX6_putRun_35 : decode cX6_putRun 35 = .ok (.arraylength, 1) := by decide +kernel
theorem dX6_putRun_36 : decode cX6_putRun 36 = .ok (.if_icmp .ge 28, 3) := by decide +kernel
theorem dX6_putRun_39 : decode cX6_putRun 39 = .ok (.iload 4, 2) := by decide +kernel
theorem dX6_putRun_41 : decode cX6_putRun 41 = .ok (.getstatic 101, 3) := by decide +kernel
theorem dX6_putRun_44 : decode cX6_putRun 44 = .ok (.arraylength, 1) := by decide +kernel
theorem dX6_putRun_45 : decode cX6_putRun 45 = .ok (.if_icmp .ge 19, 3) := by decide +kernel
theorem dX6_putRun_48 : decode cX6_putRun 48 = .ok (.aload_n 0, 1) := by decide +kernel
theorem dX6_putRun_49 : decode cX6_putRun 49 = .ok (.getstatic 98, 3) := by decide +kernel
theorem dX6_putRun_52 : decode cX6_putRun 52 = .ok (.iload 4, 2) := by decide +kernel
theorem dX6_putRun_54 : decode cX6_putRun 54 = .ok (.iaload, 1) := by decide +kernel
theorem dX6_putRun_55 : decode cX6_putRun 55 = .ok (.getstatic 101, 3) := by decide +kernel
theorem dX6_putRun_58 : decode cX6_putRun 58 = .ok (.iload 4, 2) := by decide +kernel
theorem dX6_putRun_60 : decode cX6_putRun 60 = .ok (.iaload, 1) := by decide +kernel
theorem dX6_putRun_61 : decode cX6_putRun 61 = .ok (.invokevirtual 80, 3) := by decide +kernel
theorem dX6_putRun_64 : decode cX6_putRun 64 = .ok (.iload_n 3, 1) := by decide +kernel
theorem dX6_putRun_65 : decode cX6_putRun 65 = .ok (.iload_n 1, 1) := by decide +kernel
theorem dX6_putRun_66 : decode cX6_putRun 66 = .ok (.bipush 64, 2) := by decide +kernel
theorem dX6_putRun_68 : decode cX6_putRun 68 = .ok (.irem, 1) := by decide +kernel
theorem dX6_putRun_69 : decode cX6_putRun 69 = .ok (.iadd, 1) := by decide +kernel
theorem dX6_putRun_70 : decode cX6_putRun 70 = .ok (.istore 4, 2) := by decide +kernel
theorem dX6_putRun_72 : decode cX6_putRun 72 = .ok (.iload 4, 2) := by decide +kernel
theorem dX6_putRun_74 : decode cX6_putRun 74 = .ok (.ifCond .lt 37, 3) := by decide +kernel
theorem dX6_putRun_77 : decode cX6_putRun 77 = .ok (.iload 4, 2) := by decide +kernel
theorem dX6_putRun_79 : decode cX6_putRun 79 = .ok (.getstatic 98, 3) := by decide +kernel
theorem dX6_putRun_82 : decode cX6_putRun 82 = .ok (.arraylength, 1) := by decide +kernel
theorem dX6_putRun_83 : decode cX6_putRun 83 = .ok (.if_icmp .ge 28, 3) := by decide +kernel
theorem dX6_putRun_86 : decode cX6_putRun 86 = .ok (.iload 4, 2) := by decide +kernel
theorem dX6_putRun_88 : decode cX6_putRun 88 = .ok (.getstatic 101, 3) := by decide +kernel
theorem dX6_putRun_91 : decode cX6_putRun 91 = .ok (.arraylength, 1) := by decide +kernel
theorem dX6_putRun_92 : decode cX6_putRun 92 = .ok (.if_icmp .ge 19, 3) := by decide +kernel
theorem dX6_putRun_95 : decode cX6_putRun 95 = .ok (.aload_n 0, 1) := by decide +kernel
theorem dX6_putRun_96 : decode cX6_putRun 96 = .ok (.getstatic 98, 3) := by decide +kernel
theorem dX6_putRun_99 : decode cX6_putRun 99 = .ok (.iload 4, 2) := by decide +kernel
theorem dX6_putRun_101 : decode cX6_putRun 101 = .ok (.iaload, 1) := by decide +kernel
theorem dX6_putRun_102 : decode cX6_putRun 102 = .ok (.getstatic 101, 3) := by decide +kernel
theorem dX6_putRun_105 : decode cX6_putRun 105 = .ok (.iload 4, 2) := by decide +kernel
theorem dX6_putRun_107 : decode cX6_putRun 107 = .ok (.iaload, 1) := by decide +kernel
theorem dX6_putRun_108 : decode cX6_putRun 108 = .ok (.invokevirtual 80, 3) := by decide +kernel
theorem dX6_putRun_111 : decode cX6_putRun 111 = .ok (.return_, 1) := by decide +kernel

set_option maxRecDepth 100000 in
set_option maxHeartbeats 4000000 in
theorem c_pr00 (S : Hp) (ad : Nat → Nat) (hW : Wd ad S) (l : Nat) (tb : Nat) (hI_601_ad5 : hI S 601 (ad 5) = nI (tb / 8)) (hI_609_ad5 : hI S 609 (ad 5) = nI (tb % 8)) (hl : l < 201) (hg : ¬ 64 ≤ l) (ht : tb + runB false l < 480000) : Ct 3 yX6_putRun cX6_putRun 5 none 0 0 [.ref (ad 5), .int (nI l), .int 0] S (fun r S' => r = none ∧ Fm (fun f9 b9 => (f9 = 601 ∧ b9 = (ad 5)) ∨ (f9 = 608 ∧ b9 = (ad 5)) ∨ (f9 = 609 ∧ b9 = (ad 5))) (fun _ _ => False) (fun b9 => b9 = (ad 7)) S S' ∧ hI S' 601 (ad 5) = nI ((tb + runB false l) / 8) ∧ hI S' 609 (ad 5) = nI ((tb + runB false l) % 8)) := by
  refine ct_of (by decide) (Nat.le_of_ble_eq_true rfl) fun x hn9 C M hm9 => ?_
  have C : CB x RX6 cX6_putRun := C
  refine J.eq (lv' := [(0, .ref (ad 5)), (1, .int (nI l)), (2, .int 0)]) rfl rfl rfl ?_
  have hrb := runB_f0 hg
  refine j_iload_n C dX6_putRun_0 rfl 2 rfl ?_
  refine j_if_ne (tgt := 8) C dX6_putRun_1 (by decide) (fun c9 => absurd c9 (by decide)) (fun c9 => ?_)
  refine j_iconst (v := 0) C dX6_putRun_4 (by decide) ?_
  refine j_goto (tgt := 10) C dX6_putRun_5 (by decide) ?_
  refine j_istore_n (lv' := [(3, .int 0), (0, .ref (ad 5)), (1, .int (nI l)), (2, .int 0)]) C dX6_putRun_10 rfl (by rw [hn9]; decide) rfl ?_
  refine j_iload_n C dX6_putRun_11 rfl 2 rfl ?_
  refine j_bipush (v := 64) C dX6_putRun_12 (by decide) ?_
  refine j_ic_lt (tgt := 64) C dX6_putRun_14 (by decide) (fun c_14 => ?_) (fun c_14 => absurd (nI_lt (b := 64) (by omega) (by decide)) c_14)
  show J _ _ _ _ _ 64 _
  refine j_iload_n C dX6_putRun_64 rfl 0 rfl ?_
  refine j_iload_n C dX6_putRun_65 rfl 2 rfl ?_
  refine j_bipush (v := 64) C dX6_putRun_66 (by decide) ?_
  refine j_irem (v := nI (l % 64)) C dX6_putRun_68 (by decide) (pk_rem (d := 64) (by omega) (by decide) (by decide)) ?_
  refine j_iadd (v := nI (0 + (l % 64))) C dX6_putRun_69 (nI_add 0 (l % 64)) ?_
  refine j_istore (lv' := [(4, .int (nI (0 + (l % 64)))), (3, .int 0), (0, .ref (ad 5)), (1, .int (nI l)), (2, .int 0)]) C dX6_putRun_70 (by rw [hn9]; decide) rfl ?_
  refine j_iload C dX6_putRun_72 0 rfl ?_
  refine j_if_lt (tgt := 111) C dX6_putRun_74 (by decide) (fun c_74 => absurd c_74 (nI_pos (by omega))) (fun c_74 => ?_)
  show J _ _ _ _ _ 77 _
  refine j_iload C dX6_putRun_77 0 rfl ?_
  refine j_gets C 3 rfl (Or.inr ⟨_, gsX6_98⟩) dX6_putRun_79 ?_
  refine j_stlen (v := 148) C 3 rfl dX6_putRun_82 (by decide) ?_
  refine j_ic_ge (tgt := 111) C dX6_putRun_83 (by decide) (fun c_83 => absurd c_83 (nI_ge (b := 148) (by omega) (by decide))) (fun c_83 => ?_)
  refine j_iload C dX6_putRun_86 0 rfl ?_
  refine j_gets C 2 rfl (Or.inr ⟨_, gsX6_101⟩) dX6_putRun_88 ?_
  refine j_stlen (v := 148) C 2 rfl dX6_putRun_91 (by decide) ?_
  refine j_ic_ge (tgt := 111) C dX6_putRun_92 (by decide) (fun c_92 => absurd c_92 (nI_ge (b := 148) (by omega) (by decide))) (fun c_92 => ?_)
  show J _ _ _ _ _ 95 _
  refine j_aload_n C dX6_putRun_95 rfl 2 rfl ?_
  refine j_gets C 3 rfl (Or.inr ⟨_, gsX6_98⟩) dX6_putRun_96 ?_
  refine j_iload C dX6_putRun_99 0 rfl ?_
  refine j_stld (v := st_RUN_CODES.getD (0 + (l % 64)) 0) C 3 rfl dX6_putRun_101 (show vp_in (nI (0 + (l % 64))) 148 from vp_in_nI (by omega) (by omega)) (congrArg (fun z9 => st_RUN_CODES.getD z9 0) (nI_clamp (by omega))) ?_
  refine j_gets C 2 rfl (Or.inr ⟨_, gsX6_101⟩) dX6_putRun_102 ?_
  refine j_iload C dX6_putRun_105 0 rfl ?_
  refine j_stld (v := nI (rbN (0 + l % 64))) C 2 rfl dX6_putRun_107 (show vp_in (nI (0 + (l % 64))) 148 from vp_in_nI (by omega) (by omega)) ((congrArg (fun z9 => st_RUN_BITS.getD z9 0) (nI_clamp (by omega))).trans (rb_ok (0 + l % 64) (by omega))) ?_
  refine j_callV (ci := 6) C [.int (st_RUN_CODES.getD (0 + (l % 64)) 0), .int (nI (rbN (0 + l % 64)))] [] mlX6_80 mcX6_putBits (c_pb S ad hW (st_RUN_CODES.getD (0 + (l % 64)) 0) (rbN (0 + l % 64)) tb hI_601_ad5 hI_609_ad5 (rb_le (0 + l % 64) (by omega)) (by omega)) (wm_5 (S := S) hW) (wk_5 (S := S) hW) rfl (M.rm (by decide) (by decide) (Nat.le_of_ble_eq_true rfl) (Nat.le_of_ble_eq_true rfl)) rfl rfl (Nat.le_of_ble_eq_true rfl) dX6_putRun_108 (fun r_3 S_4 hp_5 => ?_)
  obtain ⟨rfl, hf_6, e_1, e_2⟩ := hp_5
  refine J.eq (st' := []) rfl rfl rfl ?_
  have hf_7 : Fm (fun f9 b9 => (f9 = 601 ∧ b9 = (ad 5)) ∨ (f9 = 608 ∧ b9 = (ad 5)) ∨ (f9 = 609 ∧ b9 = (ad 5))) (fun _ _ => False) (fun b9 => b9 = (ad 7)) S S_4 := (Fm.refl (WI := (fun f9 b9 => (f9 = 601 ∧ b9 = (ad 5)) ∨ (f9 = 608 ∧ b9 = (ad 5)) ∨ (f9 = 609 ∧ b9 = (ad 5)))) (WR := (fun _ _ => False)) (WA := (fun b9 => b9 = (ad 7)))).then hf_6 (fun a9 ha9 => ⟨(fun f9 h9 => (fun h9 => h9.elim (fun h8 => (Or.inl h8)) (fun h9 => h9.elim (fun h8 => (Or.inr (Or.inl h8))) (fun h8 => (Or.inr (Or.inr h8))))) h9), (fun f9 h9 => h9.elim), (fun h9 => (fun h8 => h8) h9)⟩)
  have hW_8 : Wd ad S_4 := hW.fm hf_6 (by intro _ _ h9; exact h9) (by intro p9 hp9; simp only [wqL, List.mem_cons, List.not_mem_nil, or_false] at hp9; rcases hp9 with rfl | rfl <;> intro h9 <;> skip <;> exact absurd h9 (wn hW (by decide) (by decide) (by decide)))
  show J _ _ _ _ _ 111 _
  exact j_vret C M dX6_putRun_111 (Nat.le_of_ble_eq_true rfl) (Nat.le_of_ble_eq_true rfl) ⟨rfl, hf_7, (e_1.trans (congrArg nI (by omega))), (e_2.trans (congrArg nI (by omega)))⟩

set_option maxRecDepth 100000 in
set_option maxHeartbeats 4000000 in
theorem c_pr01 (S : Hp) (ad : Nat → Nat) (hW : Wd ad S) (l : Nat) (tb : Nat) (hI_601_ad5 : hI S 601 (ad 5) = nI (tb / 8)) (hI_609_ad5 : hI S 609 (ad 5) = nI (tb % 8)) (hl : l < 201) (hg : 64 ≤ l) (ht : tb + runB false l < 480000) : Ct 3 yX6_putRun cX6_putRun 5 none 0 0 [.ref (ad 5), .int (nI l), .int 0] S (fun r S' => r = none ∧ Fm (fun f9 b9 => (f9 = 601 ∧ b9 = (ad 5)) ∨ (f9 = 608 ∧ b9 = (ad 5)) ∨ (f9 = 609 ∧ b9 = (ad 5))) (fun _ _ => False) (fun b9 => b9 = (ad 7)) S S' ∧ hI S' 601 (ad 5) = nI ((tb + runB false l) / 8) ∧ hI S' 609 (ad 5) = nI ((tb + runB false l) % 8)) := by
  refine ct_of (by decide) (Nat.le_of_ble_eq_true rfl) fun x hn9 C M hm9 => ?_
  have C : CB x RX6 cX6_putRun := C
  refine J.eq (lv' := [(0, .ref (ad 5)), (1, .int (nI l)), (2, .int 0)]) rfl rfl rfl ?_
  have hrb := runB_f1 hg
  refine j_iload_n C dX6_putRun_0 rfl 2 rfl ?_
  refine j_if_ne (tgt := 8) C dX6_putRun_1 (by decide) (fun c9 => absurd c9 (by decide)) (fun c9 => ?_)
  refine j_iconst (v := 0) C dX6_putRun_4 (by decide) ?_
  refine j_goto (tgt := 10) C dX6_putRun_5 (by decide) ?_
  refine j_istore_n (lv' := [(3, .int 0), (0, .ref (ad 5)), (1, .int (nI l)), (2, .int 0)]) C dX6_putRun_10 rfl (by rw [hn9]; decide) rfl ?_
  refine j_iload_n C dX6_putRun_11 rfl 2 rfl ?_
  refine j_bipush (v := 64) C dX6_putRun_12 (by decide) ?_
  refine j_ic_lt (tgt := 64) C dX6_putRun_14 (by decide) (fun c_14 => absurd c_14 (nI_nlt (b := 64) (by omega) (by omega))) (fun c_14 => ?_)
  show J _ _ _ _ _ 17 _
  refine j_iload_n C dX6_putRun_17 rfl 0 rfl ?_
  refine j_bipush (v := 64) C dX6_putRun_18 (by decide) ?_
  refine j_iadd (v := 64) C dX6_putRun_20 (by decide) ?_
  refine j_iconst (v := 1) C dX6_putRun_21 (by decide) ?_
  refine j_isub (v := 63) C dX6_putRun_22 (by decide) ?_
  refine j_iload_n C dX6_putRun_23 rfl 2 rfl ?_
  refine j_bipush (v := 64) C dX6_putRun_24 (by decide) ?_
  refine j_idiv (v := nI (l / 64)) C dX6_putRun_26 (by decide) (pk_div (d := 64) (by omega) (by decide) (by decide)) ?_
  show J _ _ _ _ _ 27 _
  refine j_iadd (v := nI (63 + (l / 64))) C dX6_putRun_27 (nI_add 63 (l / 64)) ?_
  refine j_istore (lv' := [(4, .int (nI (63 + (l / 64)))), (3, .int 0), (0, .ref (ad 5)), (1, .int (nI l)), (2, .int 0)]) C dX6_putRun_28 (by rw [hn9]; decide) rfl ?_
  refine j_iload C dX6_putRun_30 0 rfl ?_
  refine j_gets C 3 rfl (Or.inr ⟨_, gsX6_98⟩) dX6_putRun_32 ?_
  refine j_stlen (v := 148) C 3 rfl dX6_putRun_35 (by decide) ?_
  refine j_ic_ge (tgt := 64) C dX6_putRun_36 (by decide) (fun c_36 => absurd c_36 (nI_ge (b := 148) (by omega) (by decide))) (fun c_36 => ?_)
  refine j_iload C dX6_putRun_39 0 rfl ?_
  refine j_gets C 2 rfl (Or.inr ⟨_, gsX6_101⟩) dX6_putRun_41 ?_
  show J _ _ _ _ _ 44 _
  refine j_stlen (v := 148) C 2 rfl dX6_putRun_44 (by decide) ?_
  refine j_ic_ge (tgt := 64) C dX6_putRun_45 (by decide) (fun c_45 => absurd c_45 (nI_ge (b := 148) (by omega) (by decide))) (fun c_45 => ?_)
  refine j_aload_n C dX6_putRun_48 rfl 2 rfl ?_
  refine j_gets C 3 rfl (Or.inr ⟨_, gsX6_98⟩) dX6_putRun_49 ?_
  refine j_iload C dX6_putRun_52 0 rfl ?_
  refine j_stld (v := st_RUN_CODES.getD (63 + (l / 64)) 0) C 3 rfl dX6_putRun_54 (show vp_in (nI (63 + (l / 64))) 148 from vp_in_nI (by omega) (by omega)) (congrArg (fun z9 => st_RUN_CODES.getD z9 0) (nI_clamp (by omega))) ?_
  refine j_gets C 2 rfl (Or.inr ⟨_, gsX6_101⟩) dX6_putRun_55 ?_
  refine j_iload C dX6_putRun_58 0 rfl ?_
  show J _ _ _ _ _ 60 _
  refine j_stld (v := nI (rbN (63 + l / 64))) C 2 rfl dX6_putRun_60 (show vp_in (nI (63 + (l / 64))) 148 from vp_in_nI (by omega) (by omega)) ((congrArg (fun z9 => st_RUN_BITS.getD z9 0) (nI_clamp (by omega))).trans (rb_ok (63 + l / 64) (by omega))) ?_
  refine j_callV (ci := 6) C [.int (st_RUN_CODES.getD (63 + (l / 64)) 0), .int (nI (rbN (63 + l / 64)))] [] mlX6_80 mcX6_putBits (c_pb S ad hW (st_RUN_CODES.getD (63 + (l / 64)) 0) (rbN (63 + l / 64)) tb hI_601_ad5 hI_609_ad5 (rb_le (63 + l / 64) (by omega)) (by omega)) (wm_5 (S := S) hW) (wk_5 (S := S) hW) rfl (M.rm (by decide) (by decide) (Nat.le_of_ble_eq_true rfl) (Nat.le_of_ble_eq_true rfl)) rfl rfl (Nat.le_of_ble_eq_true rfl) dX6_putRun_61 (fun r_3 S_4 hp_5 => ?_)
  obtain ⟨rfl, hf_6, e_1, e_2⟩ := hp_5
  refine J.eq (st' := []) rfl rfl rfl ?_
  have hf_7 : Fm (fun f9 b9 => (f9 = 601 ∧ b9 = (ad 5)) ∨ (f9 = 608 ∧ b9 = (ad 5)) ∨ (f9 = 609 ∧ b9 = (ad 5))) (fun _ _ => False) (fun b9 => b9 = (ad 7)) S S_4 := (Fm.refl (WI := (fun f9 b9 => (f9 = 601 ∧ b9 = (ad 5)) ∨ (f9 = 608 ∧ b9 = (ad 5)) ∨ (f9 = 609 ∧ b9 = (ad 5)))) (WR := (fun _ _ => False)) (WA := (fun b9 => b9 = (ad 7)))).then hf_6 (fun a9 ha9 => ⟨(fun f9 h9 => (fun h9 => h9.elim (fun h8 => (Or.inl h8)) (fun h9 => h9.elim (fun h8 => (Or.inr (Or.inl h8))) (fun h8 => (Or.inr (Or.inr h8))))) h9), (fun f9 h9 => h9.elim), (fun h9 => (fun h8 => h8) h9)⟩)
  have hW_8 : Wd ad S_4 := hW.fm hf_6 (by intro _ _ h9; exact h9) (by intro p9 hp9; simp only [wqL, List.mem_cons, List.not_mem_nil, or_false] at hp9; rcases hp9 with rfl | rfl <;> intro h9 <;> skip <;> exact absurd h9 (wn hW (by decide) (by decide) (by decide)))
  refine j_iload_n C dX6_putRun_64 rfl 1 rfl ?_
  refine j_iload_n C dX6_putRun_65 rfl 3 rfl ?_
  refine j_bipush (v := 64) C dX6_putRun_66 (by decide) ?_
  refine j_irem (v := nI (l % 64)) C dX6_putRun_68 (by decide) (pk_rem (d := 64) (by omega) (by decide) (by decide)) ?_
  refine j_iadd (v := nI (0 + (l % 64))) C dX6_putRun_69 (nI_add 0 (l % 64)) ?_
  refine j_istore (lv' := [(4, .int (nI (0 + (l % 64)))), (3, .int 0), (0, .ref (ad 5)), (1, .int (nI l)), (2, .int 0)]) C dX6_putRun_70 (by rw [hn9]; decide) rfl ?_
  show J _ _ _ _ _ 72 _
  refine j_iload C dX6_putRun_72 0 rfl ?_
  refine j_if_lt (tgt := 111) C dX6_putRun_74 (by decide) (fun c_74 => absurd c_74 (nI_pos (by omega))) (fun c_74 => ?_)
  refine j_iload C dX6_putRun_77 0 rfl ?_
  refine j_gets C 3 rfl (Or.inr ⟨_, gsX6_98⟩) dX6_putRun_79 ?_
  refine j_stlen (v := 148) C 3 rfl dX6_putRun_82 (by decide) ?_
  refine j_ic_ge (tgt := 111) C dX6_putRun_83 (by decide) (fun c_83 => absurd c_83 (nI_ge (b := 148) (by omega) (by decide))) (fun c_83 => ?_)
  refine j_iload C dX6_putRun_86 0 rfl ?_
  refine j_gets C 2 rfl (Or.inr ⟨_, gsX6_101⟩) dX6_putRun_88 ?_
  show J _ _ _ _ _ 91 _
  refine j_stlen (v := 148) C 2 rfl dX6_putRun_91 (by decide) ?_
  refine j_ic_ge (tgt := 111) C dX6_putRun_92 (by decide) (fun c_92 => absurd c_92 (nI_ge (b := 148) (by omega) (by decide))) (fun c_92 => ?_)
  refine j_aload_n C dX6_putRun_95 rfl 2 rfl ?_
  refine j_gets C 3 rfl (Or.inr ⟨_, gsX6_98⟩) dX6_putRun_96 ?_
  refine j_iload C dX6_putRun_99 0 rfl ?_
  refine j_stld (v := st_RUN_CODES.getD (0 + (l % 64)) 0) C 3 rfl dX6_putRun_101 (show vp_in (nI (0 + (l % 64))) 148 from vp_in_nI (by omega) (by omega)) (congrArg (fun z9 => st_RUN_CODES.getD z9 0) (nI_clamp (by omega))) ?_
  refine j_gets C 2 rfl (Or.inr ⟨_, gsX6_101⟩) dX6_putRun_102 ?_
  refine j_iload C dX6_putRun_105 0 rfl ?_
  show J _ _ _ _ _ 107 _
  refine j_stld (v := nI (rbN (0 + l % 64))) C 2 rfl dX6_putRun_107 (show vp_in (nI (0 + (l % 64))) 148 from vp_in_nI (by omega) (by omega)) ((congrArg (fun z9 => st_RUN_BITS.getD z9 0) (nI_clamp (by omega))).trans (rb_ok (0 + l % 64) (by omega))) ?_
  refine j_callV (ci := 6) C [.int (st_RUN_CODES.getD (0 + (l % 64)) 0), .int (nI (rbN (0 + l % 64)))] [] mlX6_80 mcX6_putBits (c_pb S_4 ad hW_8 (st_RUN_CODES.getD (0 + (l % 64)) 0) (rbN (0 + l % 64)) (tb + (rbN (63 + l / 64))) e_1 e_2 (rb_le (0 + l % 64) (by omega)) (by omega)) (wm_5 (S := S_4) hW_8) (wk_5 (S := S_4) hW_8) rfl (M.rm (by decide) (by decide) (Nat.le_of_ble_eq_true rfl) (Nat.le_of_ble_eq_true rfl)) rfl rfl (Nat.le_of_ble_eq_true rfl) dX6_putRun_108 (fun r_11 S_12 hp_13 => ?_)
  obtain ⟨rfl, hf_14, e_9, e_10⟩ := hp_13
  refine J.eq (st' := []) rfl rfl rfl ?_
  have hf_15 : Fm (fun f9 b9 => (f9 = 601 ∧ b9 = (ad 5)) ∨ (f9 = 608 ∧ b9 = (ad 5)) ∨ (f9 = 609 ∧ b9 = (ad 5))) (fun _ _ => False) (fun b9 => b9 = (ad 7)) S S_12 := hf_7.then hf_14 (fun a9 ha9 => ⟨(fun f9 h9 => (fun h9 => h9.elim (fun h8 => (Or.inl h8)) (fun h9 => h9.elim (fun h8 => (Or.inr (Or.inl h8))) (fun h8 => (Or.inr (Or.inr h8))))) h9), (fun f9 h9 => h9.elim), (fun h9 => (fun h8 => h8) h9)⟩)
  have hW_16 : Wd ad S_12 := hW_8.fm hf_14 (by intro _ _ h9; exact h9) (by intro p9 hp9; simp only [wqL, List.mem_cons, List.not_mem_nil, or_false] at hp9; rcases hp9 with rfl | rfl <;> intro h9 <;> skip <;> exact absurd h9 (wn hW_8 (by decide) (by decide) (by decide)))
  exact j_vret C M dX6_putRun_111 (Nat.le_of_ble_eq_true rfl) (Nat.le_of_ble_eq_true rfl) ⟨rfl, hf_15, (e_9.trans (congrArg nI (by omega))), (e_10.trans (congrArg nI (by omega)))⟩

set_option maxRecDepth 100000 in
set_option maxHeartbeats 4000000 in
theorem c_pr10 (S : Hp) (ad : Nat → Nat) (hW : Wd ad S) (l : Nat) (tb : Nat) (hI_601_ad5 : hI S 601 (ad 5) = nI (tb / 8)) (hI_609_ad5 : hI S 609 (ad 5) = nI (tb % 8)) (hl : l < 201) (hg : ¬ 64 ≤ l) (ht : tb + runB true l < 480000) : Ct 3 yX6_putRun cX6_putRun 5 none 0 0 [.ref (ad 5), .int (nI l), .int 1] S (fun r S' => r = none ∧ Fm (fun f9 b9 => (f9 = 601 ∧ b9 = (ad 5)) ∨ (f9 = 608 ∧ b9 = (ad 5)) ∨ (f9 = 609 ∧ b9 = (ad 5))) (fun _ _ => False) (fun b9 => b9 = (ad 7)) S S' ∧ hI S' 601 (ad 5) = nI ((tb + runB true l) / 8) ∧ hI S' 609 (ad 5) = nI ((tb + runB true l) % 8)) := by
  refine ct_of (by decide) (Nat.le_of_ble_eq_true rfl) fun x hn9 C M hm9 => ?_
  have C : CB x RX6 cX6_putRun := C
  refine J.eq (lv' := [(0, .ref (ad 5)), (1, .int (nI l)), (2, .int 1)]) rfl rfl rfl ?_
  have hrb := runB_t0 hg
  refine j_iload_n C dX6_putRun_0 rfl 2 rfl ?_
  refine j_if_ne (tgt := 8) C dX6_putRun_1 (by decide) (fun c9 => ?_) (fun c9 => absurd c9 (by decide))
  refine j_bipush (v := 74) C dX6_putRun_8 (by decide) ?_
  refine j_istore_n (lv' := [(3, .int 74), (0, .ref (ad 5)), (1, .int (nI l)), (2, .int 1)]) C dX6_putRun_10 rfl (by rw [hn9]; decide) rfl ?_
  refine j_iload_n C dX6_putRun_11 rfl 2 rfl ?_
  refine j_bipush (v := 64) C dX6_putRun_12 (by decide) ?_
  refine j_ic_lt (tgt := 64) C dX6_putRun_14 (by decide) (fun c_14 => ?_) (fun c_14 => absurd (nI_lt (b := 64) (by omega) (by decide)) c_14)
  refine j_iload_n C dX6_putRun_64 rfl 0 rfl ?_
  show J _ _ _ _ _ 65 _
  refine j_iload_n C dX6_putRun_65 rfl 2 rfl ?_
  refine j_bipush (v := 64) C dX6_putRun_66 (by decide) ?_
  refine j_irem (v := nI (l % 64)) C dX6_putRun_68 (by decide) (pk_rem (d := 64) (by omega) (by decide) (by decide)) ?_
  refine j_iadd (v := nI (74 + (l % 64))) C dX6_putRun_69 (nI_add 74 (l % 64)) ?_
  refine j_istore (lv' := [(4, .int (nI (74 + (l % 64)))), (3, .int 74), (0, .ref (ad 5)), (1, .int (nI l)), (2, .int 1)]) C dX6_putRun_70 (by rw [hn9]; decide) rfl ?_
  refine j_iload C dX6_putRun_72 0 rfl ?_
  refine j_if_lt (tgt := 111) C dX6_putRun_74 (by decide) (fun c_74 => absurd c_74 (nI_pos (by omega))) (fun c_74 => ?_)
  refine j_iload C dX6_putRun_77 0 rfl ?_
  show J _ _ _ _ _ 79 _
  refine j_gets C 3 rfl (Or.inr ⟨_, gsX6_98⟩) dX6_putRun_79 ?_
  refine j_stlen (v := 148) C 3 rfl dX6_putRun_82 (by decide) ?_
  refine j_ic_ge (tgt := 111) C dX6_putRun_83 (by decide) (fun c_83 => absurd c_83 (nI_ge (b := 148) (by omega) (by decide))) (fun c_83 => ?_)
  refine j_iload C dX6_putRun_86 0 rfl ?_
  refine j_gets C 2 rfl (Or.inr ⟨_, gsX6_101⟩) dX6_putRun_88 ?_
  refine j_stlen (v := 148) C 2 rfl dX6_putRun_91 (by decide) ?_
  refine j_ic_ge (tgt := 111) C dX6_putRun_92 (by decide) (fun c_92 => absurd c_92 (nI_ge (b := 148) (by omega) (by decide))) (fun c_92 => ?_)
  refine j_aload_n C dX6_putRun_95 rfl 2 rfl ?_
  show J _ _ _ _ _ 96 _
  refine j_gets C 3 rfl (Or.inr ⟨_, gsX6_98⟩) dX6_putRun_96 ?_
  refine j_iload C dX6_putRun_99 0 rfl ?_
  refine j_stld (v := st_RUN_CODES.getD (74 + (l % 64)) 0) C 3 rfl dX6_putRun_101 (show vp_in (nI (74 + (l % 64))) 148 from vp_in_nI (by omega) (by omega)) (congrArg (fun z9 => st_RUN_CODES.getD z9 0) (nI_clamp (by omega))) ?_
  refine j_gets C 2 rfl (Or.inr ⟨_, gsX6_101⟩) dX6_putRun_102 ?_
  refine j_iload C dX6_putRun_105 0 rfl ?_
  refine j_stld (v := nI (rbN (74 + l % 64))) C 2 rfl dX6_putRun_107 (show vp_in (nI (74 + (l % 64))) 148 from vp_in_nI (by omega) (by omega)) ((congrArg (fun z9 => st_RUN_BITS.getD z9 0) (nI_clamp (by omega))).trans (rb_ok (74 + l % 64) (by omega))) ?_
  refine j_callV (ci := 6) C [.int (st_RUN_CODES.getD (74 + (l % 64)) 0), .int (nI (rbN (74 + l % 64)))] [] mlX6_80 mcX6_putBits (c_pb S ad hW (st_RUN_CODES.getD (74 + (l % 64)) 0) (rbN (74 + l % 64)) tb hI_601_ad5 hI_609_ad5 (rb_le (74 + l % 64) (by omega)) (by omega)) (wm_5 (S := S) hW) (wk_5 (S := S) hW) rfl (M.rm (by decide) (by decide) (Nat.le_of_ble_eq_true rfl) (Nat.le_of_ble_eq_true rfl)) rfl rfl (Nat.le_of_ble_eq_true rfl) dX6_putRun_108 (fun r_3 S_4 hp_5 => ?_)
  obtain ⟨rfl, hf_6, e_1, e_2⟩ := hp_5
  refine J.eq (st' := []) rfl rfl rfl ?_
  have hf_7 : Fm (fun f9 b9 => (f9 = 601 ∧ b9 = (ad 5)) ∨ (f9 = 608 ∧ b9 = (ad 5)) ∨ (f9 = 609 ∧ b9 = (ad 5))) (fun _ _ => False) (fun b9 => b9 = (ad 7)) S S_4 := (Fm.refl (WI := (fun f9 b9 => (f9 = 601 ∧ b9 = (ad 5)) ∨ (f9 = 608 ∧ b9 = (ad 5)) ∨ (f9 = 609 ∧ b9 = (ad 5)))) (WR := (fun _ _ => False)) (WA := (fun b9 => b9 = (ad 7)))).then hf_6 (fun a9 ha9 => ⟨(fun f9 h9 => (fun h9 => h9.elim (fun h8 => (Or.inl h8)) (fun h9 => h9.elim (fun h8 => (Or.inr (Or.inl h8))) (fun h8 => (Or.inr (Or.inr h8))))) h9), (fun f9 h9 => h9.elim), (fun h9 => (fun h8 => h8) h9)⟩)
  have hW_8 : Wd ad S_4 := hW.fm hf_6 (by intro _ _ h9; exact h9) (by intro p9 hp9; simp only [wqL, List.mem_cons, List.not_mem_nil, or_false] at hp9; rcases hp9 with rfl | rfl <;> intro h9 <;> skip <;> exact absurd h9 (wn hW (by decide) (by decide) (by decide)))
  exact j_vret C M dX6_putRun_111 (Nat.le_of_ble_eq_true rfl) (Nat.le_of_ble_eq_true rfl) ⟨rfl, hf_7, (e_1.trans (congrArg nI (by omega))), (e_2.trans (congrArg nI (by omega)))⟩

set_option maxRecDepth 100000 in
set_option maxHeartbeats 4000000 in
theorem c_pr11 (S : Hp) (ad : Nat → Nat) (hW : Wd ad S) (l : Nat) (tb : Nat) (hI_601_ad5 : hI S 601 (ad 5) = nI (tb / 8)) (hI_609_ad5 : hI S 609 (ad 5) = nI (tb % 8)) (hl : l < 201) (hg : 64 ≤ l) (ht : tb + runB true l < 480000) : Ct 3 yX6_putRun cX6_putRun 5 none 0 0 [.ref (ad 5), .int (nI l), .int 1] S (fun r S' => r = none ∧ Fm (fun f9 b9 => (f9 = 601 ∧ b9 = (ad 5)) ∨ (f9 = 608 ∧ b9 = (ad 5)) ∨ (f9 = 609 ∧ b9 = (ad 5))) (fun _ _ => False) (fun b9 => b9 = (ad 7)) S S' ∧ hI S' 601 (ad 5) = nI ((tb + runB true l) / 8) ∧ hI S' 609 (ad 5) = nI ((tb + runB true l) % 8)) := by
  refine ct_of (by decide) (Nat.le_of_ble_eq_true rfl) fun x hn9 C M hm9 => ?_
  have C : CB x RX6 cX6_putRun := C
  refine J.eq (lv' := [(0, .ref (ad 5)), (1, .int (nI l)), (2, .int 1)]) rfl rfl rfl ?_
  have hrb := runB_t1 hg
  refine j_iload_n C dX6_putRun_0 rfl 2 rfl ?_
  refine j_if_ne (tgt := 8) C dX6_putRun_1 (by decide) (fun c9 => ?_) (fun c9 => absurd c9 (by decide))
  refine j_bipush (v := 74) C dX6_putRun_8 (by decide) ?_
  refine j_istore_n (lv' := [(3, .int 74), (0, .ref (ad 5)), (1, .int (nI l)), (2, .int 1)]) C dX6_putRun_10 rfl (by rw [hn9]; decide) rfl ?_
  refine j_iload_n C dX6_putRun_11 rfl 2 rfl ?_
  refine j_bipush (v := 64) C dX6_putRun_12 (by decide) ?_
  refine j_ic_lt (tgt := 64) C dX6_putRun_14 (by decide) (fun c_14 => absurd c_14 (nI_nlt (b := 64) (by omega) (by omega))) (fun c_14 => ?_)
  refine j_iload_n C dX6_putRun_17 rfl 0 rfl ?_
  show J _ _ _ _ _ 18 _
  refine j_bipush (v := 64) C dX6_putRun_18 (by decide) ?_
  refine j_iadd (v := 138) C dX6_putRun_20 (by decide) ?_
  refine j_iconst (v := 1) C dX6_putRun_21 (by decide) ?_
  refine j_isub (v := 137) C dX6_putRun_22 (by decide) ?_
  refine j_iload_n C dX6_putRun_23 rfl 2 rfl ?_
  refine j_bipush (v := 64) C dX6_putRun_24 (by decide) ?_
  refine j_idiv (v := nI (l / 64)) C dX6_putRun_26 (by decide) (pk_div (d := 64) (by omega) (by decide) (by decide)) ?_
  refine j_iadd (v := nI (137 + (l / 64))) C dX6_putRun_27 (nI_add 137 (l / 64)) ?_
  show J _ _ _ _ _ 28 _
  refine j_istore (lv' := [(4, .int (nI (137 + (l / 64)))), (3, .int 74), (0, .ref (ad 5)), (1, .int (nI l)), (2, .int 1)]) C dX6_putRun_28 (by rw [hn9]; decide) rfl ?_
  refine j_iload C dX6_putRun_30 0 rfl ?_
  refine j_gets C 3 rfl (Or.inr ⟨_, gsX6_98⟩) dX6_putRun_32 ?_
  refine j_stlen (v := 148) C 3 rfl dX6_putRun_35 (by decide) ?_
  refine j_ic_ge (tgt := 64) C dX6_putRun_36 (by decide) (fun c_36 => absurd c_36 (nI_ge (b := 148) (by omega) (by decide))) (fun c_36 => ?_)
  refine j_iload C dX6_putRun_39 0 rfl ?_
  refine j_gets C 2 rfl (Or.inr ⟨_, gsX6_101⟩) dX6_putRun_41 ?_
  refine j_stlen (v := 148) C 2 rfl dX6_putRun_44 (by decide) ?_
  show J _ _ _ _ _ 45 _
  refine j_ic_ge (tgt := 64) C dX6_putRun_45 (by decide) (fun c_45 => absurd c_45 (nI_ge (b := 148) (by omega) (by decide))) (fun c_45 => ?_)
  refine j_aload_n C dX6_putRun_48 rfl 2 rfl ?_
  refine j_gets C 3 rfl (Or.inr ⟨_, gsX6_98⟩) dX6_putRun_49 ?_
  refine j_iload C dX6_putRun_52 0 rfl ?_
  refine j_stld (v := st_RUN_CODES.getD (137 + (l / 64)) 0) C 3 rfl dX6_putRun_54 (show vp_in (nI (137 + (l / 64))) 148 from vp_in_nI (by omega) (by omega)) (congrArg (fun z9 => st_RUN_CODES.getD z9 0) (nI_clamp (by omega))) ?_
  refine j_gets C 2 rfl (Or.inr ⟨_, gsX6_101⟩) dX6_putRun_55 ?_
  refine j_iload C dX6_putRun_58 0 rfl ?_
  refine j_stld (v := nI (rbN (137 + l / 64))) C 2 rfl dX6_putRun_60 (show vp_in (nI (137 + (l / 64))) 148 from vp_in_nI (by omega) (by omega)) ((congrArg (fun z9 => st_RUN_BITS.getD z9 0) (nI_clamp (by omega))).trans (rb_ok (137 + l / 64) (by omega))) ?_
  show J _ _ _ _ _ 61 _
  refine j_callV (ci := 6) C [.int (st_RUN_CODES.getD (137 + (l / 64)) 0), .int (nI (rbN (137 + l / 64)))] [] mlX6_80 mcX6_putBits (c_pb S ad hW (st_RUN_CODES.getD (137 + (l / 64)) 0) (rbN (137 + l / 64)) tb hI_601_ad5 hI_609_ad5 (rb_le (137 + l / 64) (by omega)) (by omega)) (wm_5 (S := S) hW) (wk_5 (S := S) hW) rfl (M.rm (by decide) (by decide) (Nat.le_of_ble_eq_true rfl) (Nat.le_of_ble_eq_true rfl)) rfl rfl (Nat.le_of_ble_eq_true rfl) dX6_putRun_61 (fun r_3 S_4 hp_5 => ?_)
  obtain ⟨rfl, hf_6, e_1, e_2⟩ := hp_5
  refine J.eq (st' := []) rfl rfl rfl ?_
  have hf_7 : Fm (fun f9 b9 => (f9 = 601 ∧ b9 = (ad 5)) ∨ (f9 = 608 ∧ b9 = (ad 5)) ∨ (f9 = 609 ∧ b9 = (ad 5))) (fun _ _ => False) (fun b9 => b9 = (ad 7)) S S_4 := (Fm.refl (WI := (fun f9 b9 => (f9 = 601 ∧ b9 = (ad 5)) ∨ (f9 = 608 ∧ b9 = (ad 5)) ∨ (f9 = 609 ∧ b9 = (ad 5)))) (WR := (fun _ _ => False)) (WA := (fun b9 => b9 = (ad 7)))).then hf_6 (fun a9 ha9 => ⟨(fun f9 h9 => (fun h9 => h9.elim (fun h8 => (Or.inl h8)) (fun h9 => h9.elim (fun h8 => (Or.inr (Or.inl h8))) (fun h8 => (Or.inr (Or.inr h8))))) h9), (fun f9 h9 => h9.elim), (fun h9 => (fun h8 => h8) h9)⟩)
  have hW_8 : Wd ad S_4 := hW.fm hf_6 (by intro _ _ h9; exact h9) (by intro p9 hp9; simp only [wqL, List.mem_cons, List.not_mem_nil, or_false] at hp9; rcases hp9 with rfl | rfl <;> intro h9 <;> skip <;> exact absurd h9 (wn hW (by decide) (by decide) (by decide)))
  refine j_iload_n C dX6_putRun_64 rfl 1 rfl ?_
  refine j_iload_n C dX6_putRun_65 rfl 3 rfl ?_
  refine j_bipush (v := 64) C dX6_putRun_66 (by decide) ?_
  refine j_irem (v := nI (l % 64)) C dX6_putRun_68 (by decide) (pk_rem (d := 64) (by omega) (by decide) (by decide)) ?_
  refine j_iadd (v := nI (74 + (l % 64))) C dX6_putRun_69 (nI_add 74 (l % 64)) ?_
  refine j_istore (lv' := [(4, .int (nI (74 + (l % 64)))), (3, .int 74), (0, .ref (ad 5)), (1, .int (nI l)), (2, .int 1)]) C dX6_putRun_70 (by rw [hn9]; decide) rfl ?_
  refine j_iload C dX6_putRun_72 0 rfl ?_
  show J _ _ _ _ _ 74 _
  refine j_if_lt (tgt := 111) C dX6_putRun_74 (by decide) (fun c_74 => absurd c_74 (nI_pos (by omega))) (fun c_74 => ?_)
  refine j_iload C dX6_putRun_77 0 rfl ?_
  refine j_gets C 3 rfl (Or.inr ⟨_, gsX6_98⟩) dX6_putRun_79 ?_
  refine j_stlen (v := 148) C 3 rfl dX6_putRun_82 (by decide) ?_
  refine j_ic_ge (tgt := 111) C dX6_putRun_83 (by decide) (fun c_83 => absurd c_83 (nI_ge (b := 148) (by omega) (by decide))) (fun c_83 => ?_)
  refine j_iload C dX6_putRun_86 0 rfl ?_
  refine j_gets C 2 rfl (Or.inr ⟨_, gsX6_101⟩) dX6_putRun_88 ?_
  refine j_stlen (v := 148) C 2 rfl dX6_putRun_91 (by decide) ?_
  show J _ _ _ _ _ 92 _
  refine j_ic_ge (tgt := 111) C dX6_putRun_92 (by decide) (fun c_92 => absurd c_92 (nI_ge (b := 148) (by omega) (by decide))) (fun c_92 => ?_)
  refine j_aload_n C dX6_putRun_95 rfl 2 rfl ?_
  refine j_gets C 3 rfl (Or.inr ⟨_, gsX6_98⟩) dX6_putRun_96 ?_
  refine j_iload C dX6_putRun_99 0 rfl ?_
  refine j_stld (v := st_RUN_CODES.getD (74 + (l % 64)) 0) C 3 rfl dX6_putRun_101 (show vp_in (nI (74 + (l % 64))) 148 from vp_in_nI (by omega) (by omega)) (congrArg (fun z9 => st_RUN_CODES.getD z9 0) (nI_clamp (by omega))) ?_
  refine j_gets C 2 rfl (Or.inr ⟨_, gsX6_101⟩) dX6_putRun_102 ?_
  refine j_iload C dX6_putRun_105 0 rfl ?_
  refine j_stld (v := nI (rbN (74 + l % 64))) C 2 rfl dX6_putRun_107 (show vp_in (nI (74 + (l % 64))) 148 from vp_in_nI (by omega) (by omega)) ((congrArg (fun z9 => st_RUN_BITS.getD z9 0) (nI_clamp (by omega))).trans (rb_ok (74 + l % 64) (by omega))) ?_
  show J _ _ _ _ _ 108 _
  refine j_callV (ci := 6) C [.int (st_RUN_CODES.getD (74 + (l % 64)) 0), .int (nI (rbN (74 + l % 64)))] [] mlX6_80 mcX6_putBits (c_pb S_4 ad hW_8 (st_RUN_CODES.getD (74 + (l % 64)) 0) (rbN (74 + l % 64)) (tb + (rbN (137 + l / 64))) e_1 e_2 (rb_le (74 + l % 64) (by omega)) (by omega)) (wm_5 (S := S_4) hW_8) (wk_5 (S := S_4) hW_8) rfl (M.rm (by decide) (by decide) (Nat.le_of_ble_eq_true rfl) (Nat.le_of_ble_eq_true rfl)) rfl rfl (Nat.le_of_ble_eq_true rfl) dX6_putRun_108 (fun r_11 S_12 hp_13 => ?_)
  obtain ⟨rfl, hf_14, e_9, e_10⟩ := hp_13
  refine J.eq (st' := []) rfl rfl rfl ?_
  have hf_15 : Fm (fun f9 b9 => (f9 = 601 ∧ b9 = (ad 5)) ∨ (f9 = 608 ∧ b9 = (ad 5)) ∨ (f9 = 609 ∧ b9 = (ad 5))) (fun _ _ => False) (fun b9 => b9 = (ad 7)) S S_12 := hf_7.then hf_14 (fun a9 ha9 => ⟨(fun f9 h9 => (fun h9 => h9.elim (fun h8 => (Or.inl h8)) (fun h9 => h9.elim (fun h8 => (Or.inr (Or.inl h8))) (fun h8 => (Or.inr (Or.inr h8))))) h9), (fun f9 h9 => h9.elim), (fun h9 => (fun h8 => h8) h9)⟩)
  have hW_16 : Wd ad S_12 := hW_8.fm hf_14 (by intro _ _ h9; exact h9) (by intro p9 hp9; simp only [wqL, List.mem_cons, List.not_mem_nil, or_false] at hp9; rcases hp9 with rfl | rfl <;> intro h9 <;> skip <;> exact absurd h9 (wn hW_8 (by decide) (by decide) (by decide)))
  exact j_vret C M dX6_putRun_111 (Nat.le_of_ble_eq_true rfl) (Nat.le_of_ble_eq_true rfl) ⟨rfl, hf_15, (e_9.trans (congrArg nI (by omega))), (e_10.trans (congrArg nI (by omega)))⟩

theorem c_pr (S : Hp) (ad : Nat → Nat) (hW : Wd ad S) (l : Nat) (c : Bool) (tb : Nat) (h1 : hI S 601 (ad 5) = nI (tb / 8)) (h2 : hI S 609 (ad 5) = nI (tb % 8)) (hl : l < 201) (ht : tb + runB c l < 480000) : Ct 3 yX6_putRun cX6_putRun 5 none 0 0 [.ref (ad 5), .int (nI l), .int (cI c)] S (fun r S' => r = none ∧ Fm (fun f9 b9 => (f9 = 601 ∧ b9 = (ad 5)) ∨ (f9 = 608 ∧ b9 = (ad 5)) ∨ (f9 = 609 ∧ b9 = (ad 5))) (fun _ _ => False) (fun b9 => b9 = (ad 7)) S S' ∧ hI S' 601 (ad 5) = nI ((tb + runB c l) / 8) ∧ hI S' 609 (ad 5) = nI ((tb + runB c l) % 8)) := by
  cases c <;> by_cases h : 64 ≤ l
  · exact c_pr01 S ad hW l tb h1 h2 hl h ht
  · exact c_pr00 S ad hW l tb h1 h2 hl h ht
  · exact c_pr11 S ad hW l tb h1 h2 hl h ht
  · exact c_pr10 S ad hW l tb h1 h2 hl h ht
