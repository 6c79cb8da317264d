/-- an int's bits as a number -/
def wN (x : Int32) : Nat := x.toBitVec.toNat
theorem wN_lt (x : Int32) : wN x < 4294967296 := x.toBitVec.isLt
theorem i8_id : ∀ b, b < 128 → (nI b).toInt8.toInt32 = nI b := by decide +kernel
theorem fits_b : ∀ b, b < 128 → fits .byte (.int (nI b)) = true := by decide +kernel
theorem i8_of {x : Int32} {b : Nat} (h : wN x % 256 = b) (hb : b < 128) : x.toInt8.toInt32 = nI b := by
  have e : x.toInt8 = (nI b).toInt8 := by
    apply Int8.toBitVec_inj.1
    show x.toBitVec.signExtend 8 = (BitVec.ofNat 32 b).signExtend 8
    rw [BitVec.signExtend_eq_setWidth_of_le _ (by decide), BitVec.signExtend_eq_setWidth_of_le _ (by decide)]
    apply BitVec.eq_of_toNat_eq
    rw [BitVec.toNat_setWidth, BitVec.toNat_setWidth, BitVec.toNat_ofNat]
    have h1 : x.toBitVec.toNat % 256 = b := h
    omega
  rw [e, i8_id b hb]
theorem byte_sh {x s : Int32} {k b : Nat} (hs : (s.toBitVec.smod 32).toNat = k) (hk : k ≤ 24) (h : wN x / 2 ^ k % 256 = b) (hb : b < 128) : (x >>> s).toInt8.toInt32 = nI b := by
  refine i8_of ?_ hb
  have e : (x >>> s).toBitVec = x.toBitVec.sshiftRight k := by
    rw [← hs]; rfl
  have e2 : (x >>> s).toBitVec.toNat % 256 = x.toBitVec.toNat / 2 ^ k % 256 := by
    rw [e]
    have e3 : (x.toBitVec.sshiftRight k).setWidth 8 = (x.toBitVec >>> k).setWidth 8 := by
      apply BitVec.eq_of_getLsbD_eq
      intro i hi
      rw [BitVec.getLsbD_setWidth, BitVec.getLsbD_setWidth, BitVec.getLsbD_sshiftRight, BitVec.getLsbD_ushiftRight]
      simp [hi, show k + i < 32 by omega]
      omega
    have e4 := congrArg BitVec.toNat e3
    rw [BitVec.toNat_setWidth, BitVec.toNat_setWidth, BitVec.toNat_ushiftRight, Nat.shiftRight_eq_div_pow] at e4
    exact e4
  exact e2.trans h
/-- an int's four bytes stand in B from p on -/
def W4 (v : Int32) (B : Nat → Nat) (p : Nat) : Prop := wN v / 2 ^ 24 % 256 = B p ∧ wN v / 2 ^ 16 % 256 = B (p + 1) ∧ wN v / 2 ^ 8 % 256 = B (p + 1 + 1) ∧ wN v / 2 ^ 0 % 256 = B (p + 1 + 1 + 1)
theorem str_t {S : Hp} {a t : Nat} {B : Nat → Nat} {v : Int32} (h : STR (aI S a) B t) (hv : v = nI (B t)) (hb : B t < 128) : STR (aI (tI S a t v) a) B (t + 1) := fun j hj => by
  rw [aI_tI]
  by_cases e : j = t
  · subst e
    rw [if_pos ⟨rfl, rfl⟩]
    exact ⟨hv, hb⟩
  · rw [if_neg (fun q => e q.2)]
    exact h j (by omega)
theorem str_sI {S : Hp} {a n g b : Nat} {v : Int32} {B : Nat → Nat} (h : STR (aI S a) B n) : STR (aI (sI S g b v) a) B n := h
theorem str_le {D : Nat → Int32} {B : Nat → Nat} {n m : Nat} (h : STR D B m) (hm : n ≤ m) : STR D B n := fun j hj => h j (by omega)

theorem dX11_feedNumber_0 : decode cX11_feedNumber 0 = .ok (.bipush 24, 2) := by decide +kernel
theorem dX11_feedNumber_2 : decode cX11_feedNumber 2 = .ok (.istore_n 2, 1) := by decide +kernel
theorem dX11_feedNumber_3 : decode cX11_feedNumber 3 = .ok (.iload_n 2, 1) := by decide +kernel
theorem dX11_feedNumber_4 : decode cX11_feedNumber 4 = .ok (.ifCond .lt 51, 3) := by decide +kernel
theorem dX11_feedNumber_7 : decode cX11_feedNumber 7 = .ok (.aload_n 0, 1) := by decide +kernel
theorem dX11_feedNumber_8 : decode cX11_feedNumber 8 = .ok (.getfield 53, 3) := by decide +kernel
theorem dX11_feedNumber_11 : decode cX11_feedNumber 11 = .ok (.ifCond .lt 38, 3) := by decide +kernel
theorem dX11_feedNumber_14 : decode cX11_feedNumber 14 = .ok (.aload_n 0, 1) := by decide +kernel
theorem dX11_feedNumber_15 : decode cX11_feedNumber 15 = .ok (.getfield 53, 3) := by decide +kernel
theorem dX11_feedNumber_18 : decode cX11_feedNumber 18 = .ok (.aload_n 0, 1) := by decide +kernel
theorem dX11_feedNumber_19 : decode cX11_feedNumber 19 = .ok (.getfield 9, 3) := by decide +kernel
theorem dX11_feedNumber_22 : decode cX11_feedNumber 22 = .ok (.arraylength, 1) := by decide +kernel
theorem dX11_feedNumber_23 : decode cX11_feedNumber 23 = .ok (.if_icmp .ge 26, 3) := by decide +kernel
theorem dX11_feedNumber_26 : decode cX11_feedNumber 26 = .ok (.aload_n 0, 1) := by decide +kernel
theorem dX11_feedNumber_27 : decode cX11_feedNumber 27 = .ok (.getfield 9, 3) := by decide +kernel
theorem dX11_feedNumber_30 : decode cX11_feedNumber 30 = .ok (.aload_n 0, 1) := by decide +kernel
theorem dX11_feedNumber_31 : decode cX11_feedNumber 31 = .ok (.getfield 53, 3) := by decide +kernel
theorem dX11_feedNumber_34 : decode cX11_feedNumber 34 = .ok (.iload_n 1, 1) := by decide +kernel
theorem dX11_feedNumber_35 : decode cX11_feedNumber 35 = .ok (.iload_n 2, 1) := by decide +kernel
theorem dX11_feedNumber_36 : decode cX11_feedNumber 36 = .ok (.ishr, 1) := by decide +kernel
theorem dX11_feedNumber_37 : decode cX11_feedNumber 37 = .ok (.i2b, 1) := by decide +kernel
theorem dX11_feedNumber_38 : decode cX11_feedNumber 38 = .ok (.bastore, 1) := by decide +kernel
theorem dX11_feedNumber_39 : decode cX11_feedNumber 39 = .ok (.aload_n 0, 1) := by decide +kernel
theorem dX11_feedNumber_40 : decode cX11_feedNumber 40 = .ok (.dup, 1) := by decide +kernel
theorem dX11_feedNumber_41 : decode cX11_feedNumber 41 = .ok (.getfield 53, 3) := by decide +kernel
theorem dX11_feedNumber_44 : decode cX11_feedNumber 44 = .ok (.iconst 1, 1) := by decide +kernel
theorem dX11_feedNumber_45 : decode cX11_feedNumber 45 = .ok (.iadd, 1) := by decide +kernel
theorem dX11_feedNumber_46 : decode cX11_feedNumber 46 = .ok (.putfield 53, 3) := by decide +kernel
theorem dX11_feedNumber_49 : decode cX11_feedNumber 49 = .ok (.iinc 2 (-8), 3) := by decide +kernel
theorem dX11_feedNumber_52 : decode cX11_feedNumber 52 = .ok (.goto (-49), 3) := by decide +kernel
theorem dX11_feedNumber_55 : decode cX11_feedNumber 55 = .ok (.return_, 1) := by decide +kernel

set_option maxRecDepth 100000 in
set_option maxHeartbeats 4000000 in
theorem c_X11_feedNumber (S : Hp) (ad : Nat → Nat) (hW : Wd ad S) (v0 : Int32) (t9 : Nat) (B : Nat → Nat) (hI_1101_ad0 : hI S 1101 (ad 0) = nI t9) (hs : STR (aI S (ad 1)) B t9) (h4 : W4 v0 B t9) (hb : ∀ j, B j < 128) (ht : t9 + 4 ≤ 8000) : Ct 1 yX11_feedNumber cX11_feedNumber 3 none 0 0 [.ref (ad 0), .int v0] S (fun r S' => r = none ∧ Fm (fun f9 b9 => (f9 = 1101 ∧ b9 = (ad 0))) (fun _ _ => False) (fun b9 => b9 = (ad 1)) S S' ∧ hI S' 1101 (ad 0) = nI (t9 + 4) ∧ STR (aI S' (ad 1)) B (t9 + 4)) := by
  refine ct_of (by decide) (Nat.le_of_ble_eq_true rfl) fun x hn9 C M hm9 => ?_
  have C : CB x RX11 cX11_feedNumber := C
  refine J.eq (lv' := [(0, .ref (ad 0)), (1, .int v0)]) rfl rfl rfl ?_
  refine j_bipush (v := 24) C dX11_feedNumber_0 (by decide) ?_
  refine j_istore_n (lv' := [(2, .int 24), (0, .ref (ad 0)), (1, .int v0)]) C dX11_feedNumber_2 rfl (by rw [hn9]; decide) rfl ?_
  refine j_iload_n C dX11_feedNumber_3 rfl 0 rfl ?_
  refine j_if_lt (tgt := 55) C dX11_feedNumber_4 (by decide) (fun c9 => absurd c9 (by decide)) (fun c9 => ?_)
  refine j_aload_n C dX11_feedNumber_7 rfl 1 rfl ?_
  refine j_geti (f := 1101) (v := nI t9) C flX11_53 dX11_feedNumber_8 (wm_0 (S := S) hW) (wk_0 (S := S) hW) (by decide) (by decide) rfl hI_1101_ad0 ?_
  refine j_if_lt (tgt := 49) C dX11_feedNumber_11 (by decide) (fun c_11 => absurd c_11 (nI_pos (by omega))) (fun c_11 => ?_)
  refine j_aload_n C dX11_feedNumber_14 rfl 1 rfl ?_
  show J _ _ _ _ _ 15 _
  refine j_geti (f := 1101) (v := nI t9) C flX11_53 dX11_feedNumber_15 (wm_0 (S := S) hW) (wk_0 (S := S) hW) (by decide) (by decide) rfl hI_1101_ad0 ?_
  refine j_aload_n C dX11_feedNumber_18 rfl 1 rfl ?_
  refine j_getr (f := 1100) (v := (ad 1)) C flX11_9 dX11_feedNumber_19 (wm_0 (S := S) hW) (wk_0 (S := S) hW) (by decide) rfl (wr_1100_0 (S := S) hW) ?_
  refine j_alen (v := 8000) C dX11_feedNumber_22 (wm_1 (S := S) hW) (wk_1 (S := S) hW) (by decide) (by decide) (len_of (n := 8000) (wl_1 (S := S) hW) (by decide)) ?_
  refine j_ic_ge (tgt := 49) C dX11_feedNumber_23 (by decide) (fun c_23 => absurd c_23 (nI_ge (b := 8000) (by omega) (by decide))) (fun c_23 => ?_)
  refine j_aload_n C dX11_feedNumber_26 rfl 1 rfl ?_
  refine j_getr (f := 1100) (v := (ad 1)) C flX11_9 dX11_feedNumber_27 (wm_0 (S := S) hW) (wk_0 (S := S) hW) (by decide) rfl (wr_1100_0 (S := S) hW) ?_
  refine j_aload_n C dX11_feedNumber_30 rfl 1 rfl ?_
  show J _ _ _ _ _ 31 _
  refine j_geti (f := 1101) (v := nI t9) C flX11_53 dX11_feedNumber_31 (wm_0 (S := S) hW) (wk_0 (S := S) hW) (by decide) (by decide) rfl hI_1101_ad0 ?_
  refine j_iload_n C dX11_feedNumber_34 rfl 2 rfl ?_
  refine j_iload_n C dX11_feedNumber_35 rfl 0 rfl ?_
  refine j_ishr C dX11_feedNumber_36 rfl ?_
  refine j_i2b (v := nI (B t9)) C dX11_feedNumber_37 (byte_sh (k := 24) (by decide) (by decide) h4.1 (hb _)) ?_
  refine j_bast (j := t9) C dX11_feedNumber_38 (wm_1 (S := S) hW) (wk_1 (S := S) hW) (inr_of (n := 8000) (wl_1 (S := S) hW) (vp_in_nI (by omega) (by omega))) (nI_clamp (by omega)) ?_
  refine j_aload_n C dX11_feedNumber_39 rfl 1 rfl ?_
  refine j_dup C dX11_feedNumber_40 rfl ?_
  show J _ _ _ _ _ 41 _
  refine j_geti (f := 1101) (v := nI t9) C flX11_53 dX11_feedNumber_41 (wm_0 (S := S) hW) (wk_0 (S := S) hW) (by decide) (by decide) rfl (rxI_tI (S := S) hI_1101_ad0) ?_
  refine j_iconst (v := 1) C dX11_feedNumber_44 (by decide) ?_
  refine j_iadd (v := nI (t9 + 1)) C dX11_feedNumber_45 (nI_add t9 1) ?_
  refine j_puti (f := 1101) C flX11_53 (by decide) rfl rfl dX11_feedNumber_46 (wm_0 (S := S) hW) (wk_0 (S := S) hW) rfl ?_
  refine j_iinc (q := 0) (v := 16) (lv' := [(2, .int 16), (0, .ref (ad 0)), (1, .int v0)]) C dX11_feedNumber_49 rfl (by decide) (by rw [hn9]; decide) rfl ?_
  refine j_goto (tgt := 3) C dX11_feedNumber_52 (by decide) ?_
  have hf_3 : Fm (fun f9 b9 => (f9 = 1101 ∧ b9 = (ad 0))) (fun _ _ => False) (fun b9 => b9 = (ad 1)) S (sI (tI S (ad 1) t9 ((nI (B t9)).toInt8.toInt32)) 1101 (ad 0) (nI (t9 + 1))) := (((Fm.refl (WI := (fun f9 b9 => (f9 = 1101 ∧ b9 = (ad 0)))) (WR := (fun _ _ => False)) (WA := (fun b9 => b9 = (ad 1)))).tI _ _ (fun _ => rfl)).sI _ (fun _ => ⟨rfl, rfl⟩))
  obtain ⟨S_1, eS_2⟩ : ∃ S9 : Hp, S9 = (sI (tI S (ad 1) t9 ((nI (B t9)).toInt8.toInt32)) 1101 (ad 0) (nI (t9 + 1))) := ⟨_, rfl⟩
  refine J.eq (S' := S_1) eS_2.symm rfl rfl ?_
  have hv_4 : hI S_1 1101 (ad 0) = nI (t9 + 1) := by rw [eS_2]; exact (rd_sI (S := (tI S (ad 1) t9 ((nI (B t9)).toInt8.toInt32))) (g := 1101) (a := (ad 0)) (v := nI (t9 + 1)))
  have hf_5 : Fm (fun f9 b9 => (f9 = 1101 ∧ b9 = (ad 0))) (fun _ _ => False) (fun b9 => b9 = (ad 1)) S S_1 := by rw [eS_2]; exact hf_3
  have hW_6 : Wd ad S_1 := by rw [eS_2]; exact (Wd.sI (Wd.tI hW))
  have hx_7 : STR (aI S_1 (ad 1)) B (t9 + 1) := by rw [eS_2]; exact (str_sI (S := (tI S (ad 1) t9 ((nI (B t9)).toInt8.toInt32))) (str_t (S := S) hs (i8_id _ (hb _)) (hb _)))
  refine j_iload_n C dX11_feedNumber_3 rfl 0 rfl ?_
  refine j_if_lt (tgt := 55) C dX11_feedNumber_4 (by decide) (fun c9 => absurd c9 (by decide)) (fun c9 => ?_)
  show J _ _ _ _ _ 7 _
  refine j_aload_n C dX11_feedNumber_7 rfl 1 rfl ?_
  refine j_geti (f := 1101) (v := nI (t9 + 1)) C flX11_53 dX11_feedNumber_8 (wm_0 (S := S_1) hW_6) (wk_0 (S := S_1) hW_6) (by decide) (by decide) rfl hv_4 ?_
  refine j_if_lt (tgt := 49) C dX11_feedNumber_11 (by decide) (fun c_11 => absurd c_11 (nI_pos (by omega))) (fun c_11 => ?_)
  refine j_aload_n C dX11_feedNumber_14 rfl 1 rfl ?_
  refine j_geti (f := 1101) (v := nI (t9 + 1)) C flX11_53 dX11_feedNumber_15 (wm_0 (S := S_1) hW_6) (wk_0 (S := S_1) hW_6) (by decide) (by decide) rfl hv_4 ?_
  refine j_aload_n C dX11_feedNumber_18 rfl 1 rfl ?_
  refine j_getr (f := 1100) (v := (ad 1)) C flX11_9 dX11_feedNumber_19 (wm_0 (S := S_1) hW_6) (wk_0 (S := S_1) hW_6) (by decide) rfl (wr_1100_0 (S := S_1) hW_6) ?_
  refine j_alen (v := 8000) C dX11_feedNumber_22 (wm_1 (S := S_1) hW_6) (wk_1 (S := S_1) hW_6) (by decide) (by decide) (len_of (n := 8000) (wl_1 (S := S_1) hW_6) (by decide)) ?_
  show J _ _ _ _ _ 23 _
  refine j_ic_ge (tgt := 49) C dX11_feedNumber_23 (by decide) (fun c_23 => absurd c_23 (nI_ge (b := 8000) (by omega) (by decide))) (fun c_23 => ?_)
  refine j_aload_n C dX11_feedNumber_26 rfl 1 rfl ?_
  refine j_getr (f := 1100) (v := (ad 1)) C flX11_9 dX11_feedNumber_27 (wm_0 (S := S_1) hW_6) (wk_0 (S := S_1) hW_6) (by decide) rfl (wr_1100_0 (S := S_1) hW_6) ?_
  refine j_aload_n C dX11_feedNumber_30 rfl 1 rfl ?_
  refine j_geti (f := 1101) (v := nI (t9 + 1)) C flX11_53 dX11_feedNumber_31 (wm_0 (S := S_1) hW_6) (wk_0 (S := S_1) hW_6) (by decide) (by decide) rfl hv_4 ?_
  refine j_iload_n C dX11_feedNumber_34 rfl 2 rfl ?_
  refine j_iload_n C dX11_feedNumber_35 rfl 0 rfl ?_
  refine j_ishr C dX11_feedNumber_36 rfl ?_
  show J _ _ _ _ _ 37 _
  refine j_i2b (v := nI (B (t9 + 1))) C dX11_feedNumber_37 (byte_sh (k := 16) (by decide) (by decide) h4.2.1 (hb _)) ?_
  refine j_bast (j := (t9 + 1)) C dX11_feedNumber_38 (wm_1 (S := S_1) hW_6) (wk_1 (S := S_1) hW_6) (inr_of (n := 8000) (wl_1 (S := S_1) hW_6) (vp_in_nI (by omega) (by omega))) (nI_clamp (by omega)) ?_
  refine j_aload_n C dX11_feedNumber_39 rfl 1 rfl ?_
  refine j_dup C dX11_feedNumber_40 rfl ?_
  refine j_geti (f := 1101) (v := nI (t9 + 1)) C flX11_53 dX11_feedNumber_41 (wm_0 (S := S_1) hW_6) (wk_0 (S := S_1) hW_6) (by decide) (by decide) rfl (rxI_tI (S := S_1) hv_4) ?_
  refine j_iconst (v := 1) C dX11_feedNumber_44 (by decide) ?_
  refine j_iadd (v := nI ((t9 + 1) + 1)) C dX11_feedNumber_45 (nI_add (t9 + 1) 1) ?_
  refine j_puti (f := 1101) C flX11_53 (by decide) rfl rfl dX11_feedNumber_46 (wm_0 (S := S_1) hW_6) (wk_0 (S := S_1) hW_6) rfl ?_
  show J _ _ _ _ _ 49 _
  refine j_iinc (q := 0) (v := 8) (lv' := [(2, .int 8), (0, .ref (ad 0)), (1, .int v0)]) C dX11_feedNumber_49 rfl (by decide) (by rw [hn9]; decide) rfl ?_
  refine j_goto (tgt := 3) C dX11_feedNumber_52 (by decide) ?_
  have hf_10 : Fm (fun f9 b9 => (f9 = 1101 ∧ b9 = (ad 0))) (fun _ _ => False) (fun b9 => b9 = (ad 1)) S (sI (tI S_1 (ad 1) (t9 + 1) ((nI (B (t9 + 1))).toInt8.toInt32)) 1101 (ad 0) (nI ((t9 + 1) + 1))) := ((hf_5.tI _ _ (fun _ => rfl)).sI _ (fun _ => ⟨rfl, rfl⟩))
  obtain ⟨S_8, eS_9⟩ : ∃ S9 : Hp, S9 = (sI (tI S_1 (ad 1) (t9 + 1) ((nI (B (t9 + 1))).toInt8.toInt32)) 1101 (ad 0) (nI ((t9 + 1) + 1))) := ⟨_, rfl⟩
  refine J.eq (S' := S_8) eS_9.symm rfl rfl ?_
  have hv_11 : hI S_8 1101 (ad 0) = nI ((t9 + 1) + 1) := by rw [eS_9]; exact (rd_sI (S := (tI S_1 (ad 1) (t9 + 1) ((nI (B (t9 + 1))).toInt8.toInt32))) (g := 1101) (a := (ad 0)) (v := nI ((t9 + 1) + 1)))
  have hf_12 : Fm (fun f9 b9 => (f9 = 1101 ∧ b9 = (ad 0))) (fun _ _ => False) (fun b9 => b9 = (ad 1)) S S_8 := by rw [eS_9]; exact hf_10
  have hW_13 : Wd ad S_8 := by rw [eS_9]; exact (Wd.sI (Wd.tI hW_6))
  have hx_14 : STR (aI S_8 (ad 1)) B ((t9 + 1) + 1) := by rw [eS_9]; exact (str_sI (S := (tI S_1 (ad 1) (t9 + 1) ((nI (B (t9 + 1))).toInt8.toInt32))) (str_t (S := S_1) hx_7 (i8_id _ (hb _)) (hb _)))
  refine j_iload_n C dX11_feedNumber_3 rfl 0 rfl ?_
  refine j_if_lt (tgt := 55) C dX11_feedNumber_4 (by decide) (fun c9 => absurd c9 (by decide)) (fun c9 => ?_)
  refine j_aload_n C dX11_feedNumber_7 rfl 1 rfl ?_
  refine j_geti (f := 1101) (v := nI ((t9 + 1) + 1)) C flX11_53 dX11_feedNumber_8 (wm_0 (S := S_8) hW_13) (wk_0 (S := S_8) hW_13) (by decide) (by decide) rfl hv_11 ?_
  refine j_if_lt (tgt := 49) C dX11_feedNumber_11 (by decide) (fun c_11 => absurd c_11 (nI_pos (by omega))) (fun c_11 => ?_)
  refine j_aload_n C dX11_feedNumber_14 rfl 1 rfl ?_
  show J _ _ _ _ _ 15 _
  refine j_geti (f := 1101) (v := nI ((t9 + 1) + 1)) C flX11_53 dX11_feedNumber_15 (wm_0 (S := S_8) hW_13) (wk_0 (S := S_8) hW_13) (by decide) (by decide) rfl hv_11 ?_
  refine j_aload_n C dX11_feedNumber_18 rfl 1 rfl ?_
  refine j_getr (f := 1100) (v := (ad 1)) C flX11_9 dX11_feedNumber_19 (wm_0 (S := S_8) hW_13) (wk_0 (S := S_8) hW_13) (by decide) rfl (wr_1100_0 (S := S_8) hW_13) ?_
  refine j_alen (v := 8000) C dX11_feedNumber_22 (wm_1 (S := S_8) hW_13) (wk_1 (S := S_8) hW_13) (by decide) (by decide) (len_of (n := 8000) (wl_1 (S := S_8) hW_13) (by decide)) ?_
  refine j_ic_ge (tgt := 49) C dX11_feedNumber_23 (by decide) (fun c_23 => absurd c_23 (nI_ge (b := 8000) (by omega) (by decide))) (fun c_23 => ?_)
  refine j_aload_n C dX11_feedNumber_26 rfl 1 rfl ?_
  refine j_getr (f := 1100) (v := (ad 1)) C flX11_9 dX11_feedNumber_27 (wm_0 (S := S_8) hW_13) (wk_0 (S := S_8) hW_13) (by decide) rfl (wr_1100_0 (S := S_8) hW_13) ?_
  refine j_aload_n C dX11_feedNumber_30 rfl 1 rfl ?_
  show J _ _ _ _ _ 31 _
  refine j_geti (f := 1101) (v := nI ((t9 + 1) + 1)) C flX11_53 dX11_feedNumber_31 (wm_0 (S := S_8) hW_13) (wk_0 (S := S_8) hW_13) (by decide) (by decide) rfl hv_11 ?_
  refine j_iload_n C dX11_feedNumber_34 rfl 2 rfl ?_
  refine j_iload_n C dX11_feedNumber_35 rfl 0 rfl ?_
  refine j_ishr C dX11_feedNumber_36 rfl ?_
  refine j_i2b (v := nI (B ((t9 + 1) + 1))) C dX11_feedNumber_37 (byte_sh (k := 8) (by decide) (by decide) h4.2.2.1 (hb _)) ?_
  refine j_bast (j := ((t9 + 1) + 1)) C dX11_feedNumber_38 (wm_1 (S := S_8) hW_13) (wk_1 (S := S_8) hW_13) (inr_of (n := 8000) (wl_1 (S := S_8) hW_13) (vp_in_nI (by omega) (by omega))) (nI_clamp (by omega)) ?_
  refine j_aload_n C dX11_feedNumber_39 rfl 1 rfl ?_
  refine j_dup C dX11_feedNumber_40 rfl ?_
  show J _ _ _ _ _ 41 _
  refine j_geti (f := 1101) (v := nI ((t9 + 1) + 1)) C flX11_53 dX11_feedNumber_41 (wm_0 (S := S_8) hW_13) (wk_0 (S := S_8) hW_13) (by decide) (by decide) rfl (rxI_tI (S := S_8) hv_11) ?_
  refine j_iconst (v := 1) C dX11_feedNumber_44 (by decide) ?_
  refine j_iadd (v := nI (((t9 + 1) + 1) + 1)) C dX11_feedNumber_45 (nI_add ((t9 + 1) + 1) 1) ?_
  refine j_puti (f := 1101) C flX11_53 (by decide) rfl rfl dX11_feedNumber_46 (wm_0 (S := S_8) hW_13) (wk_0 (S := S_8) hW_13) rfl ?_
  refine j_iinc (q := 0) (v := 0) (lv' := [(2, .int 0), (0, .ref (ad 0)), (1, .int v0)]) C dX11_feedNumber_49 rfl (by decide) (by rw [hn9]; decide) rfl ?_
  refine j_goto (tgt := 3) C dX11_feedNumber_52 (by decide) ?_
  have hf_17 : Fm (fun f9 b9 => (f9 = 1101 ∧ b9 = (ad 0))) (fun _ _ => False) (fun b9 => b9 = (ad 1)) S (sI (tI S_8 (ad 1) ((t9 + 1) + 1) ((nI (B ((t9 + 1) + 1))).toInt8.toInt32)) 1101 (ad 0) (nI (((t9 + 1) + 1) + 1))) := ((hf_12.tI _ _ (fun _ => rfl)).sI _ (fun _ => ⟨rfl, rfl⟩))
  obtain ⟨S_15, eS_16⟩ : ∃ S9 : Hp, S9 = (sI (tI S_8 (ad 1) ((t9 + 1) + 1) ((nI (B ((t9 + 1) + 1))).toInt8.toInt32)) 1101 (ad 0) (nI (((t9 + 1) + 1) + 1))) := ⟨_, rfl⟩
  refine J.eq (S' := S_15) eS_16.symm rfl rfl ?_
  have hv_18 : hI S_15 1101 (ad 0) = nI (((t9 + 1) + 1) + 1) := by rw [eS_16]; exact (rd_sI (S := (tI S_8 (ad 1) ((t9 + 1) + 1) ((nI (B ((t9 + 1) + 1))).toInt8.toInt32))) (g := 1101) (a := (ad 0)) (v := nI (((t9 + 1) + 1) + 1)))
  have hf_19 : Fm (fun f9 b9 => (f9 = 1101 ∧ b9 = (ad 0))) (fun _ _ => False) (fun b9 => b9 = (ad 1)) S S_15 := by rw [eS_16]; exact hf_17
  have hW_20 : Wd ad S_15 := by rw [eS_16]; exact (Wd.sI (Wd.tI hW_13))
  have hx_21 : STR (aI S_15 (ad 1)) B (((t9 + 1) + 1) + 1) := by rw [eS_16]; exact (str_sI (S := (tI S_8 (ad 1) ((t9 + 1) + 1) ((nI (B ((t9 + 1) + 1))).toInt8.toInt32))) (str_t (S := S_8) hx_14 (i8_id _ (hb _)) (hb _)))
  refine j_iload_n C dX11_feedNumber_3 rfl 0 rfl ?_
  refine j_if_lt (tgt := 55) C dX11_feedNumber_4 (by decide) (fun c9 => absurd c9 (by decide)) (fun c9 => ?_)
  show J _ _ _ _ _ 7 _
  refine j_aload_n C dX11_feedNumber_7 rfl 1 rfl ?_
  refine j_geti (f := 1101) (v := nI (((t9 + 1) + 1) + 1)) C flX11_53 dX11_feedNumber_8 (wm_0 (S := S_15) hW_20) (wk_0 (S := S_15) hW_20) (by decide) (by decide) rfl hv_18 ?_
  refine j_if_lt (tgt := 49) C dX11_feedNumber_11 (by decide) (fun c_11 => absurd c_11 (nI_pos (by omega))) (fun c_11 => ?_)
  refine j_aload_n C dX11_feedNumber_14 rfl 1 rfl ?_
  refine j_geti (f := 1101) (v := nI (((t9 + 1) + 1) + 1)) C flX11_53 dX11_feedNumber_15 (wm_0 (S := S_15) hW_20) (wk_0 (S := S_15) hW_20) (by decide) (by decide) rfl hv_18 ?_
  refine j_aload_n C dX11_feedNumber_18 rfl 1 rfl ?_
  refine j_getr (f := 1100) (v := (ad 1)) C flX11_9 dX11_feedNumber_19 (wm_0 (S := S_15) hW_20) (wk_0 (S := S_15) hW_20) (by decide) rfl (wr_1100_0 (S := S_15) hW_20) ?_
  refine j_alen (v := 8000) C dX11_feedNumber_22 (wm_1 (S := S_15) hW_20) (wk_1 (S := S_15) hW_20) (by decide) (by decide) (len_of (n := 8000) (wl_1 (S := S_15) hW_20) (by decide)) ?_
  show J _ _ _ _ _ 23 _
  refine j_ic_ge (tgt := 49) C dX11_feedNumber_23 (by decide) (fun c_23 => absurd c_23 (nI_ge (b := 8000) (by omega) (by decide))) (fun c_23 => ?_)
  refine j_aload_n C dX11_feedNumber_26 rfl 1 rfl ?_
  refine j_getr (f := 1100) (v := (ad 1)) C flX11_9 dX11_feedNumber_27 (wm_0 (S := S_15) hW_20) (wk_0 (S := S_15) hW_20) (by decide) rfl (wr_1100_0 (S := S_15) hW_20) ?_
  refine j_aload_n C dX11_feedNumber_30 rfl 1 rfl ?_
  refine j_geti (f := 1101) (v := nI (((t9 + 1) + 1) + 1)) C flX11_53 dX11_feedNumber_31 (wm_0 (S := S_15) hW_20) (wk_0 (S := S_15) hW_20) (by decide) (by decide) rfl hv_18 ?_
  refine j_iload_n C dX11_feedNumber_34 rfl 2 rfl ?_
  refine j_iload_n C dX11_feedNumber_35 rfl 0 rfl ?_
  refine j_ishr C dX11_feedNumber_36 rfl ?_
  show J _ _ _ _ _ 37 _
  refine j_i2b (v := nI (B (((t9 + 1) + 1) + 1))) C dX11_feedNumber_37 (byte_sh (k := 0) (by decide) (by decide) h4.2.2.2 (hb _)) ?_
  refine j_bast (j := (((t9 + 1) + 1) + 1)) C dX11_feedNumber_38 (wm_1 (S := S_15) hW_20) (wk_1 (S := S_15) hW_20) (inr_of (n := 8000) (wl_1 (S := S_15) hW_20) (vp_in_nI (by omega) (by omega))) (nI_clamp (by omega)) ?_
  refine j_aload_n C dX11_feedNumber_39 rfl 1 rfl ?_
  refine j_dup C dX11_feedNumber_40 rfl ?_
  refine j_geti (f := 1101) (v := nI (((t9 + 1) + 1) + 1)) C flX11_53 dX11_feedNumber_41 (wm_0 (S := S_15) hW_20) (wk_0 (S := S_15) hW_20) (by decide) (by decide) rfl (rxI_tI (S := S_15) hv_18) ?_
  refine j_iconst (v := 1) C dX11_feedNumber_44 (by decide) ?_
  refine j_iadd (v := nI ((((t9 + 1) + 1) + 1) + 1)) C dX11_feedNumber_45 (nI_add (((t9 + 1) + 1) + 1) 1) ?_
  refine j_puti (f := 1101) C flX11_53 (by decide) rfl rfl dX11_feedNumber_46 (wm_0 (S := S_15) hW_20) (wk_0 (S := S_15) hW_20) rfl ?_
  show J _ _ _ _ _ 49 _
  refine j_iinc (q := 0) (v := (-8)) (lv' := [(2, .int (-8)), (0, .ref (ad 0)), (1, .int v0)]) C dX11_feedNumber_49 rfl (by decide) (by rw [hn9]; decide) rfl ?_
  refine j_goto (tgt := 3) C dX11_feedNumber_52 (by decide) ?_
  have hf_24 : Fm (fun f9 b9 => (f9 = 1101 ∧ b9 = (ad 0))) (fun _ _ => False) (fun b9 => b9 = (ad 1)) S (sI (tI S_15 (ad 1) (((t9 + 1) + 1) + 1) ((nI (B (((t9 + 1) + 1) + 1))).toInt8.toInt32)) 1101 (ad 0) (nI ((((t9 + 1) + 1) + 1) + 1))) := ((hf_19.tI _ _ (fun _ => rfl)).sI _ (fun _ => ⟨rfl, rfl⟩))
  obtain ⟨S_22, eS_23⟩ : ∃ S9 : Hp, S9 = (sI (tI S_15 (ad 1) (((t9 + 1) + 1) + 1) ((nI (B (((t9 + 1) + 1) + 1))).toInt8.toInt32)) 1101 (ad 0) (nI ((((t9 + 1) + 1) + 1) + 1))) := ⟨_, rfl⟩
  refine J.eq (S' := S_22) eS_23.symm rfl rfl ?_
  have hv_25 : hI S_22 1101 (ad 0) = nI ((((t9 + 1) + 1) + 1) + 1) := by rw [eS_23]; exact (rd_sI (S := (tI S_15 (ad 1) (((t9 + 1) + 1) + 1) ((nI (B (((t9 + 1) + 1) + 1))).toInt8.toInt32))) (g := 1101) (a := (ad 0)) (v := nI ((((t9 + 1) + 1) + 1) + 1)))
  have hf_26 : Fm (fun f9 b9 => (f9 = 1101 ∧ b9 = (ad 0))) (fun _ _ => False) (fun b9 => b9 = (ad 1)) S S_22 := by rw [eS_23]; exact hf_24
  have hW_27 : Wd ad S_22 := by rw [eS_23]; exact (Wd.sI (Wd.tI hW_20))
  have hx_28 : STR (aI S_22 (ad 1)) B ((((t9 + 1) + 1) + 1) + 1) := by rw [eS_23]; exact (str_sI (S := (tI S_15 (ad 1) (((t9 + 1) + 1) + 1) ((nI (B (((t9 + 1) + 1) + 1))).toInt8.toInt32))) (str_t (S := S_15) hx_21 (i8_id _ (hb _)) (hb _)))
  refine j_iload_n C dX11_feedNumber_3 rfl 0 rfl ?_
  refine j_if_lt (tgt := 55) C dX11_feedNumber_4 (by decide) (fun c9 => ?_) (fun c9 => absurd (by decide) c9)
  exact j_vret C M dX11_feedNumber_55 (by decide) (by decide) ⟨rfl, hf_26, (hv_25.trans (congrArg nI (by omega))), hx_28⟩

theorem dX11_feed_0 : decode cX11_feed 0 = .ok (.aload_n 0, 1) := by decide +kernel
theorem dX11_feed_1 : decode cX11_feed 1 = .ok (.getfield 53, 3) := by decide +kernel
theorem dX11_feed_4 : decode cX11_feed 4 = .ok (.bipush 20, 2) := by decide +kernel
theorem dX11_feed_6 : decode cX11_feed 6 = .ok (.iadd, 1) := by decide +kernel
theorem dX11_feed_7 : decode cX11_feed 7 = .ok (.sipush 8000, 3) := by decide +kernel
theorem dX11_feed_10 : decode cX11_feed 10 = .ok (.if_icmp .le 5, 3) := by decide +kernel
theorem dX11_feed_13 : decode cX11_feed 13 = .ok (.iconst (-1), 1) := by decide +kernel
theorem dX11_feed_14 : decode cX11_feed 14 = .ok (.ireturn, 1) := by decide +kernel
theorem dX11_feed_15 : decode cX11_feed 15 = .ok (.aload_n 0, 1) := by decide +kernel
theorem dX11_feed_16 : decode cX11_feed 16 = .ok (.iload_n 1, 1) := by decide +kernel
theorem dX11_feed_17 : decode cX11_feed 17 = .ok (.invokevirtual 56, 3) := by decide +kernel
theorem dX11_feed_20 : decode cX11_feed 20 = .ok (.aload_n 0, 1) := by decide +kernel
theorem dX11_feed_21 : decode cX11_feed 21 = .ok (.iload_n 2, 1) := by decide +kernel
theorem dX11_feed_22 : decode cX11_feed 22 = .ok (.invokevirtual 56, 3) := by decide +kernel
theorem dX11_feed_25 : decode cX11_feed 25 = .ok (.aload_n 0, 1) := by decide +kernel
theorem dX11_feed_26 : decode cX11_feed 26 = .ok (.iload_n 3, 1) := by decide +kernel
theorem dX11_feed_27 : decode cX11_feed 27 = .ok (.invokevirtual 56, 3) := by decide +kernel
theorem dX11_feed_30 : decode cX11_feed 30 = .ok (.aload_n 0, 1) := by decide +kernel
theorem dX11_feed_31 : decode cX11_feed 31 = .ok (.iload 4, 2) := by decide +kernel
theorem dX11_feed_33 : decode cX11_feed 33 = .ok (.invokevirtual 56, 3) := by decide +kernel
theorem dX11_feed_36 : decode cX11_feed 36 = .ok (.aload_n 0, 1) := by decide +kernel
theorem dX11_feed_37 : decode cX11_feed 37 = .ok (.iload 5, 2) := by decide +kernel
theorem dX11_feed_39 : decode cX11_feed 39 = .ok (.invokevirtual 56, 3) := by decide +kernel
theorem dX11_feed_42 : decode cX11_feed 42 = .ok (.aload_n 0, 1) := by decide +kernel
theorem dX11_feed_43 : decode cX11_feed 43 = .ok (.getfield 53, 3) := by decide +kernel
theorem dX11_feed_46 : decode cX11_feed 46 = .ok (.ireturn, 1) := by decide +kernel

set_option maxRecDepth 100000 in
set_option maxHeartbeats 4000000 in
theorem c_X11_feed (S : Hp) (ad : Nat → Nat) (hW : Wd ad S) (v0 : Int32) (v1 : Int32) (v2 : Int32) (v3 : Int32) (v4 : Int32) (t9 : Nat) (B : Nat → Nat) (hI_1101_ad0 : hI S 1101 (ad 0) = nI t9) (hs : STR (aI S (ad 1)) B t9) (q0 : W4 v0 B t9) (q1 : W4 v1 B (t9 + 4)) (q2 : W4 v2 B ((t9 + 4) + 4)) (q3 : W4 v3 B (((t9 + 4) + 4) + 4)) (q4 : W4 v4 B ((((t9 + 4) + 4) + 4) + 4)) (hb : ∀ j, B j < 128) (ht : t9 + 20 ≤ 8000) : Ct 2 yX11_feed cX11_feed 6 (some .int) 0 0 [.ref (ad 0), .int v0, .int v1, .int v2, .int v3, .int v4] S (fun r S' => r = some (.int (nI (t9 + 20))) ∧ Fm (fun f9 b9 => (f9 = 1101 ∧ b9 = (ad 0))) (fun _ _ => False) (fun b9 => b9 = (ad 1)) S S' ∧ hI S' 1101 (ad 0) = nI (t9 + 20) ∧ STR (aI S' (ad 1)) B (t9 + 20)) := by
  refine ct_of (by decide) (Nat.le_of_ble_eq_true rfl) fun x hn9 C M hm9 => ?_
  have C : CB x RX11 cX11_feed := C
  refine J.eq (lv' := [(0, .ref (ad 0)), (1, .int v0), (2, .int v1), (3, .int v2), (4, .int v3), (5, .int v4)]) rfl rfl rfl ?_
  refine j_aload_n C dX11_feed_0 rfl 0 rfl ?_
  refine j_geti (f := 1101) (v := nI t9) C flX11_53 dX11_feed_1 (wm_0 (S := S) hW) (wk_0 (S := S) hW) (by decide) (by decide) rfl hI_1101_ad0 ?_
  refine j_bipush (v := 20) C dX11_feed_4 (by decide) ?_
  refine j_iadd (v := nI (t9 + 20)) C dX11_feed_6 (nI_add t9 20) ?_
  refine j_sipush (v := 8000) C dX11_feed_7 (by decide) ?_
  refine j_ic_le (tgt := 15) C dX11_feed_10 (by decide) (fun c_10 => ?_) (fun c_10 => absurd (nI_le (b := 8000) (by omega) (by decide)) c_10)
  refine j_aload_n C dX11_feed_15 rfl 0 rfl ?_
  refine j_iload_n C dX11_feed_16 rfl 1 rfl ?_
  show J _ _ _ _ _ 17 _
  refine j_callV (ci := 11) C [.int v0] [] mlX11_56 mcX11_feedNumber (c_X11_feedNumber S ad hW v0 t9 B hI_1101_ad0 hs q0 hb (by omega)) (wm_0 (S := S) hW) (wk_0 (S := S) hW) rfl (M.rm (by decide) (by decide) (Nat.le_of_ble_eq_true rfl) (Nat.le_of_ble_eq_true rfl)) rfl rfl (Nat.le_of_ble_eq_true rfl) dX11_feed_17 (fun r_3 S_4 hp_5 => ?_)
  obtain ⟨rfl, hf_6, e_1, x_2⟩ := hp_5
  refine J.eq (st' := []) rfl rfl rfl ?_
  have hf_7 : Fm (fun f9 b9 => (f9 = 1101 ∧ b9 = (ad 0))) (fun _ _ => False) (fun b9 => b9 = (ad 1)) S S_4 := (Fm.refl (WI := (fun f9 b9 => (f9 = 1101 ∧ b9 = (ad 0)))) (WR := (fun _ _ => False)) (WA := (fun b9 => b9 = (ad 1)))).then hf_6 (fun a9 ha9 => ⟨(fun f9 h9 => (fun h8 => h8) h9), (fun f9 h9 => h9.elim), (fun h9 => (fun h8 => h8) h9)⟩)
  have hW_8 : Wd ad S_4 := hW.fm hf_6 (by intro _ _ h9; exact h9) (by intro p9 hp9; simp only [wqL, List.mem_cons, List.not_mem_nil, or_false] at hp9; rcases hp9 with rfl | rfl <;> intro h9 <;> skip <;> exact absurd h9 (wn hW (by decide) (by decide) (by decide)))
  refine j_aload_n C dX11_feed_20 rfl 0 rfl ?_
  refine j_iload_n C dX11_feed_21 rfl 2 rfl ?_
  refine j_callV (ci := 11) C [.int v1] [] mlX11_56 mcX11_feedNumber (c_X11_feedNumber S_4 ad hW_8 v1 (t9 + 4) B e_1 x_2 q1 hb (by omega)) (wm_0 (S := S_4) hW_8) (wk_0 (S := S_4) hW_8) rfl (M.rm (by decide) (by decide) (Nat.le_of_ble_eq_true rfl) (Nat.le_of_ble_eq_true rfl)) rfl rfl (Nat.le_of_ble_eq_true rfl) dX11_feed_22 (fun r_11 S_12 hp_13 => ?_)
  obtain ⟨rfl, hf_14, e_9, x_10⟩ := hp_13
  refine J.eq (st' := []) rfl rfl rfl ?_
  have hf_15 : Fm (fun f9 b9 => (f9 = 1101 ∧ b9 = (ad 0))) (fun _ _ => False) (fun b9 => b9 = (ad 1)) S S_12 := hf_7.then hf_14 (fun a9 ha9 => ⟨(fun f9 h9 => (fun h8 => h8) h9), (fun f9 h9 => h9.elim), (fun h9 => (fun h8 => h8) h9)⟩)
  have hW_16 : Wd ad S_12 := hW_8.fm hf_14 (by intro _ _ h9; exact h9) (by intro p9 hp9; simp only [wqL, List.mem_cons, List.not_mem_nil, or_false] at hp9; rcases hp9 with rfl | rfl <;> intro h9 <;> skip <;> exact absurd h9 (wn hW_8 (by decide) (by decide) (by decide)))
  refine j_aload_n C dX11_feed_25 rfl 0 rfl ?_
  refine j_iload_n C dX11_feed_26 rfl 3 rfl ?_
  refine j_callV (ci := 11) C [.int v2] [] mlX11_56 mcX11_feedNumber (c_X11_feedNumber S_12 ad hW_16 v2 ((t9 + 4) + 4) B e_9 x_10 q2 hb (by omega)) (wm_0 (S := S_12) hW_16) (wk_0 (S := S_12) hW_16) rfl (M.rm (by decide) (by decide) (Nat.le_of_ble_eq_true rfl) (Nat.le_of_ble_eq_true rfl)) rfl rfl (Nat.le_of_ble_eq_true rfl) dX11_feed_27 (fun r_19 S_20 hp_21 => ?_)
  obtain ⟨rfl, hf_22, e_17, x_18⟩ := hp_21
  refine J.eq (st' := []) rfl rfl rfl ?_
  have hf_23 : Fm (fun f9 b9 => (f9 = 1101 ∧ b9 = (ad 0))) (fun _ _ => False) (fun b9 => b9 = (ad 1)) S S_20 := hf_15.then hf_22 (fun a9 ha9 => ⟨(fun f9 h9 => (fun h8 => h8) h9), (fun f9 h9 => h9.elim), (fun h9 => (fun h8 => h8) h9)⟩)
  have hW_24 : Wd ad S_20 := hW_16.fm hf_22 (by intro _ _ h9; exact h9) (by intro p9 hp9; simp only [wqL, List.mem_cons, List.not_mem_nil, or_false] at hp9; rcases hp9 with rfl | rfl <;> intro h9 <;> skip <;> exact absurd h9 (wn hW_16 (by decide) (by decide) (by decide)))
  refine j_aload_n C dX11_feed_30 rfl 0 rfl ?_
  show J _ _ _ _ _ 31 _
  refine j_iload C dX11_feed_31 4 rfl ?_
  refine j_callV (ci := 11) C [.int v3] [] mlX11_56 mcX11_feedNumber (c_X11_feedNumber S_20 ad hW_24 v3 (((t9 + 4) + 4) + 4) B e_17 x_18 q3 hb (by omega)) (wm_0 (S := S_20) hW_24) (wk_0 (S := S_20) hW_24) rfl (M.rm (by decide) (by decide) (Nat.le_of_ble_eq_true rfl) (Nat.le_of_ble_eq_true rfl)) rfl rfl (Nat.le_of_ble_eq_true rfl) dX11_feed_33 (fun r_27 S_28 hp_29 => ?_)
  obtain ⟨rfl, hf_30, e_25, x_26⟩ := hp_29
  refine J.eq (st' := []) rfl rfl rfl ?_
  have hf_31 : Fm (fun f9 b9 => (f9 = 1101 ∧ b9 = (ad 0))) (fun _ _ => False) (fun b9 => b9 = (ad 1)) S S_28 := hf_23.then hf_30 (fun a9 ha9 => ⟨(fun f9 h9 => (fun h8 => h8) h9), (fun f9 h9 => h9.elim), (fun h9 => (fun h8 => h8) h9)⟩)
  have hW_32 : Wd ad S_28 := hW_24.fm hf_30 (by intro _ _ h9; exact h9) (by intro p9 hp9; simp only [wqL, List.mem_cons, List.not_mem_nil, or_false] at hp9; rcases hp9 with rfl | rfl <;> intro h9 <;> skip <;> exact absurd h9 (wn hW_24 (by decide) (by decide) (by decide)))
  refine j_aload_n C dX11_feed_36 rfl 0 rfl ?_
  refine j_iload C dX11_feed_37 5 rfl ?_
  refine j_callV (ci := 11) C [.int v4] [] mlX11_56 mcX11_feedNumber (c_X11_feedNumber S_28 ad hW_32 v4 ((((t9 + 4) + 4) + 4) + 4) B e_25 x_26 q4 hb (by omega)) (wm_0 (S := S_28) hW_32) (wk_0 (S := S_28) hW_32) rfl (M.rm (by decide) (by decide) (Nat.le_of_ble_eq_true rfl) (Nat.le_of_ble_eq_true rfl)) rfl rfl (Nat.le_of_ble_eq_true rfl) dX11_feed_39 (fun r_35 S_36 hp_37 => ?_)
  obtain ⟨rfl, hf_38, e_33, x_34⟩ := hp_37
  refine J.eq (st' := []) rfl rfl rfl ?_
  have hf_39 : Fm (fun f9 b9 => (f9 = 1101 ∧ b9 = (ad 0))) (fun _ _ => False) (fun b9 => b9 = (ad 1)) S S_36 := hf_31.then hf_38 (fun a9 ha9 => ⟨(fun f9 h9 => (fun h8 => h8) h9), (fun f9 h9 => h9.elim), (fun h9 => (fun h8 => h8) h9)⟩)
  have hW_40 : Wd ad S_36 := hW_32.fm hf_38 (by intro _ _ h9; exact h9) (by intro p9 hp9; simp only [wqL, List.mem_cons, List.not_mem_nil, or_false] at hp9; rcases hp9 with rfl | rfl <;> intro h9 <;> skip <;> exact absurd h9 (wn hW_32 (by decide) (by decide) (by decide)))
  refine j_aload_n C dX11_feed_42 rfl 0 rfl ?_
  refine j_geti (f := 1101) (v := nI (((((t9 + 4) + 4) + 4) + 4) + 4)) C flX11_53 dX11_feed_43 (wm_0 (S := S_36) hW_40) (wk_0 (S := S_36) hW_40) (by decide) (by decide) rfl e_33 ?_
  exact j_iret C M dX11_feed_46 (Nat.le_of_ble_eq_true rfl) (Nat.le_of_ble_eq_true rfl) ⟨(congrArg (fun z9 => some (Value.int z9)) (congrArg nI (by omega))), hf_39, (e_33.trans (congrArg nI (by omega))), x_34⟩

theorem dX11_cut_0 : decode cX11_cut 0 = .ok (.iload_n 1, 1) := by decide +kernel
theorem dX11_cut_1 : decode cX11_cut 1 = .ok (.ifCond .lt 11, 3) := by decide +kernel
theorem dX11_cut_4 : decode cX11_cut 4 = .ok (.iload_n 1, 1) := by decide +kernel
theorem dX11_cut_5 : decode cX11_cut 5 = .ok (.aload_n 0, 1) := by decide +kernel
theorem dX11_cut_6 : decode cX11_cut 6 = .ok (.getfield 53, 3) := by decide +kernel
theorem dX11_cut_9 : decode cX11_cut 9 = .ok (.if_icmp .le 5, 3) := by decide +kernel
theorem dX11_cut_12 : decode cX11_cut 12 = .ok (.iconst (-1), 1) := by decide +kernel
theorem dX11_cut_13 : decode cX11_cut 13 = .ok (.ireturn, 1) := by decide +kernel
theorem dX11_cut_14 : decode cX11_cut 14 = .ok (.aload_n 0, 1) := by decide +kernel
theorem dX11_cut_15 : decode cX11_cut 15 = .ok (.getfield 53, 3) := by decide +kernel
theorem dX11_cut_18 : decode cX11_cut 18 = .ok (.iload_n 1, 1) := by decide +kernel
theorem dX11_cut_19 : decode cX11_cut 19 = .ok (.isub, 1) := by decide +kernel
theorem dX11_cut_20 : decode cX11_cut 20 = .ok (.istore_n 2, 1) := by decide +kernel
theorem dX11_cut_21 : decode cX11_cut 21 = .ok (.aload_n 0, 1) := by decide +kernel
theorem dX11_cut_22 : decode cX11_cut 22 = .ok (.iload_n 1, 1) := by decide +kernel
theorem dX11_cut_23 : decode cX11_cut 23 = .ok (.putfield 53, 3) := by decide +kernel
theorem dX11_cut_26 : decode cX11_cut 26 = .ok (.iload_n 2, 1) := by decide +kernel
theorem dX11_cut_27 : decode cX11_cut 27 = .ok (.ireturn, 1) := by decide +kernel

set_option maxRecDepth 100000 in
set_option maxHeartbeats 4000000 in
theorem c_X11_cut (S : Hp) (ad : Nat → Nat) (hW : Wd ad S) (n9 : Nat) (t9 : Nat) (hI_1101_ad0 : hI S 1101 (ad 0) = nI t9) (hn : n9 ≤ t9) (ht : t9 ≤ 8000) : Ct 1 yX11_cut cX11_cut 3 (some .int) 0 0 [.ref (ad 0), .int (nI n9)] S (fun r S' => r = some (.int ((nI t9) - (nI n9))) ∧ S' = (sI S 1101 (ad 0) (nI n9))) := by
  refine ct_of (by decide) (Nat.le_of_ble_eq_true rfl) fun x hn9 C M hm9 => ?_
  have C : CB x RX11 cX11_cut := C
  refine J.eq (lv' := [(0, .ref (ad 0)), (1, .int (nI n9))]) rfl rfl rfl ?_
  refine j_iload_n C dX11_cut_0 rfl 1 rfl ?_
  refine j_if_lt (tgt := 12) C dX11_cut_1 (by decide) (fun c_1 => absurd c_1 (nI_pos (by omega))) (fun c_1 => ?_)
  refine j_iload_n C dX11_cut_4 rfl 1 rfl ?_
  refine j_aload_n C dX11_cut_5 rfl 0 rfl ?_
  refine j_geti (f := 1101) (v := nI t9) C flX11_53 dX11_cut_6 (wm_0 (S := S) hW) (wk_0 (S := S) hW) (by decide) (by decide) rfl hI_1101_ad0 ?_
  refine j_ic_le (tgt := 14) C dX11_cut_9 (by decide) (fun c_9 => ?_) (fun c_9 => absurd (nI_le (by omega) (by omega)) c_9)
  refine j_aload_n C dX11_cut_14 rfl 0 rfl ?_
  refine j_geti (f := 1101) (v := nI t9) C flX11_53 dX11_cut_15 (wm_0 (S := S) hW) (wk_0 (S := S) hW) (by decide) (by decide) rfl hI_1101_ad0 ?_
  show J _ _ _ _ _ 18 _
  refine j_iload_n C dX11_cut_18 rfl 1 rfl ?_
  refine j_isub C dX11_cut_19 rfl ?_
  refine j_istore_n (lv' := [(2, .int ((nI t9) - (nI n9))), (0, .ref (ad 0)), (1, .int (nI n9))]) C dX11_cut_20 rfl (by rw [hn9]; decide) rfl ?_
  refine j_aload_n C dX11_cut_21 rfl 1 rfl ?_
  refine j_iload_n C dX11_cut_22 rfl 2 rfl ?_
  refine j_puti (f := 1101) C flX11_53 (by decide) rfl rfl dX11_cut_23 (wm_0 (S := S) hW) (wk_0 (S := S) hW) rfl ?_
  refine j_iload_n C dX11_cut_26 rfl 0 rfl ?_
  exact j_iret C M dX11_cut_27 (by decide) (by decide) ⟨rfl, rfl⟩

theorem str_cpy {f g : Nat → Int32} {B : Nat → Nat} {n : Nat} (h : STR f B n) : STR (va_cpy f g 0 0 n) B n := fun j hj => by
  unfold va_cpy
  rw [if_pos ⟨Nat.zero_le _, by omega⟩, show 0 + (j - 0) = j by omega]
  exact h j hj

theorem rd_tI0 {S : Hp} {a j : Nat} {v : Int32} : aI (tI S a j v) a j = v := if_pos ⟨rfl, rfl⟩
theorem rd_tIx {S : Hp} {a b i j : Nat} {v c : Int32} (h : b ≠ a) (hc : aI S b j = c) : aI (tI S a i v) b j = c := (if_neg (fun q => h q.1)).trans hc

theorem dX11_part_0 : decode cX11_part 0 = .ok (.aload_n 0, 1) := by decide +kernel
theorem dX11_part_1 : decode cX11_part 1 = .ok (.getfield 53, 3) := by decide +kernel
theorem dX11_part_4 : decode cX11_part 4 = .ok (.istore_n 2, 1) := by decide +kernel
theorem dX11_part_5 : decode cX11_part 5 = .ok (.aload_n 0, 1) := by decide +kernel
theorem dX11_part_6 : decode cX11_part 6 = .ok (.iconst 0, 1) := by decide +kernel
theorem dX11_part_7 : decode cX11_part 7 = .ok (.putfield 53, 3) := by decide +kernel
theorem dX11_part_10 : decode cX11_part 10 = .ok (.iload_n 1, 1) := by decide +kernel
theorem dX11_part_11 : decode cX11_part 11 = .ok (.ifCond .eq 8, 3) := by decide +kernel
theorem dX11_part_14 : decode cX11_part 14 = .ok (.iload_n 1, 1) := by decide +kernel
theorem dX11_part_15 : decode cX11_part 15 = .ok (.iconst 1, 1) := by decide +kernel
theorem dX11_part_16 : decode cX11_part 16 = .ok (.if_icmp .ne 19, 3) := by decide +kernel
theorem dX11_part_19 : decode cX11_part 19 = .ok (.aload_n 0, 1) := by decide +kernel
theorem dX11_part_20 : decode cX11_part 20 = .ok (.getfield 60, 3) := by decide +kernel
theorem dX11_part_23 : decode cX11_part 23 = .ok (.ifCond .lt 12, 3) := by decide +kernel
theorem dX11_part_26 : decode cX11_part 26 = .ok (.aload_n 0, 1) := by decide +kernel
theorem dX11_part_27 : decode cX11_part 27 = .ok (.getfield 60, 3) := by decide +kernel
theorem dX11_part_30 : decode cX11_part 30 = .ok (.bipush 6, 2) := by decide +kernel
theorem dX11_part_32 : decode cX11_part 32 = .ok (.if_icmp .lt 5, 3) := by decide +kernel
theorem dX11_part_35 : decode cX11_part 35 = .ok (.iconst (-1), 1) := by decide +kernel
theorem dX11_part_36 : decode cX11_part 36 = .ok (.ireturn, 1) := by decide +kernel
theorem dX11_part_37 : decode cX11_part 37 = .ok (.aload_n 0, 1) := by decide +kernel
theorem dX11_part_38 : decode cX11_part 38 = .ok (.getfield 20, 3) := by decide +kernel
theorem dX11_part_41 : decode cX11_part 41 = .ok (.aload_n 0, 1) := by decide +kernel
theorem dX11_part_42 : decode cX11_part 42 = .ok (.getfield 60, 3) := by decide +kernel
theorem dX11_part_45 : decode cX11_part 45 = .ok (.iaload, 1) := by decide +kernel
theorem dX11_part_46 : decode cX11_part 46 = .ok (.istore_n 3, 1) := by decide +kernel
theorem dX11_part_47 : decode cX11_part 47 = .ok (.iload_n 3, 1) := by decide +kernel
theorem dX11_part_48 : decode cX11_part 48 = .ok (.iload_n 2, 1) := by decide +kernel
theorem dX11_part_49 : decode cX11_part 49 = .ok (.iadd, 1) := by decide +kernel
theorem dX11_part_50 : decode cX11_part 50 = .ok (.sipush 12000, 3) := by decide +kernel
theorem dX11_part_53 : decode cX11_part 53 = .ok (.if_icmp .le 5, 3) := by decide +kernel
theorem dX11_part_56 : decode cX11_part 56 = .ok (.iconst (-1), 1) := by decide +kernel
theorem dX11_part_57 : decode cX11_part 57 = .ok (.ireturn, 1) := by decide +kernel
theorem dX11_part_58 : decode cX11_part 58 = .ok (.aload_n 0, 1) := by decide +kernel
theorem dX11_part_59 : decode cX11_part 59 = .ok (.getfield 9, 3) := by decide +kernel
theorem dX11_part_62 : decode cX11_part 62 = .ok (.iconst 0, 1) := by decide +kernel
theorem dX11_part_63 : decode cX11_part 63 = .ok (.aload_n 0, 1) := by decide +kernel
theorem dX11_part_64 : decode cX11_part 64 = .ok (.getfield 13, 3) := by decide +kernel
theorem dX11_part_67 : decode cX11_part 67 = .ok (.iload_n 3, 1) := by decide +kernel
theorem dX11_part_68 : decode cX11_part 68 = .ok (.iload_n 2, 1) := by decide +kernel
theorem dX11_part_69 : decode cX11_part 69 = .ok (.invokestatic 63, 3) := by decide +kernel
theorem dX11_part_72 : decode cX11_part 72 = .ok (.aload_n 0, 1) := by decide +kernel
theorem dX11_part_73 : decode cX11_part 73 = .ok (.getfield 16, 3) := by decide +kernel
theorem dX11_part_76 : decode cX11_part 76 = .ok (.aload_n 0, 1) := by decide +kernel
theorem dX11_part_77 : decode cX11_part 77 = .ok (.getfield 60, 3) := by decide +kernel
theorem dX11_part_80 : decode cX11_part 80 = .ok (.iload_n 1, 1) := by decide +kernel
theorem dX11_part_81 : decode cX11_part 81 = .ok (.iastore, 1) := by decide +kernel
theorem dX11_part_82 : decode cX11_part 82 = .ok (.aload_n 0, 1) := by decide +kernel
theorem dX11_part_83 : decode cX11_part 83 = .ok (.dup, 1) := by decide +kernel
theorem dX11_part_84 : decode cX11_part 84 = .ok (.getfield 60, 3) := by decide +kernel
theorem dX11_part_87 : decode cX11_part 87 = .ok (.iconst 1, 1) := by decide +kernel
theorem dX11_part_88 : decode cX11_part 88 = .ok (.iadd, 1) := by decide +kernel
theorem dX11_part_89 : decode cX11_part 89 = .ok (.putfield 60, 3) := by decide +kernel
theorem dX11_part_92 : decode cX11_part 92 = .ok (.aload_n 0, 1) := by decide +kernel
theorem dX11_part_93 : decode cX11_part 93 = .ok (.getfield 20, 3) := by decide +kernel
theorem dX11_part_96 : decode cX11_part 96 = .ok (.aload_n 0, 1) := by decide +kernel
theorem dX11_part_97 : decode cX11_part 97 = .ok (.getfield 60, 3) := by decide +kernel
theorem dX11_part_100 : decode cX11_part 100 = .ok (.iload_n 3, 1) := by decide +kernel
theorem dX11_part_101 : decode cX11_part 101 = .ok (.iload_n 2, 1) := by decide +kernel
theorem dX11_part_102 : decode cX11_part 102 = .ok (.iadd, 1) := by decide +kernel
theorem dX11_part_103 : decode cX11_part 103 = .ok (.iastore, 1) := by decide +kernel
theorem dX11_part_104 : decode cX11_part 104 = .ok (.aload_n 0, 1) := by decide +kernel
theorem dX11_part_105 : decode cX11_part 105 = .ok (.getfield 60, 3) := by decide +kernel
theorem dX11_part_108 : decode cX11_part 108 = .ok (.ireturn, 1) := by decide +kernel

set_option maxRecDepth 100000 in
set_option maxHeartbeats 4000000 in
theorem c_X11_part (S : Hp) (ad : Nat → Nat) (hW : Wd ad S) (n : Nat) (B : Nat → Nat) (hI_1101_ad0 : hI S 1101 (ad 0) = nI n) (hI_1105_ad0 : hI S 1105 (ad 0) = 0) (ht : STR (aI S (ad 1)) B n) (hsa : ∀ j, aI S (ad 4) j = 0) (hn : n ≤ 8000) : Ct 1 yX11_part cX11_part 4 (some .int) 0 0 [.ref (ad 0), .int 0] S (fun r S' => r = some (.int 1) ∧ Fm (fun f9 b9 => (f9 = 1101 ∧ b9 = (ad 0)) ∨ (f9 = 1105 ∧ b9 = (ad 0))) (fun _ _ => False) (fun b9 => b9 = (ad 2) ∨ b9 = (ad 3) ∨ b9 = (ad 4)) S S' ∧ hI S' 1105 (ad 0) = 1 ∧ STR (aI S' (ad 2)) B n ∧ aI S' (ad 3) 0 = 0 ∧ aI S' (ad 4) 0 = 0 ∧ aI S' (ad 4) 1 = nI n) := by
  refine ct_of (by decide) (Nat.le_of_ble_eq_true rfl) fun x hn9 C M hm9 => ?_
  have C : CB x RX11 cX11_part := C
  refine J.eq (lv' := [(0, .ref (ad 0)), (1, .int 0)]) rfl rfl rfl ?_
  refine j_aload_n C dX11_part_0 rfl 0 rfl ?_
  refine j_geti (f := 1101) (v := nI n) C flX11_53 dX11_part_1 (wm_0 (S := S) hW) (wk_0 (S := S) hW) (by decide) (by decide) rfl hI_1101_ad0 ?_
  refine j_istore_n (lv' := [(2, .int (nI n)), (0, .ref (ad 0)), (1, .int 0)]) C dX11_part_4 rfl (by rw [hn9]; decide) rfl ?_
  refine j_aload_n C dX11_part_5 rfl 1 rfl ?_
  refine j_iconst (v := 0) C dX11_part_6 (by decide) ?_
  refine j_puti (f := 1101) C flX11_53 (by decide) rfl rfl dX11_part_7 (wm_0 (S := S) hW) (wk_0 (S := S) hW) rfl ?_
  refine j_iload_n C dX11_part_10 rfl 2 rfl ?_
  refine j_if_eq (tgt := 19) C dX11_part_11 (by decide) (fun c9 => ?_) (fun c9 => absurd (by decide) c9)
  show J _ _ _ _ _ 19 _
  refine j_aload_n C dX11_part_19 rfl 1 rfl ?_
  refine j_geti (f := 1105) (v := 0) C flX11_60 dX11_part_20 (wm_0 (S := S) hW) (wk_0 (S := S) hW) (by decide) (by decide) rfl (rd_sIf (S := S) (g := 1101) (a := (ad 0)) (v := 0) (by decide) hI_1105_ad0) ?_
  refine j_if_lt (tgt := 35) C dX11_part_23 (by decide) (fun c9 => absurd c9 (by decide)) (fun c9 => ?_)
  refine j_aload_n C dX11_part_26 rfl 1 rfl ?_
  refine j_geti (f := 1105) (v := 0) C flX11_60 dX11_part_27 (wm_0 (S := S) hW) (wk_0 (S := S) hW) (by decide) (by decide) rfl (rd_sIf (S := S) (g := 1101) (a := (ad 0)) (v := 0) (by decide) hI_1105_ad0) ?_
  refine j_bipush (v := 6) C dX11_part_30 (by decide) ?_
  refine j_ic_lt (tgt := 37) C dX11_part_32 (by decide) (fun c9 => ?_) (fun c9 => absurd (by decide) c9)
  refine j_aload_n C dX11_part_37 rfl 1 rfl ?_
  show J _ _ _ _ _ 38 _
  refine j_getr (f := 1104) (v := (ad 4)) C flX11_20 dX11_part_38 (wm_0 (S := S) hW) (wk_0 (S := S) hW) (by decide) rfl (rxR_sI (S := S) (wr_1104_0 (S := S) hW)) ?_
  refine j_aload_n C dX11_part_41 rfl 1 rfl ?_
  refine j_geti (f := 1105) (v := 0) C flX11_60 dX11_part_42 (wm_0 (S := S) hW) (wk_0 (S := S) hW) (by decide) (by decide) rfl (rd_sIf (S := S) (g := 1101) (a := (ad 0)) (v := 0) (by decide) hI_1105_ad0) ?_
  refine j_iald (j := 0) (v := 0) C dX11_part_45 (wm_4 (S := S) hW) (wk_4 (S := S) hW) (inr_of (n := 7) (wl_4 (S := S) hW) (vp_lit (by decide))) (by decide) (show aI (sI S 1101 (ad 0) 0) (ad 4) 0 = 0 from hsa 0) ?_
  refine j_istore_n (lv' := [(3, .int 0), (2, .int (nI n)), (0, .ref (ad 0)), (1, .int 0)]) C dX11_part_46 rfl (by rw [hn9]; decide) rfl ?_
  refine j_iload_n C dX11_part_47 rfl 0 rfl ?_
  refine j_iload_n C dX11_part_48 rfl 1 rfl ?_
  refine j_iadd (v := nI n) C dX11_part_49 ((nI_add 0 n).trans (congrArg nI (Nat.zero_add n))) ?_
  show J _ _ _ _ _ 50 _
  refine j_sipush (v := 12000) C dX11_part_50 (by decide) ?_
  refine j_ic_le (tgt := 58) C dX11_part_53 (by decide) (fun c_53 => ?_) (fun c_53 => absurd (nI_le (b := 12000) (by omega) (by decide)) c_53)
  refine j_aload_n C dX11_part_58 rfl 2 rfl ?_
  refine j_getr (f := 1100) (v := (ad 1)) C flX11_9 dX11_part_59 (wm_0 (S := S) hW) (wk_0 (S := S) hW) (by decide) rfl (rxR_sI (S := S) (wr_1100_0 (S := S) hW)) ?_
  refine j_iconst (v := 0) C dX11_part_62 (by decide) ?_
  refine j_aload_n C dX11_part_63 rfl 2 rfl ?_
  refine j_getr (f := 1102) (v := (ad 2)) C flX11_13 dX11_part_64 (wm_0 (S := S) hW) (wk_0 (S := S) hW) (by decide) rfl (rxR_sI (S := S) (wr_1102_0 (S := S) hW)) ?_
  refine j_iload_n C dX11_part_67 rfl 0 rfl ?_
  show J _ _ _ _ _ 68 _
  refine j_iload_n C dX11_part_68 rfl 1 rfl ?_
  refine j_copy (kd := 13) (ty := .byte) (p0 := 0) (p1 := 0) (m0 := n) C mlX11_63 (by decide) (wm_1 (S := S) hW) (wk_1 (S := S) hW) (wl_1 (S := S) hW) (wm_2 (S := S) hW) (wk_2 (S := S) hW) (wl_2 (S := S) hW) (by decide) (by decide) (nI_pos (by omega)) (by decide) (by decide) (nI_clamp (by omega)) (by omega) (by omega) (fun i hi => by rw [Nat.zero_add, show aI (sI S 1101 (ad 0) 0) (ad 1) i = nI (B i) from (ht i hi).1]; exact fits_b _ (ht i hi).2) (M.fl (by decide)) dX11_part_69 ?_
  refine j_aload_n C dX11_part_72 rfl 2 rfl ?_
  refine j_getr (f := 1103) (v := (ad 3)) C flX11_16 dX11_part_73 (wm_0 (S := S) hW) (wk_0 (S := S) hW) (by decide) rfl (rxR_rI (S := (sI S 1101 (ad 0) 0)) (rxR_sI (S := S) (wr_1103_0 (S := S) hW))) ?_
  refine j_aload_n C dX11_part_76 rfl 2 rfl ?_
  refine j_geti (f := 1105) (v := 0) C flX11_60 dX11_part_77 (wm_0 (S := S) hW) (wk_0 (S := S) hW) (by decide) (by decide) rfl (rxI_rI (S := (sI S 1101 (ad 0) 0)) (rd_sIf (S := S) (g := 1101) (a := (ad 0)) (v := 0) (by decide) hI_1105_ad0)) ?_
  refine j_iload_n C dX11_part_80 rfl 3 rfl ?_
  refine j_iast (j := 0) C dX11_part_81 (wm_3 (S := S) hW) (wk_3 (S := S) hW) (inr_of (n := 6) (wl_3 (S := S) hW) (vp_lit (by decide))) (by decide) ?_
  show J _ _ _ _ _ 82 _
  refine j_aload_n C dX11_part_82 rfl 2 rfl ?_
  refine j_dup C dX11_part_83 rfl ?_
  refine j_geti (f := 1105) (v := 0) C flX11_60 dX11_part_84 (wm_0 (S := S) hW) (wk_0 (S := S) hW) (by decide) (by decide) rfl (rxI_tI (S := (rI (sI S 1101 (ad 0) 0) (ad 2) (va_cpy (aI (sI S 1101 (ad 0) 0) (ad 1)) (aI (sI S 1101 (ad 0) 0) (ad 2)) 0 0 n))) (rxI_rI (S := (sI S 1101 (ad 0) 0)) (rd_sIf (S := S) (g := 1101) (a := (ad 0)) (v := 0) (by decide) hI_1105_ad0))) ?_
  refine j_iconst (v := 1) C dX11_part_87 (by decide) ?_
  refine j_iadd (v := 1) C dX11_part_88 (by decide) ?_
  refine j_puti (f := 1105) C flX11_60 (by decide) rfl rfl dX11_part_89 (wm_0 (S := S) hW) (wk_0 (S := S) hW) rfl ?_
  refine j_aload_n C dX11_part_92 rfl 2 rfl ?_
  refine j_getr (f := 1104) (v := (ad 4)) C flX11_20 dX11_part_93 (wm_0 (S := S) hW) (wk_0 (S := S) hW) (by decide) rfl (rxR_sI (S := (tI (rI (sI S 1101 (ad 0) 0) (ad 2) (va_cpy (aI (sI S 1101 (ad 0) 0) (ad 1)) (aI (sI S 1101 (ad 0) 0) (ad 2)) 0 0 n)) (ad 3) 0 (0 : Int32))) (rxR_tI (S := (rI (sI S 1101 (ad 0) 0) (ad 2) (va_cpy (aI (sI S 1101 (ad 0) 0) (ad 1)) (aI (sI S 1101 (ad 0) 0) (ad 2)) 0 0 n))) (rxR_rI (S := (sI S 1101 (ad 0) 0)) (rxR_sI (S := S) (wr_1104_0 (S := S) hW))))) ?_
  show J _ _ _ _ _ 96 _
  refine j_aload_n C dX11_part_96 rfl 2 rfl ?_
  refine j_geti (f := 1105) (v := 1) C flX11_60 dX11_part_97 (wm_0 (S := S) hW) (wk_0 (S := S) hW) (by decide) (by decide) rfl (rd_sI (S := (tI (rI (sI S 1101 (ad 0) 0) (ad 2) (va_cpy (aI (sI S 1101 (ad 0) 0) (ad 1)) (aI (sI S 1101 (ad 0) 0) (ad 2)) 0 0 n)) (ad 3) 0 (0 : Int32))) (g := 1105) (a := (ad 0)) (v := 1)) ?_
  refine j_iload_n C dX11_part_100 rfl 0 rfl ?_
  refine j_iload_n C dX11_part_101 rfl 1 rfl ?_
  refine j_iadd (v := nI n) C dX11_part_102 ((nI_add 0 n).trans (congrArg nI (Nat.zero_add n))) ?_
  refine j_iast (j := 1) C dX11_part_103 (wm_4 (S := S) hW) (wk_4 (S := S) hW) (inr_of (n := 7) (wl_4 (S := S) hW) (vp_lit (by decide))) (by decide) ?_
  refine j_aload_n C dX11_part_104 rfl 2 rfl ?_
  refine j_geti (f := 1105) (v := 1) C flX11_60 dX11_part_105 (wm_0 (S := S) hW) (wk_0 (S := S) hW) (by decide) (by decide) rfl (rxI_tI (S := (sI (tI (rI (sI S 1101 (ad 0) 0) (ad 2) (va_cpy (aI (sI S 1101 (ad 0) 0) (ad 1)) (aI (sI S 1101 (ad 0) 0) (ad 2)) 0 0 n)) (ad 3) 0 (0 : Int32)) 1105 (ad 0) 1)) (rd_sI (S := (tI (rI (sI S 1101 (ad 0) 0) (ad 2) (va_cpy (aI (sI S 1101 (ad 0) 0) (ad 1)) (aI (sI S 1101 (ad 0) 0) (ad 2)) 0 0 n)) (ad 3) 0 (0 : Int32))) (g := 1105) (a := (ad 0)) (v := 1))) ?_
  show J _ _ _ _ _ 108 _
  exact j_iret C M dX11_part_108 (by decide) (by decide) ⟨rfl, ((((((Fm.refl (WI := (fun f9 b9 => (f9 = 1101 ∧ b9 = (ad 0)) ∨ (f9 = 1105 ∧ b9 = (ad 0)))) (WR := (fun _ _ => False)) (WA := (fun b9 => b9 = (ad 2) ∨ b9 = (ad 3) ∨ b9 = (ad 4)))).sI _ (fun _ => (Or.inl ⟨rfl, rfl⟩))).rI _ (fun _ => (Or.inl rfl))).tI _ _ (fun _ => (Or.inr (Or.inl rfl)))).sI _ (fun _ => (Or.inr ⟨rfl, rfl⟩))).tI _ _ (fun _ => (Or.inr (Or.inr rfl)))), (rxI_tI (S := (sI (tI (rI (sI S 1101 (ad 0) 0) (ad 2) (va_cpy (aI (sI S 1101 (ad 0) 0) (ad 1)) (aI (sI S 1101 (ad 0) 0) (ad 2)) 0 0 n)) (ad 3) 0 (0 : Int32)) 1105 (ad 0) 1)) (rd_sI (S := (tI (rI (sI S 1101 (ad 0) 0) (ad 2) (va_cpy (aI (sI S 1101 (ad 0) 0) (ad 1)) (aI (sI S 1101 (ad 0) 0) (ad 2)) 0 0 n)) (ad 3) 0 (0 : Int32))) (g := 1105) (a := (ad 0)) (v := 1))), (by rw [show aI (tI (sI (tI (rI (sI S 1101 (ad 0) 0) (ad 2) (va_cpy (aI (sI S 1101 (ad 0) 0) (ad 1)) (aI (sI S 1101 (ad 0) 0) (ad 2)) 0 0 n)) (ad 3) 0 (0 : Int32)) 1105 (ad 0) 1) (ad 4) 1 (nI n)) (ad 2) = (va_cpy (aI (sI S 1101 (ad 0) 0) (ad 1)) (aI (sI S 1101 (ad 0) 0) (ad 2)) 0 0 n) from ((ar_tI (S := (sI (tI (rI (sI S 1101 (ad 0) 0) (ad 2) (va_cpy (aI (sI S 1101 (ad 0) 0) (ad 1)) (aI (sI S 1101 (ad 0) 0) (ad 2)) 0 0 n)) (ad 3) 0 (0 : Int32)) 1105 (ad 0) 1)) (wn (S := S) hW (i := 2) (j := 4) (by decide) (by decide) (by decide))).trans ((arI_sI (S := (tI (rI (sI S 1101 (ad 0) 0) (ad 2) (va_cpy (aI (sI S 1101 (ad 0) 0) (ad 1)) (aI (sI S 1101 (ad 0) 0) (ad 2)) 0 0 n)) (ad 3) 0 (0 : Int32)))).trans ((ar_tI (S := (rI (sI S 1101 (ad 0) 0) (ad 2) (va_cpy (aI (sI S 1101 (ad 0) 0) (ad 1)) (aI (sI S 1101 (ad 0) 0) (ad 2)) 0 0 n))) (wn (S := S) hW (i := 2) (j := 3) (by decide) (by decide) (by decide))).trans (funext fun j9 => rd_rIs (S := (sI S 1101 (ad 0) 0))))))]; exact (str_cpy (show STR (aI (sI S 1101 (ad 0) 0) (ad 1)) B n from ht))), (rd_tIx (wn (S := S) hW (i := 3) (j := 4) (by decide) (by decide) (by decide)) rd_tI0), ((rd_tIj (show (0 : Nat) ≠ 1 by decide) (rd_tIx (wn (S := S) hW (i := 4) (j := 3) (by decide) (by decide) (by decide)) (by rw [aI_rI, if_neg (wn (S := S) hW (i := 4) (j := 2) (by decide) (by decide) (by decide))]; exact hsa 0)))), rd_tI0⟩

theorem dX9_number_0 : decode cX9_number 0 = .ok (.iload_n 1, 1) := by decide +kernel
theorem dX9_number_1 : decode cX9_number 1 = .ok (.tableswitch 96 0 6 #[43, 54, 62, 70, 78, 83, 88], 43) := by decide +kernel
theorem dX9_number_44 : decode cX9_number 44 = .ok (.aload_n 0, 1) := by decide +kernel
theorem dX9_number_45 : decode cX9_number 45 = .ok (.getfield 21, 3) := by decide +kernel
theorem dX9_number_48 : decode cX9_number 48 = .ok (.getfield 176, 3) := by decide +kernel
theorem dX9_number_51 : decode cX9_number 51 = .ok (.invokevirtual 179, 3) := by decide +kernel
theorem dX9_number_54 : decode cX9_number 54 = .ok (.ireturn, 1) := by decide +kernel
theorem dX9_number_55 : decode cX9_number 55 = .ok (.aload_n 0, 1) := by decide +kernel
theorem dX9_number_56 : decode cX9_number 56 = .ok (.getfield 21, 3) := by decide +kernel
theorem dX9_number_59 : decode cX9_number 59 = .ok (.getfield 183, 3) := by decide +kernel
theorem dX9_number_62 : decode cX9_number 62 = .ok (.ireturn, 1) := by decide +kernel
theorem dX9_number_63 : decode cX9_number 63 = .ok (.aload_n 0, 1) := by decide +kernel
theorem dX9_number_64 : decode cX9_number 64 = .ok (.getfield 28, 3) := by decide +kernel
theorem dX9_number_67 : decode cX9_number 67 = .ok (.invokevirtual 179, 3) := by decide +kernel
theorem dX9_number_70 : decode cX9_number 70 = .ok (.ireturn, 1) := by decide +kernel
theorem dX9_number_71 : decode cX9_number 71 = .ok (.aload_n 0, 1) := by decide +kernel
theorem dX9_number_72 : decode cX9_number 72 = .ok (.getfield 43, 3) := by decide +kernel
theorem dX9_number_75 : decode cX9_number 75 = .ok (.invokevirtual 179, 3) := by decide +kernel
theorem dX9_number_78 : decode cX9_number 78 = .ok (.ireturn, 1) := by decide +kernel
theorem dX9_number_79 : decode cX9_number 79 = .ok (.aload_n 0, 1) := by decide +kernel
theorem dX9_number_80 : decode cX9_number 80 = .ok (.invokevirtual 186, 3) := by decide +kernel
theorem dX9_number_83 : decode cX9_number 83 = .ok (.ireturn, 1) := by decide +kernel
theorem dX9_number_84 : decode cX9_number 84 = .ok (.aload_n 0, 1) := by decide +kernel
theorem dX9_number_85 : decode cX9_number 85 = .ok (.getfield 86, 3) := by decide +kernel
theorem dX9_number_88 : decode cX9_number 88 = .ok (.ireturn, 1) := by decide +kernel
theorem dX9_number_89 : decode cX9_number 89 = .ok (.aload_n 0, 1) := by decide +kernel
theorem dX9_number_90 : decode cX9_number 90 = .ok (.getfield 12, 3) := by decide +kernel
theorem dX9_number_93 : decode cX9_number 93 = .ok (.getfield 189, 3) := by decide +kernel
theorem dX9_number_96 : decode cX9_number 96 = .ok (.ireturn, 1) := by decide +kernel
theorem dX9_number_97 : decode cX9_number 97 = .ok (.iconst (-1), 1) := by decide +kernel
theorem dX9_number_98 : decode cX9_number 98 = .ok (.ireturn, 1) := by decide +kernel

set_option maxRecDepth 100000 in
set_option maxHeartbeats 4000000 in
theorem c_X9_number (S : Hp) (ad : Nat → Nat) (hW : Wd ad S) (v : Int32) (hI_3_ad12 : hI S 3 (ad 12) = v) : Ct 1 yX9_number cX9_number 2 (some .int) 0 0 [.ref (ad 6), .int 6] S (fun r S' => r = some (.int v) ∧ S' = S) := by
  refine ct_of (by decide) (Nat.le_of_ble_eq_true rfl) fun x hn9 C M hm9 => ?_
  have C : CB x RX9 cX9_number := C
  refine J.eq (lv' := [(0, .ref (ad 6)), (1, .int 6)]) rfl rfl rfl ?_
  refine j_iload_n C dX9_number_0 rfl 1 rfl ?_
  refine j_tabIn (off := 88) (tgt := 89) C dX9_number_1 (by decide) (by decide) (by decide) (by decide) ?_
  refine j_aload_n C dX9_number_89 rfl 0 rfl ?_
  refine j_getr (f := 901) (v := (ad 12)) C flX9_12 dX9_number_90 (wm_6 (S := S) hW) (wk_6 (S := S) hW) (by decide) rfl (wr_901_6 (S := S) hW) ?_
  refine j_geti (f := 3) (v := v) C flX9_189 dX9_number_93 (wm_12 (S := S) hW) (wk_12 (S := S) hW) (by decide) (by decide) rfl hI_3_ad12 ?_
  exact j_iret C M dX9_number_96 (by decide) (by decide) ⟨rfl, rfl⟩

theorem dX11_held_0 : decode cX11_held 0 = .ok (.aload_n 0, 1) := by decide +kernel
theorem dX11_held_1 : decode cX11_held 1 = .ok (.getfield 42, 3) := by decide +kernel
theorem dX11_held_4 : decode cX11_held 4 = .ok (.iload_n 1, 1) := by decide +kernel
theorem dX11_held_5 : decode cX11_held 5 = .ok (.invokevirtual 142, 3) := by decide +kernel
theorem dX11_held_8 : decode cX11_held 8 = .ok (.ireturn, 1) := by decide +kernel

set_option maxRecDepth 100000 in
set_option maxHeartbeats 4000000 in
theorem c_X11_held (S : Hp) (ad : Nat → Nat) (hW : Wd ad S) (v : Int32) (hI_3_ad12 : hI S 3 (ad 12) = v) : Ct 2 yX11_held cX11_held 2 (some .int) 0 0 [.ref (ad 0), .int 6] S (fun r S' => r = some (.int v) ∧ S' = S) := by
  refine ct_of (by decide) (Nat.le_of_ble_eq_true rfl) fun x hn9 C M hm9 => ?_
  have C : CB x RX11 cX11_held := C
  refine J.eq (lv' := [(0, .ref (ad 0)), (1, .int 6)]) rfl rfl rfl ?_
  refine j_aload_n C dX11_held_0 rfl 0 rfl ?_
  refine j_getr (f := 1107) (v := (ad 6)) C flX11_42 dX11_held_1 (wm_0 (S := S) hW) (wk_0 (S := S) hW) (by decide) rfl (wr_1107_0 (S := S) hW) ?_
  refine j_iload_n C dX11_held_4 rfl 1 rfl ?_
  refine j_callV (ci := 9) C [.int 6] [] mlX11_142 mcX9_number (c_X9_number S ad hW v hI_3_ad12) (wm_6 (S := S) hW) (wk_6 (S := S) hW) rfl (M.rm (by decide) (by decide) (Nat.le_of_ble_eq_true rfl) (Nat.le_of_ble_eq_true rfl)) rfl rfl (Nat.le_of_ble_eq_true rfl) dX11_held_5 (fun r_1 S_2 hp_3 => ?_)
  obtain ⟨rfl, e_4⟩ := hp_3
  refine J.eq (S' := S) (st' := [.int v]) (lv' := [(0, .ref (ad 0)), (1, .int 6)]) e_4 rfl rfl ?_
  exact j_iret C M dX11_held_8 (Nat.le_of_ble_eq_true rfl) (Nat.le_of_ble_eq_true rfl) ⟨rfl, rfl⟩

theorem dX11_print_0 : decode cX11_print 0 = .ok (.iload_n 1, 1) := by decide +kernel
theorem dX11_print_1 : decode cX11_print 1 = .ok (.iconst 1, 1) := by decide +kernel
theorem dX11_print_2 : decode cX11_print 2 = .ok (.if_icmp .lt 10, 3) := by decide +kernel
theorem dX11_print_5 : decode cX11_print 5 = .ok (.iload_n 1, 1) := by decide +kernel
theorem dX11_print_6 : decode cX11_print 6 = .ok (.sipush 800, 3) := by decide +kernel
theorem dX11_print_9 : decode cX11_print 9 = .ok (.if_icmp .le 5, 3) := by decide +kernel
theorem dX11_print_12 : decode cX11_print 12 = .ok (.iconst (-1), 1) := by decide +kernel
theorem dX11_print_13 : decode cX11_print 13 = .ok (.ireturn, 1) := by decide +kernel
theorem dX11_print_14 : decode cX11_print 14 = .ok (.aload_n 0, 1) := by decide +kernel
theorem dX11_print_15 : decode cX11_print 15 = .ok (.iconst 0, 1) := by decide +kernel
theorem dX11_print_16 : decode cX11_print 16 = .ok (.putfield 69, 3) := by decide +kernel
theorem dX11_print_19 : decode cX11_print 19 = .ok (.aload_n 0, 1) := by decide +kernel
theorem dX11_print_20 : decode cX11_print 20 = .ok (.iconst (-1), 1) := by decide +kernel
theorem dX11_print_21 : decode cX11_print 21 = .ok (.putfield 23, 3) := by decide +kernel
theorem dX11_print_24 : decode cX11_print 24 = .ok (.aload_n 0, 1) := by decide +kernel
theorem dX11_print_25 : decode cX11_print 25 = .ok (.iconst (-1), 1) := by decide +kernel
theorem dX11_print_26 : decode cX11_print 26 = .ok (.putfield 27, 3) := by decide +kernel
theorem dX11_print_29 : decode cX11_print 29 = .ok (.aload_n 0, 1) := by decide +kernel
theorem dX11_print_30 : decode cX11_print 30 = .ok (.getfield 33, 3) := by decide +kernel
theorem dX11_print_33 : decode cX11_print 33 = .ok (.invokevirtual 72, 3) := by decide +kernel
theorem dX11_print_36 : decode cX11_print 36 = .ok (.aload_n 0, 1) := by decide +kernel
theorem dX11_print_37 : decode cX11_print 37 = .ok (.getfield 42, 3) := by decide +kernel
theorem dX11_print_40 : decode cX11_print 40 = .ok (.invokevirtual 75, 3) := by decide +kernel
theorem dX11_print_43 : decode cX11_print 43 = .ok (.iconst 0, 1) := by decide +kernel
theorem dX11_print_44 : decode cX11_print 44 = .ok (.istore_n 2, 1) := by decide +kernel
theorem dX11_print_45 : decode cX11_print 45 = .ok (.iload_n 2, 1) := by decide +kernel
theorem dX11_print_46 : decode cX11_print 46 = .ok (.aload_n 0, 1) := by decide +kernel
theorem dX11_print_47 : decode cX11_print 47 = .ok (.getfield 60, 3) := by decide +kernel
theorem dX11_print_50 : decode cX11_print 50 = .ok (.if_icmp .ge 141, 3) := by decide +kernel
theorem dX11_print_53 : decode cX11_print 53 = .ok (.iload_n 2, 1) := by decide +kernel
theorem dX11_print_54 : decode cX11_print 54 = .ok (.bipush 6, 2) := by decide +kernel
theorem dX11_print_56 : decode cX11_print 56 = .ok (.if_icmp .ge 135, 3) := by decide +kernel
theorem dX11_print_59 : decode cX11_print 59 = .ok (.aload_n 0, 1) := by decide +kernel
theorem dX11_print_60 : decode cX11_print 60 = .ok (.getfield 69, 3) := by decide +kernel
theorem dX11_print_63 : decode cX11_print 63 = .ok (.ifCond .ne 128, 3) := by decide +kernel
theorem dX11_print_66 : decode cX11_print 66 = .ok (.aload_n 0, 1) := by decide +kernel
theorem dX11_print_67 : decode cX11_print 67 = .ok (.getfield 16, 3) := by decide +kernel
theorem dX11_print_70 : decode cX11_print 70 = .ok (.iload_n 2, 1) := by decide +kernel
theorem dX11_print_71 : decode cX11_print 71 = .ok (.iaload, 1) := by decide +kernel
theorem dX11_print_72 : decode cX11_print 72 = .ok (.ifCond .ne 50, 3) := by decide +kernel
theorem dX11_print_75 : decode cX11_print 75 = .ok (.aload_n 0, 1) := by decide +kernel
theorem dX11_print_76 : decode cX11_print 76 = .ok (.getfield 42, 3) := by decide +kernel
theorem dX11_print_79 : decode cX11_print 79 = .ok (.aload_n 0, 1) := by decide +kernel
theorem dX11_print_80 : decode cX11_print 80 = .ok (.getfield 13, 3) := by decide +kernel
theorem dX11_print_83 : decode cX11_print 83 = .ok (.aload_n 0, 1) := by decide +kernel
theorem dX11_print_84 : decode cX11_print 84 = .ok (.getfield 20, 3) := by decide +kernel
theorem dX11_print_87 : decode cX11_print 87 = .ok (.iload_n 2, 1) := by decide +kernel
theorem dX11_print_88 : decode cX11_print 88 = .ok (.iaload, 1) := by decide +kernel
theorem dX11_print_89 : decode cX11_print 89 = .ok (.aload_n 0, 1) := by decide +kernel
theorem dX11_print_90 : decode cX11_print 90 = .ok (.getfield 20, 3) := by decide +kernel
theorem dX11_print_93 : decode cX11_print 93 = .ok (.iload_n 2, 1) := by decide +kernel
theorem dX11_print_94 : decode cX11_print 94 = .ok (.iconst 1, 1) := by decide +kernel
theorem dX11_print_95 : decode cX11_print 95 = .ok (.iadd, 1) := by decide +kernel
theorem dX11_print_96 : decode cX11_print 96 = .ok (.iaload, 1) := by decide +kernel
theorem dX11_print_97 : decode cX11_print 97 = .ok (.invokevirtual 78, 3) := by decide +kernel
theorem dX11_print_100 : decode cX11_print 100 = .ok (.aload_n 0, 1) := by decide +kernel
theorem dX11_print_101 : decode cX11_print 101 = .ok (.aload_n 0, 1) := by decide +kernel
theorem dX11_print_102 : decode cX11_print 102 = .ok (.getfield 42, 3) := by decide +kernel
theorem dX11_print_105 : decode cX11_print 105 = .ok (.invokevirtual 82, 3) := by decide +kernel
theorem dX11_print_108 : decode cX11_print 108 = .ok (.ifCond .eq 7, 3) := by decide +kernel
theorem dX11_print_111 : decode cX11_print 111 = .ok (.iconst 1, 1) := by decide +kernel
theorem dX11_print_112 : decode cX11_print 112 = .ok (.goto 4, 3) := by decide +kernel
theorem dX11_print_115 : decode cX11_print 115 = .ok (.iconst 0, 1) := by decide +kernel
theorem dX11_print_116 : decode cX11_print 116 = .ok (.putfield 69, 3) := by decide +kernel
theorem dX11_print_119 : decode cX11_print 119 = .ok (.goto 50, 3) := by decide +kernel
theorem dX11_print_122 : decode cX11_print 122 = .ok (.aload_n 0, 1) := by decide +kernel
theorem dX11_print_123 : decode cX11_print 123 = .ok (.getfield 49, 3) := by decide +kernel
theorem dX11_print_126 : decode cX11_print 126 = .ok (.aload_n 0, 1) := by decide +kernel
theorem dX11_print_127 : decode cX11_print 127 = .ok (.getfield 13, 3) := by decide +kernel
theorem dX11_print_130 : decode cX11_print 130 = .ok (.aload_n 0, 1) := by decide +kernel
theorem dX11_print_131 : decode cX11_print 131 = .ok (.getfield 20, 3) := by decide +kernel
theorem dX11_print_134 : decode cX11_print 134 = .ok (.iload_n 2, 1) := by decide +kernel
theorem dX11_print_135 : decode cX11_print 135 = .ok (.iaload, 1) := by decide +kernel
theorem dX11_print_136 : decode cX11_print 136 = .ok (.aload_n 0, 1) := by decide +kernel
theorem dX11_print_137 : decode cX11_print 137 = .ok (.getfield 20, 3) := by decide +kernel
theorem dX11_print_140 : decode cX11_print 140 = .ok (.iload_n 2, 1) := by decide +kernel
theorem dX11_print_141 : decode cX11_print 141 = .ok (.iconst 1, 1) := by decide +kernel
theorem dX11_print_142 : decode cX11_print 142 = .ok (.iadd, 1) := by decide +kernel
theorem dX11_print_143 : decode cX11_print 143 = .ok (.iaload, 1) := by decide +kernel
theorem dX11_print_144 : decode cX11_print 144 = .ok (.invokevirtual 86, 3) := by decide +kernel
theorem dX11_print_147 : decode cX11_print 147 = .ok (.aload_n 0, 1) := by decide +kernel
theorem dX11_print_148 : decode cX11_print 148 = .ok (.aload_n 0, 1) := by decide +kernel
theorem dX11_print_149 : decode cX11_print 149 = .ok (.getfield 49, 3) := by decide +kernel
theorem dX11_print_152 : decode cX11_print 152 = .ok (.getfield 89, 3) := by decide +kernel
theorem dX11_print_155 : decode cX11_print 155 = .ok (.putfield 69, 3) := by decide +kernel
theorem dX11_print_158 : decode cX11_print 158 = .ok (.aload_n 0, 1) := by decide +kernel
theorem dX11_print_159 : decode cX11_print 159 = .ok (.aload_n 0, 1) := by decide +kernel
theorem dX11_print_160 : decode cX11_print 160 = .ok (.getfield 49, 3) := by decide +kernel
theorem dX11_print_163 : decode cX11_print 163 = .ok (.getfield 92, 3) := by decide +kernel
theorem dX11_print_166 : decode cX11_print 166 = .ok (.putfield 27, 3) := by decide +kernel
theorem dX11_print_169 : decode cX11_print 169 = .ok (.aload_n 0, 1) := by decide +kernel
theorem dX11_print_170 : decode cX11_print 170 = .ok (.aload_n 0, 1) := by decide +kernel
theorem dX11_print_171 : decode cX11_print 171 = .ok (.getfield 69, 3) := by decide +kernel
theorem dX11_print_174 : decode cX11_print 174 = .ok (.ifCond .ne 7, 3) := by decide +kernel
theorem dX11_print_177 : decode cX11_print 177 = .ok (.iconst (-1), 1) := by decide +kernel
theorem dX11_print_178 : decode cX11_print 178 = .ok (.goto 4, 3) := by decide +kernel
theorem dX11_print_181 : decode cX11_print 181 = .ok (.iload_n 2, 1) := by decide +kernel
theorem dX11_print_182 : decode cX11_print 182 = .ok (.putfield 23, 3) := by decide +kernel
theorem dX11_print_185 : decode cX11_print 185 = .ok (.iinc 2 1, 3) := by decide +kernel
theorem dX11_print_188 : decode cX11_print 188 = .ok (.goto (-143), 3) := by decide +kernel
theorem dX11_print_191 : decode cX11_print 191 = .ok (.aload_n 0, 1) := by decide +kernel
theorem dX11_print_192 : decode cX11_print 192 = .ok (.iconst 0, 1) := by decide +kernel
theorem dX11_print_193 : decode cX11_print 193 = .ok (.putfield 60, 3) := by decide +kernel
theorem dX11_print_196 : decode cX11_print 196 = .ok (.aload_n 0, 1) := by decide +kernel
theorem dX11_print_197 : decode cX11_print 197 = .ok (.getfield 69, 3) := by decide +kernel
theorem dX11_print_200 : decode cX11_print 200 = .ok (.ifCond .ne 11, 3) := by decide +kernel
theorem dX11_print_203 : decode cX11_print 203 = .ok (.aload_n 0, 1) := by decide +kernel
theorem dX11_print_204 : decode cX11_print 204 = .ok (.getfield 33, 3) := by decide +kernel
theorem dX11_print_207 : decode cX11_print 207 = .ok (.getfield 93, 3) := by decide +kernel
theorem dX11_print_210 : decode cX11_print 210 = .ok (.ireturn, 1) := by decide +kernel
theorem dX11_print_211 : decode cX11_print 211 = .ok (.aload_n 0, 1) := by decide +kernel
theorem dX11_print_212 : decode cX11_print 212 = .ok (.getfield 33, 3) := by decide +kernel
theorem dX11_print_215 : decode cX11_print 215 = .ok (.invokevirtual 72, 3) := by decide +kernel
theorem dX11_print_218 : decode cX11_print 218 = .ok (.aload_n 0, 1) := by decide +kernel
theorem dX11_print_219 : decode cX11_print 219 = .ok (.getfield 42, 3) := by decide +kernel
theorem dX11_print_222 : decode cX11_print 222 = .ok (.invokevirtual 96, 3) := by decide +kernel
theorem dX11_print_225 : decode cX11_print 225 = .ok (.bipush (-10), 2) := by decide +kernel
theorem dX11_print_227 : decode cX11_print 227 = .ok (.aload_n 0, 1) := by decide +kernel
theorem dX11_print_228 : decode cX11_print 228 = .ok (.getfield 69, 3) := by decide +kernel
theorem dX11_print_231 : decode cX11_print 231 = .ok (.isub, 1) := by decide +kernel
theorem dX11_print_232 : decode cX11_print 232 = .ok (.ireturn, 1) := by decide +kernel

set_option maxRecDepth 100000 in
set_option maxHeartbeats 4000000 in
theorem c_print1 (S : Hp) (ad : Nat → Nat) (hW : Wd ad S) (b9 : Nat) (B : Nat → Nat) (n : Nat) (hI_1105_ad0 : hI S 1105 (ad 0) = 1) (hs : STR (aI S (ad 2)) B n) (hso : aI S (ad 3) 0 = 0) (hs0 : aI S (ad 4) 0 = 0) (hs1 : aI S (ad 4) 1 = nI n) (hI_209_ad15 : hI S 209 (ad 15) = 0) (z_ad17 : ∀ j, aI S (ad 17) j = 0) (z_ad21 : ∀ j, aI S (ad 21) j = 0) (z_ad23 : ∀ j, aI S (ad 23) j = 0) (bs : List Bx) (hb : ∀ b ∈ bs, okB b) (hB : Has B 0 (jobL bs)) (hnb : 5 + (boxsL bs).length = n) (hmb : bs.length ≤ 120) (hn : n ≤ 12000) (hb9 : 1 ≤ b9 ∧ b9 ≤ 128) (hz : 0 < bs.length) : Ct 10 yX11_print cX11_print 3 (some .int) 0 0 [.ref (ad 0), .int (nI b9)] S (fun r S' => r = some (.int 1) ∧ Fm (fun f9 b9 => (f9 = 1105 ∧ b9 = (ad 0)) ∨ (f9 = 1109 ∧ b9 = (ad 0)) ∨ (f9 = 1110 ∧ b9 = (ad 0)) ∨ (f9 = 1111 ∧ b9 = (ad 0)) ∨ b9 = (ad 12) ∨ b9 = (ad 24) ∨ b9 = (ad 26) ∨ b9 = (ad 27) ∨ b9 = (ad 28) ∨ b9 = (ad 30) ∨ b9 = (ad 35) ∨ b9 = (ad 15) ∨ b9 = (ad 6) ∨ b9 = (ad 5)) (fun f9 b9 => (f9 = 10 ∧ b9 = (ad 12)) ∨ (f9 = 913 ∧ b9 = (ad 6)) ∨ (f9 = 500 ∧ b9 = (ad 35))) (fun b9 => b9 = (ad 25) ∨ b9 = (ad 14) ∨ b9 = (ad 13) ∨ b9 = (ad 7) ∨ b9 = (ad 8) ∨ b9 = (ad 9) ∨ b9 = (ad 11) ∨ b9 = (ad 29) ∨ b9 = (ad 31) ∨ b9 = (ad 32) ∨ b9 = (ad 33) ∨ b9 = (ad 36) ∨ b9 = (ad 19)) S S' ∧ hI S' 602 (ad 5) = 1 ∧ hI S' 3 (ad 12) = nI bs.length ∧ aI S' (ad 8) 0 = 200 ∧ aI S' (ad 9) 0 = 240 ∧ PGP (aI S' (ad 11)) (boxsO (fun _ _ => false) bs)) := by
  refine ct_of (by decide) (Nat.le_of_ble_eq_true rfl) fun x hn9 C M hm9 => ?_
  have C : CB x RX11 cX11_print := C
  refine J.eq (lv' := [(0, .ref (ad 0)), (1, .int (nI b9))]) rfl rfl rfl ?_
  refine j_iload_n C dX11_print_0 rfl 1 rfl ?_
  refine j_iconst (v := 1) C dX11_print_1 (by decide) ?_
  refine j_ic_lt (tgt := 12) C dX11_print_2 (by decide) (fun c_2 => absurd c_2 (nI_nlt (b := 1) hb9.1 (by omega))) (fun c_2 => ?_)
  refine j_iload_n C dX11_print_5 rfl 1 rfl ?_
  refine j_sipush (v := 800) C dX11_print_6 (by decide) ?_
  refine j_ic_le (tgt := 14) C dX11_print_9 (by decide) (fun c_9 => ?_) (fun c_9 => absurd (nI_le (b := 800) (by omega) (by decide)) c_9)
  refine j_aload_n C dX11_print_14 rfl 0 rfl ?_
  refine j_iconst (v := 0) C dX11_print_15 (by decide) ?_
  show J _ _ _ _ _ 16 _
  refine j_puti (f := 1109) C flX11_69 (by decide) rfl rfl dX11_print_16 (wm_0 (S := S) hW) (wk_0 (S := S) hW) rfl ?_
  refine j_aload_n C dX11_print_19 rfl 0 rfl ?_
  refine j_iconst (v := (-1)) C dX11_print_20 (by decide) ?_
  refine j_puti (f := 1110) C flX11_23 (by decide) rfl rfl dX11_print_21 (wm_0 (S := S) hW) (wk_0 (S := S) hW) rfl ?_
  refine j_aload_n C dX11_print_24 rfl 0 rfl ?_
  refine j_iconst (v := (-1)) C dX11_print_25 (by decide) ?_
  refine j_puti (f := 1111) C flX11_27 (by decide) rfl rfl dX11_print_26 (wm_0 (S := S) hW) (wk_0 (S := S) hW) rfl ?_
  refine j_aload_n C dX11_print_29 rfl 0 rfl ?_
  show J _ _ _ _ _ 30 _
  refine j_getr (f := 1106) (v := (ad 5)) C flX11_33 dX11_print_30 (wm_0 (S := S) hW) (wk_0 (S := S) hW) (by decide) rfl (rxR_sI (S := (sI (sI S 1109 (ad 0) 0) 1110 (ad 0) (-1))) (rxR_sI (S := (sI S 1109 (ad 0) 0)) (rxR_sI (S := S) (wr_1106_0 (S := S) hW)))) ?_
  have hf_3 : Fm (fun f9 b9 => (f9 = 1105 ∧ b9 = (ad 0)) ∨ (f9 = 1109 ∧ b9 = (ad 0)) ∨ (f9 = 1110 ∧ b9 = (ad 0)) ∨ (f9 = 1111 ∧ b9 = (ad 0)) ∨ b9 = (ad 12) ∨ b9 = (ad 24) ∨ b9 = (ad 26) ∨ b9 = (ad 27) ∨ b9 = (ad 28) ∨ b9 = (ad 30) ∨ b9 = (ad 35) ∨ b9 = (ad 15) ∨ b9 = (ad 6) ∨ b9 = (ad 5)) (fun f9 b9 => (f9 = 10 ∧ b9 = (ad 12)) ∨ (f9 = 913 ∧ b9 = (ad 6)) ∨ (f9 = 500 ∧ b9 = (ad 35))) (fun b9 => b9 = (ad 25) ∨ b9 = (ad 14) ∨ b9 = (ad 13) ∨ b9 = (ad 7) ∨ b9 = (ad 8) ∨ b9 = (ad 9) ∨ b9 = (ad 11) ∨ b9 = (ad 29) ∨ b9 = (ad 31) ∨ b9 = (ad 32) ∨ b9 = (ad 33) ∨ b9 = (ad 36) ∨ b9 = (ad 19)) S (sI (sI (sI S 1109 (ad 0) 0) 1110 (ad 0) (-1)) 1111 (ad 0) (-1)) := ((((Fm.refl (WI := (fun f9 b9 => (f9 = 1105 ∧ b9 = (ad 0)) ∨ (f9 = 1109 ∧ b9 = (ad 0)) ∨ (f9 = 1110 ∧ b9 = (ad 0)) ∨ (f9 = 1111 ∧ b9 = (ad 0)) ∨ b9 = (ad 12) ∨ b9 = (ad 24) ∨ b9 = (ad 26) ∨ b9 = (ad 27) ∨ b9 = (ad 28) ∨ b9 = (ad 30) ∨ b9 = (ad 35) ∨ b9 = (ad 15) ∨ b9 = (ad 6) ∨ b9 = (ad 5))) (WR := (fun f9 b9 => (f9 = 10 ∧ b9 = (ad 12)) ∨ (f9 = 913 ∧ b9 = (ad 6)) ∨ (f9 = 500 ∧ b9 = (ad 35)))) (WA := (fun b9 => b9 = (ad 25) ∨ b9 = (ad 14) ∨ b9 = (ad 13) ∨ b9 = (ad 7) ∨ b9 = (ad 8) ∨ b9 = (ad 9) ∨ b9 = (ad 11) ∨ b9 = (ad 29) ∨ b9 = (ad 31) ∨ b9 = (ad 32) ∨ b9 = (ad 33) ∨ b9 = (ad 36) ∨ b9 = (ad 19)))).sI _ (fun _ => (Or.inr (Or.inl ⟨rfl, rfl⟩)))).sI _ (fun _ => (Or.inr (Or.inr (Or.inl ⟨rfl, rfl⟩))))).sI _ (fun _ => (Or.inr (Or.inr (Or.inr (Or.inl ⟨rfl, rfl⟩))))))
  obtain ⟨S_1, eS_2⟩ : ∃ S9 : Hp, S9 = (sI (sI (sI S 1109 (ad 0) 0) 1110 (ad 0) (-1)) 1111 (ad 0) (-1)) := ⟨_, rfl⟩
  refine J.eq (S' := S_1) eS_2.symm rfl rfl ?_
  have hv_4 : hI S_1 1105 (ad 0) = 1 := by rw [eS_2]; exact (rd_sIf (S := (sI (sI S 1109 (ad 0) 0) 1110 (ad 0) (-1))) (g := 1111) (a := (ad 0)) (v := (-1)) (by decide) (rd_sIf (S := (sI S 1109 (ad 0) 0)) (g := 1110) (a := (ad 0)) (v := (-1)) (by decide) (rd_sIf (S := S) (g := 1109) (a := (ad 0)) (v := 0) (by decide) hI_1105_ad0)))
  have hv_5 : hI S_1 1109 (ad 0) = 0 := by rw [eS_2]; exact (rd_sIf (S := (sI (sI S 1109 (ad 0) 0) 1110 (ad 0) (-1))) (g := 1111) (a := (ad 0)) (v := (-1)) (by decide) (rd_sIf (S := (sI S 1109 (ad 0) 0)) (g := 1110) (a := (ad 0)) (v := (-1)) (by decide) (rd_sI (S := S) (g := 1109) (a := (ad 0)) (v := 0))))
  have hv_6 : hI S_1 1110 (ad 0) = (-1) := by rw [eS_2]; exact (rd_sIf (S := (sI (sI S 1109 (ad 0) 0) 1110 (ad 0) (-1))) (g := 1111) (a := (ad 0)) (v := (-1)) (by decide) (rd_sI (S := (sI S 1109 (ad 0) 0)) (g := 1110) (a := (ad 0)) (v := (-1))))
  have hv_7 : hI S_1 1111 (ad 0) = (-1) := by rw [eS_2]; exact (rd_sI (S := (sI (sI S 1109 (ad 0) 0) 1110 (ad 0) (-1))) (g := 1111) (a := (ad 0)) (v := (-1)))
  have hv_8 : hI S_1 209 (ad 15) = 0 := by rw [eS_2]; exact (rd_sIf (S := (sI (sI S 1109 (ad 0) 0) 1110 (ad 0) (-1))) (g := 1111) (a := (ad 0)) (v := (-1)) (by decide) (rd_sIf (S := (sI S 1109 (ad 0) 0)) (g := 1110) (a := (ad 0)) (v := (-1)) (by decide) (rd_sIf (S := S) (g := 1109) (a := (ad 0)) (v := 0) (by decide) hI_209_ad15)))
  have hf_9 : Fm (fun f9 b9 => (f9 = 1105 ∧ b9 = (ad 0)) ∨ (f9 = 1109 ∧ b9 = (ad 0)) ∨ (f9 = 1110 ∧ b9 = (ad 0)) ∨ (f9 = 1111 ∧ b9 = (ad 0)) ∨ b9 = (ad 12) ∨ b9 = (ad 24) ∨ b9 = (ad 26) ∨ b9 = (ad 27) ∨ b9 = (ad 28) ∨ b9 = (ad 30) ∨ b9 = (ad 35) ∨ b9 = (ad 15) ∨ b9 = (ad 6) ∨ b9 = (ad 5)) (fun f9 b9 => (f9 = 10 ∧ b9 = (ad 12)) ∨ (f9 = 913 ∧ b9 = (ad 6)) ∨ (f9 = 500 ∧ b9 = (ad 35))) (fun b9 => b9 = (ad 25) ∨ b9 = (ad 14) ∨ b9 = (ad 13) ∨ b9 = (ad 7) ∨ b9 = (ad 8) ∨ b9 = (ad 9) ∨ b9 = (ad 11) ∨ b9 = (ad 29) ∨ b9 = (ad 31) ∨ b9 = (ad 32) ∨ b9 = (ad 33) ∨ b9 = (ad 36) ∨ b9 = (ad 19)) S S_1 := by rw [eS_2]; exact hf_3
  have hz_10 : ∀ j, aI S_1 (ad 17) j = 0 := by rw [eS_2]; exact z_ad17
  have hz_11 : ∀ j, aI S_1 (ad 21) j = 0 := by rw [eS_2]; exact z_ad21
  have hz_12 : ∀ j, aI S_1 (ad 23) j = 0 := by rw [eS_2]; exact z_ad23
  have hW_13 : Wd ad S_1 := by rw [eS_2]; exact (Wd.sI (Wd.sI (Wd.sI hW)))
  have hx_14 : STR (aI S_1 (ad 2)) B n := by rw [eS_2]; exact (by rw [show aI (sI (sI (sI S 1109 (ad 0) 0) 1110 (ad 0) (-1)) 1111 (ad 0) (-1)) (ad 2) = aI S (ad 2) from ((arI_sI (S := (sI (sI S 1109 (ad 0) 0) 1110 (ad 0) (-1)))).trans ((arI_sI (S := (sI S 1109 (ad 0) 0))).trans (arI_sI (S := S))))]; exact hs)
  have hx_15 : aI S_1 (ad 3) 0 = 0 := by rw [eS_2]; exact (by rw [show aI (sI (sI (sI S 1109 (ad 0) 0) 1110 (ad 0) (-1)) 1111 (ad 0) (-1)) (ad 3) = aI S (ad 3) from ((arI_sI (S := (sI (sI S 1109 (ad 0) 0) 1110 (ad 0) (-1)))).trans ((arI_sI (S := (sI S 1109 (ad 0) 0))).trans (arI_sI (S := S))))]; exact hso)
  have hx_16 : aI S_1 (ad 4) 0 = 0 := by rw [eS_2]; exact (by rw [show aI (sI (sI (sI S 1109 (ad 0) 0) 1110 (ad 0) (-1)) 1111 (ad 0) (-1)) (ad 4) = aI S (ad 4) from ((arI_sI (S := (sI (sI S 1109 (ad 0) 0) 1110 (ad 0) (-1)))).trans ((arI_sI (S := (sI S 1109 (ad 0) 0))).trans (arI_sI (S := S))))]; exact hs0)
  have hx_17 : aI S_1 (ad 4) 1 = nI n := by rw [eS_2]; exact (by rw [show aI (sI (sI (sI S 1109 (ad 0) 0) 1110 (ad 0) (-1)) 1111 (ad 0) (-1)) (ad 4) = aI S (ad 4) from ((arI_sI (S := (sI (sI S 1109 (ad 0) 0) 1110 (ad 0) (-1)))).trans ((arI_sI (S := (sI S 1109 (ad 0) 0))).trans (arI_sI (S := S))))]; exact hs1)
  refine j_callV (ci := 6) C [] [] mlX11_72 mcX6_clear (c_X6_clear S_1 ad hW_13) (wm_5 (S := S_1) hW_13) (wk_5 (S := S_1) hW_13) rfl (M.rm (by decide) (by decide) (Nat.le_of_ble_eq_true rfl) (Nat.le_of_ble_eq_true rfl)) rfl rfl (Nat.le_of_ble_eq_true rfl) dX11_print_33 (fun r_18 S_19 hp_20 => ?_)
  obtain ⟨rfl, e_21⟩ := hp_20
  refine J.eq (S' := (sI (sI (sI S_1 601 (ad 5) 0) 602 (ad 5) 0) 603 (ad 5) 0)) (st' := []) (lv' := [(0, .ref (ad 0)), (1, .int (nI b9))]) e_21 rfl rfl ?_
  refine j_aload_n C dX11_print_36 rfl 0 rfl ?_
  refine j_getr (f := 1107) (v := (ad 6)) C flX11_42 dX11_print_37 (wm_0 (S := S_1) hW_13) (wk_0 (S := S_1) hW_13) (by decide) rfl (rxR_sI (S := (sI (sI S_1 601 (ad 5) 0) 602 (ad 5) 0)) (rxR_sI (S := (sI S_1 601 (ad 5) 0)) (rxR_sI (S := S_1) (wr_1107_0 (S := S_1) hW_13)))) ?_
  have hf_24 : Fm (fun f9 b9 => (f9 = 1105 ∧ b9 = (ad 0)) ∨ (f9 = 1109 ∧ b9 = (ad 0)) ∨ (f9 = 1110 ∧ b9 = (ad 0)) ∨ (f9 = 1111 ∧ b9 = (ad 0)) ∨ b9 = (ad 12) ∨ b9 = (ad 24) ∨ b9 = (ad 26) ∨ b9 = (ad 27) ∨ b9 = (ad 28) ∨ b9 = (ad 30) ∨ b9 = (ad 35) ∨ b9 = (ad 15) ∨ b9 = (ad 6) ∨ b9 = (ad 5)) (fun f9 b9 => (f9 = 10 ∧ b9 = (ad 12)) ∨ (f9 = 913 ∧ b9 = (ad 6)) ∨ (f9 = 500 ∧ b9 = (ad 35))) (fun b9 => b9 = (ad 25) ∨ b9 = (ad 14) ∨ b9 = (ad 13) ∨ b9 = (ad 7) ∨ b9 = (ad 8) ∨ b9 = (ad 9) ∨ b9 = (ad 11) ∨ b9 = (ad 29) ∨ b9 = (ad 31) ∨ b9 = (ad 32) ∨ b9 = (ad 33) ∨ b9 = (ad 36) ∨ b9 = (ad 19)) S (sI (sI (sI S_1 601 (ad 5) 0) 602 (ad 5) 0) 603 (ad 5) 0) := (((hf_9.sI _ (fun _ => (Or.inr (Or.inr (Or.inr (Or.inr (Or.inr (Or.inr (Or.inr (Or.inr (Or.inr (Or.inr (Or.inr (Or.inr (Or.inr rfl))))))))))))))).sI _ (fun _ => (Or.inr (Or.inr (Or.inr (Or.inr (Or.inr (Or.inr (Or.inr (Or.inr (Or.inr (Or.inr (Or.inr (Or.inr (Or.inr rfl))))))))))))))).sI _ (fun _ => (Or.inr (Or.inr (Or.inr (Or.inr (Or.inr (Or.inr (Or.inr (Or.inr (Or.inr (Or.inr (Or.inr (Or.inr (Or.inr rfl)))))))))))))))
  obtain ⟨S_22, eS_23⟩ : ∃ S9 : Hp, S9 = (sI (sI (sI S_1 601 (ad 5) 0) 602 (ad 5) 0) 603 (ad 5) 0) := ⟨_, rfl⟩
  refine J.eq (S' := S_22) eS_23.symm rfl rfl ?_
  have hv_25 : hI S_22 1105 (ad 0) = 1 := by rw [eS_23]; exact (rd_sIf (S := (sI (sI S_1 601 (ad 5) 0) 602 (ad 5) 0)) (g := 603) (a := (ad 5)) (v := 0) (by decide) (rd_sIf (S := (sI S_1 601 (ad 5) 0)) (g := 602) (a := (ad 5)) (v := 0) (by decide) (rd_sIf (S := S_1) (g := 601) (a := (ad 5)) (v := 0) (by decide) hv_4)))
  have hv_26 : hI S_22 1109 (ad 0) = 0 := by rw [eS_23]; exact (rd_sIf (S := (sI (sI S_1 601 (ad 5) 0) 602 (ad 5) 0)) (g := 603) (a := (ad 5)) (v := 0) (by decide) (rd_sIf (S := (sI S_1 601 (ad 5) 0)) (g := 602) (a := (ad 5)) (v := 0) (by decide) (rd_sIf (S := S_1) (g := 601) (a := (ad 5)) (v := 0) (by decide) hv_5)))
  have hv_27 : hI S_22 1110 (ad 0) = (-1) := by rw [eS_23]; exact (rd_sIf (S := (sI (sI S_1 601 (ad 5) 0) 602 (ad 5) 0)) (g := 603) (a := (ad 5)) (v := 0) (by decide) (rd_sIf (S := (sI S_1 601 (ad 5) 0)) (g := 602) (a := (ad 5)) (v := 0) (by decide) (rd_sIf (S := S_1) (g := 601) (a := (ad 5)) (v := 0) (by decide) hv_6)))
  have hv_28 : hI S_22 1111 (ad 0) = (-1) := by rw [eS_23]; exact (rd_sIf (S := (sI (sI S_1 601 (ad 5) 0) 602 (ad 5) 0)) (g := 603) (a := (ad 5)) (v := 0) (by decide) (rd_sIf (S := (sI S_1 601 (ad 5) 0)) (g := 602) (a := (ad 5)) (v := 0) (by decide) (rd_sIf (S := S_1) (g := 601) (a := (ad 5)) (v := 0) (by decide) hv_7)))
  have hv_29 : hI S_22 209 (ad 15) = 0 := by rw [eS_23]; exact (rd_sIf (S := (sI (sI S_1 601 (ad 5) 0) 602 (ad 5) 0)) (g := 603) (a := (ad 5)) (v := 0) (by decide) (rd_sIf (S := (sI S_1 601 (ad 5) 0)) (g := 602) (a := (ad 5)) (v := 0) (by decide) (rd_sIf (S := S_1) (g := 601) (a := (ad 5)) (v := 0) (by decide) hv_8)))
  have hv_30 : hI S_22 601 (ad 5) = 0 := by rw [eS_23]; exact (rd_sIf (S := (sI (sI S_1 601 (ad 5) 0) 602 (ad 5) 0)) (g := 603) (a := (ad 5)) (v := 0) (by decide) (rd_sIf (S := (sI S_1 601 (ad 5) 0)) (g := 602) (a := (ad 5)) (v := 0) (by decide) (rd_sI (S := S_1) (g := 601) (a := (ad 5)) (v := 0))))
  have hv_31 : hI S_22 602 (ad 5) = 0 := by rw [eS_23]; exact (rd_sIf (S := (sI (sI S_1 601 (ad 5) 0) 602 (ad 5) 0)) (g := 603) (a := (ad 5)) (v := 0) (by decide) (rd_sI (S := (sI S_1 601 (ad 5) 0)) (g := 602) (a := (ad 5)) (v := 0)))
  have hv_32 : hI S_22 603 (ad 5) = 0 := by rw [eS_23]; exact (rd_sI (S := (sI (sI S_1 601 (ad 5) 0) 602 (ad 5) 0)) (g := 603) (a := (ad 5)) (v := 0))
  have hf_33 : Fm (fun f9 b9 => (f9 = 1105 ∧ b9 = (ad 0)) ∨ (f9 = 1109 ∧ b9 = (ad 0)) ∨ (f9 = 1110 ∧ b9 = (ad 0)) ∨ (f9 = 1111 ∧ b9 = (ad 0)) ∨ b9 = (ad 12) ∨ b9 = (ad 24) ∨ b9 = (ad 26) ∨ b9 = (ad 27) ∨ b9 = (ad 28) ∨ b9 = (ad 30) ∨ b9 = (ad 35) ∨ b9 = (ad 15) ∨ b9 = (ad 6) ∨ b9 = (ad 5)) (fun f9 b9 => (f9 = 10 ∧ b9 = (ad 12)) ∨ (f9 = 913 ∧ b9 = (ad 6)) ∨ (f9 = 500 ∧ b9 = (ad 35))) (fun b9 => b9 = (ad 25) ∨ b9 = (ad 14) ∨ b9 = (ad 13) ∨ b9 = (ad 7) ∨ b9 = (ad 8) ∨ b9 = (ad 9) ∨ b9 = (ad 11) ∨ b9 = (ad 29) ∨ b9 = (ad 31) ∨ b9 = (ad 32) ∨ b9 = (ad 33) ∨ b9 = (ad 36) ∨ b9 = (ad 19)) S S_22 := by rw [eS_23]; exact hf_24
  have hz_34 : ∀ j, aI S_22 (ad 17) j = 0 := by rw [eS_23]; exact hz_10
  have hz_35 : ∀ j, aI S_22 (ad 21) j = 0 := by rw [eS_23]; exact hz_11
  have hz_36 : ∀ j, aI S_22 (ad 23) j = 0 := by rw [eS_23]; exact hz_12
  have hW_37 : Wd ad S_22 := by rw [eS_23]; exact (Wd.sI (Wd.sI (Wd.sI hW_13)))
  have hx_38 : STR (aI S_22 (ad 2)) B n := by rw [eS_23]; exact (by rw [show aI (sI (sI (sI S_1 601 (ad 5) 0) 602 (ad 5) 0) 603 (ad 5) 0) (ad 2) = aI S_1 (ad 2) from ((arI_sI (S := (sI (sI S_1 601 (ad 5) 0) 602 (ad 5) 0))).trans ((arI_sI (S := (sI S_1 601 (ad 5) 0))).trans (arI_sI (S := S_1))))]; exact hx_14)
  have hx_39 : aI S_22 (ad 3) 0 = 0 := by rw [eS_23]; exact (by rw [show aI (sI (sI (sI S_1 601 (ad 5) 0) 602 (ad 5) 0) 603 (ad 5) 0) (ad 3) = aI S_1 (ad 3) from ((arI_sI (S := (sI (sI S_1 601 (ad 5) 0) 602 (ad 5) 0))).trans ((arI_sI (S := (sI S_1 601 (ad 5) 0))).trans (arI_sI (S := S_1))))]; exact hx_15)
  have hx_40 : aI S_22 (ad 4) 0 = 0 := by rw [eS_23]; exact (by rw [show aI (sI (sI (sI S_1 601 (ad 5) 0) 602 (ad 5) 0) 603 (ad 5) 0) (ad 4) = aI S_1 (ad 4) from ((arI_sI (S := (sI (sI S_1 601 (ad 5) 0) 602 (ad 5) 0))).trans ((arI_sI (S := (sI S_1 601 (ad 5) 0))).trans (arI_sI (S := S_1))))]; exact hx_16)
  have hx_41 : aI S_22 (ad 4) 1 = nI n := by rw [eS_23]; exact (by rw [show aI (sI (sI (sI S_1 601 (ad 5) 0) 602 (ad 5) 0) 603 (ad 5) 0) (ad 4) = aI S_1 (ad 4) from ((arI_sI (S := (sI (sI S_1 601 (ad 5) 0) 602 (ad 5) 0))).trans ((arI_sI (S := (sI S_1 601 (ad 5) 0))).trans (arI_sI (S := S_1))))]; exact hx_17)
  refine j_callV (ci := 9) C [] [] mlX11_75 mcX9_startJob (c_X9_startJob S_22 ad hW_37) (wm_6 (S := S_22) hW_37) (wk_6 (S := S_22) hW_37) rfl (M.rm (by decide) (by decide) (Nat.le_of_ble_eq_true rfl) (Nat.le_of_ble_eq_true rfl)) rfl rfl (Nat.le_of_ble_eq_true rfl) dX11_print_40 (fun r_42 S_43 hp_44 => ?_)
  obtain ⟨rfl, e_45⟩ := hp_44
  refine J.eq (S' := (rI (sI (sI (sI (sI (sI S_22 916 (ad 6) 0) 3 (ad 12) 0) 4 (ad 12) 0) 5 (ad 12) 0) 2 (ad 12) 0) (ad 13) (fillN (aI (sI (sI (sI (sI (sI S_22 916 (ad 6) 0) 3 (ad 12) 0) 4 (ad 12) 0) 5 (ad 12) 0) 2 (ad 12) 0) (ad 13)) 20000 0))) (st' := []) (lv' := [(0, .ref (ad 0)), (1, .int (nI b9))]) e_45 rfl rfl ?_
  have hf_48 : Fm (fun f9 b9 => (f9 = 1105 ∧ b9 = (ad 0)) ∨ (f9 = 1109 ∧ b9 = (ad 0)) ∨ (f9 = 1110 ∧ b9 = (ad 0)) ∨ (f9 = 1111 ∧ b9 = (ad 0)) ∨ b9 = (ad 12) ∨ b9 = (ad 24) ∨ b9 = (ad 26) ∨ b9 = (ad 27) ∨ b9 = (ad 28) ∨ b9 = (ad 30) ∨ b9 = (ad 35) ∨ b9 = (ad 15) ∨ b9 = (ad 6) ∨ b9 = (ad 5)) (fun f9 b9 => (f9 = 10 ∧ b9 = (ad 12)) ∨ (f9 = 913 ∧ b9 = (ad 6)) ∨ (f9 = 500 ∧ b9 = (ad 35))) (fun b9 => b9 = (ad 25) ∨ b9 = (ad 14) ∨ b9 = (ad 13) ∨ b9 = (ad 7) ∨ b9 = (ad 8) ∨ b9 = (ad 9) ∨ b9 = (ad 11) ∨ b9 = (ad 29) ∨ b9 = (ad 31) ∨ b9 = (ad 32) ∨ b9 = (ad 33) ∨ b9 = (ad 36) ∨ b9 = (ad 19)) S (rI (sI (sI (sI (sI (sI S_22 916 (ad 6) 0) 3 (ad 12) 0) 4 (ad 12) 0) 5 (ad 12) 0) 2 (ad 12) 0) (ad 13) (fillN (aI (sI (sI (sI (sI (sI S_22 916 (ad 6) 0) 3 (ad 12) 0) 4 (ad 12) 0) 5 (ad 12) 0) 2 (ad 12) 0) (ad 13)) 20000 0)) := ((((((hf_33.sI _ (fun _ => (Or.inr (Or.inr (Or.inr (Or.inr (Or.inr (Or.inr (Or.inr (Or.inr (Or.inr (Or.inr (Or.inr (Or.inr (Or.inl rfl))))))))))))))).sI _ (fun _ => (Or.inr (Or.inr (Or.inr (Or.inr (Or.inl rfl))))))).sI _ (fun _ => (Or.inr (Or.inr (Or.inr (Or.inr (Or.inl rfl))))))).sI _ (fun _ => (Or.inr (Or.inr (Or.inr (Or.inr (Or.inl rfl))))))).sI _ (fun _ => (Or.inr (Or.inr (Or.inr (Or.inr (Or.inl rfl))))))).rI _ (fun _ => (Or.inr (Or.inr (Or.inl rfl)))))
  obtain ⟨S_46, eS_47⟩ : ∃ S9 : Hp, S9 = (rI (sI (sI (sI (sI (sI S_22 916 (ad 6) 0) 3 (ad 12) 0) 4 (ad 12) 0) 5 (ad 12) 0) 2 (ad 12) 0) (ad 13) (fillN (aI (sI (sI (sI (sI (sI S_22 916 (ad 6) 0) 3 (ad 12) 0) 4 (ad 12) 0) 5 (ad 12) 0) 2 (ad 12) 0) (ad 13)) 20000 0)) := ⟨_, rfl⟩
  refine J.eq (S' := S_46) eS_47.symm rfl rfl ?_
  have hv_49 : hI S_46 1105 (ad 0) = 1 := by rw [eS_47]; exact (rxI_rI (S := (sI (sI (sI (sI (sI S_22 916 (ad 6) 0) 3 (ad 12) 0) 4 (ad 12) 0) 5 (ad 12) 0) 2 (ad 12) 0)) (rd_sIf (S := (sI (sI (sI (sI S_22 916 (ad 6) 0) 3 (ad 12) 0) 4 (ad 12) 0) 5 (ad 12) 0)) (g := 2) (a := (ad 12)) (v := 0) (by decide) (rd_sIf (S := (sI (sI (sI S_22 916 (ad 6) 0) 3 (ad 12) 0) 4 (ad 12) 0)) (g := 5) (a := (ad 12)) (v := 0) (by decide) (rd_sIf (S := (sI (sI S_22 916 (ad 6) 0) 3 (ad 12) 0)) (g := 4) (a := (ad 12)) (v := 0) (by decide) (rd_sIf (S := (sI S_22 916 (ad 6) 0)) (g := 3) (a := (ad 12)) (v := 0) (by decide) (rd_sIf (S := S_22) (g := 916) (a := (ad 6)) (v := 0) (by decide) hv_25))))))
  have hv_50 : hI S_46 1109 (ad 0) = 0 := by rw [eS_47]; exact (rxI_rI (S := (sI (sI (sI (sI (sI S_22 916 (ad 6) 0) 3 (ad 12) 0) 4 (ad 12) 0) 5 (ad 12) 0) 2 (ad 12) 0)) (rd_sIf (S := (sI (sI (sI (sI S_22 916 (ad 6) 0) 3 (ad 12) 0) 4 (ad 12) 0) 5 (ad 12) 0)) (g := 2) (a := (ad 12)) (v := 0) (by decide) (rd_sIf (S := (sI (sI (sI S_22 916 (ad 6) 0) 3 (ad 12) 0) 4 (ad 12) 0)) (g := 5) (a := (ad 12)) (v := 0) (by decide) (rd_sIf (S := (sI (sI S_22 916 (ad 6) 0) 3 (ad 12) 0)) (g := 4) (a := (ad 12)) (v := 0) (by decide) (rd_sIf (S := (sI S_22 916 (ad 6) 0)) (g := 3) (a := (ad 12)) (v := 0) (by decide) (rd_sIf (S := S_22) (g := 916) (a := (ad 6)) (v := 0) (by decide) hv_26))))))
  have hv_51 : hI S_46 1110 (ad 0) = (-1) := by rw [eS_47]; exact (rxI_rI (S := (sI (sI (sI (sI (sI S_22 916 (ad 6) 0) 3 (ad 12) 0) 4 (ad 12) 0) 5 (ad 12) 0) 2 (ad 12) 0)) (rd_sIf (S := (sI (sI (sI (sI S_22 916 (ad 6) 0) 3 (ad 12) 0) 4 (ad 12) 0) 5 (ad 12) 0)) (g := 2) (a := (ad 12)) (v := 0) (by decide) (rd_sIf (S := (sI (sI (sI S_22 916 (ad 6) 0) 3 (ad 12) 0) 4 (ad 12) 0)) (g := 5) (a := (ad 12)) (v := 0) (by decide) (rd_sIf (S := (sI (sI S_22 916 (ad 6) 0) 3 (ad 12) 0)) (g := 4) (a := (ad 12)) (v := 0) (by decide) (rd_sIf (S := (sI S_22 916 (ad 6) 0)) (g := 3) (a := (ad 12)) (v := 0) (by decide) (rd_sIf (S := S_22) (g := 916) (a := (ad 6)) (v := 0) (by decide) hv_27))))))
  have hv_52 : hI S_46 1111 (ad 0) = (-1) := by rw [eS_47]; exact (rxI_rI (S := (sI (sI (sI (sI (sI S_22 916 (ad 6) 0) 3 (ad 12) 0) 4 (ad 12) 0) 5 (ad 12) 0) 2 (ad 12) 0)) (rd_sIf (S := (sI (sI (sI (sI S_22 916 (ad 6) 0) 3 (ad 12) 0) 4 (ad 12) 0) 5 (ad 12) 0)) (g := 2) (a := (ad 12)) (v := 0) (by decide) (rd_sIf (S := (sI (sI (sI S_22 916 (ad 6) 0) 3 (ad 12) 0) 4 (ad 12) 0)) (g := 5) (a := (ad 12)) (v := 0) (by decide) (rd_sIf (S := (sI (sI S_22 916 (ad 6) 0) 3 (ad 12) 0)) (g := 4) (a := (ad 12)) (v := 0) (by decide) (rd_sIf (S := (sI S_22 916 (ad 6) 0)) (g := 3) (a := (ad 12)) (v := 0) (by decide) (rd_sIf (S := S_22) (g := 916) (a := (ad 6)) (v := 0) (by decide) hv_28))))))
  have hv_53 : hI S_46 2 (ad 12) = 0 := by rw [eS_47]; exact (rxI_rI (S := (sI (sI (sI (sI (sI S_22 916 (ad 6) 0) 3 (ad 12) 0) 4 (ad 12) 0) 5 (ad 12) 0) 2 (ad 12) 0)) (rd_sI (S := (sI (sI (sI (sI S_22 916 (ad 6) 0) 3 (ad 12) 0) 4 (ad 12) 0) 5 (ad 12) 0)) (g := 2) (a := (ad 12)) (v := 0)))
  have hv_54 : hI S_46 209 (ad 15) = 0 := by rw [eS_47]; exact (rxI_rI (S := (sI (sI (sI (sI (sI S_22 916 (ad 6) 0) 3 (ad 12) 0) 4 (ad 12) 0) 5 (ad 12) 0) 2 (ad 12) 0)) (rd_sIf (S := (sI (sI (sI (sI S_22 916 (ad 6) 0) 3 (ad 12) 0) 4 (ad 12) 0) 5 (ad 12) 0)) (g := 2) (a := (ad 12)) (v := 0) (by decide) (rd_sIf (S := (sI (sI (sI S_22 916 (ad 6) 0) 3 (ad 12) 0) 4 (ad 12) 0)) (g := 5) (a := (ad 12)) (v := 0) (by decide) (rd_sIf (S := (sI (sI S_22 916 (ad 6) 0) 3 (ad 12) 0)) (g := 4) (a := (ad 12)) (v := 0) (by decide) (rd_sIf (S := (sI S_22 916 (ad 6) 0)) (g := 3) (a := (ad 12)) (v := 0) (by decide) (rd_sIf (S := S_22) (g := 916) (a := (ad 6)) (v := 0) (by decide) hv_29))))))
  have hv_55 : hI S_46 3 (ad 12) = 0 := by rw [eS_47]; exact (rxI_rI (S := (sI (sI (sI (sI (sI S_22 916 (ad 6) 0) 3 (ad 12) 0) 4 (ad 12) 0) 5 (ad 12) 0) 2 (ad 12) 0)) (rd_sIf (S := (sI (sI (sI (sI S_22 916 (ad 6) 0) 3 (ad 12) 0) 4 (ad 12) 0) 5 (ad 12) 0)) (g := 2) (a := (ad 12)) (v := 0) (by decide) (rd_sIf (S := (sI (sI (sI S_22 916 (ad 6) 0) 3 (ad 12) 0) 4 (ad 12) 0)) (g := 5) (a := (ad 12)) (v := 0) (by decide) (rd_sIf (S := (sI (sI S_22 916 (ad 6) 0) 3 (ad 12) 0)) (g := 4) (a := (ad 12)) (v := 0) (by decide) (rd_sI (S := (sI S_22 916 (ad 6) 0)) (g := 3) (a := (ad 12)) (v := 0))))))
  have hv_56 : hI S_46 4 (ad 12) = 0 := by rw [eS_47]; exact (rxI_rI (S := (sI (sI (sI (sI (sI S_22 916 (ad 6) 0) 3 (ad 12) 0) 4 (ad 12) 0) 5 (ad 12) 0) 2 (ad 12) 0)) (rd_sIf (S := (sI (sI (sI (sI S_22 916 (ad 6) 0) 3 (ad 12) 0) 4 (ad 12) 0) 5 (ad 12) 0)) (g := 2) (a := (ad 12)) (v := 0) (by decide) (rd_sIf (S := (sI (sI (sI S_22 916 (ad 6) 0) 3 (ad 12) 0) 4 (ad 12) 0)) (g := 5) (a := (ad 12)) (v := 0) (by decide) (rd_sI (S := (sI (sI S_22 916 (ad 6) 0) 3 (ad 12) 0)) (g := 4) (a := (ad 12)) (v := 0)))))
  have hv_57 : hI S_46 5 (ad 12) = 0 := by rw [eS_47]; exact (rxI_rI (S := (sI (sI (sI (sI (sI S_22 916 (ad 6) 0) 3 (ad 12) 0) 4 (ad 12) 0) 5 (ad 12) 0) 2 (ad 12) 0)) (rd_sIf (S := (sI (sI (sI (sI S_22 916 (ad 6) 0) 3 (ad 12) 0) 4 (ad 12) 0) 5 (ad 12) 0)) (g := 2) (a := (ad 12)) (v := 0) (by decide) (rd_sI (S := (sI (sI (sI S_22 916 (ad 6) 0) 3 (ad 12) 0) 4 (ad 12) 0)) (g := 5) (a := (ad 12)) (v := 0))))
  have hv_58 : hI S_46 601 (ad 5) = 0 := by rw [eS_47]; exact (rxI_rI (S := (sI (sI (sI (sI (sI S_22 916 (ad 6) 0) 3 (ad 12) 0) 4 (ad 12) 0) 5 (ad 12) 0) 2 (ad 12) 0)) (rd_sIf (S := (sI (sI (sI (sI S_22 916 (ad 6) 0) 3 (ad 12) 0) 4 (ad 12) 0) 5 (ad 12) 0)) (g := 2) (a := (ad 12)) (v := 0) (by decide) (rd_sIf (S := (sI (sI (sI S_22 916 (ad 6) 0) 3 (ad 12) 0) 4 (ad 12) 0)) (g := 5) (a := (ad 12)) (v := 0) (by decide) (rd_sIf (S := (sI (sI S_22 916 (ad 6) 0) 3 (ad 12) 0)) (g := 4) (a := (ad 12)) (v := 0) (by decide) (rd_sIf (S := (sI S_22 916 (ad 6) 0)) (g := 3) (a := (ad 12)) (v := 0) (by decide) (rd_sIf (S := S_22) (g := 916) (a := (ad 6)) (v := 0) (by decide) hv_30))))))
  have hv_59 : hI S_46 602 (ad 5) = 0 := by rw [eS_47]; exact (rxI_rI (S := (sI (sI (sI (sI (sI S_22 916 (ad 6) 0) 3 (ad 12) 0) 4 (ad 12) 0) 5 (ad 12) 0) 2 (ad 12) 0)) (rd_sIf (S := (sI (sI (sI (sI S_22 916 (ad 6) 0) 3 (ad 12) 0) 4 (ad 12) 0) 5 (ad 12) 0)) (g := 2) (a := (ad 12)) (v := 0) (by decide) (rd_sIf (S := (sI (sI (sI S_22 916 (ad 6) 0) 3 (ad 12) 0) 4 (ad 12) 0)) (g := 5) (a := (ad 12)) (v := 0) (by decide) (rd_sIf (S := (sI (sI S_22 916 (ad 6) 0) 3 (ad 12) 0)) (g := 4) (a := (ad 12)) (v := 0) (by decide) (rd_sIf (S := (sI S_22 916 (ad 6) 0)) (g := 3) (a := (ad 12)) (v := 0) (by decide) (rd_sIf (S := S_22) (g := 916) (a := (ad 6)) (v := 0) (by decide) hv_31))))))
  have hv_60 : hI S_46 603 (ad 5) = 0 := by rw [eS_47]; exact (rxI_rI (S := (sI (sI (sI (sI (sI S_22 916 (ad 6) 0) 3 (ad 12) 0) 4 (ad 12) 0) 5 (ad 12) 0) 2 (ad 12) 0)) (rd_sIf (S := (sI (sI (sI (sI S_22 916 (ad 6) 0) 3 (ad 12) 0) 4 (ad 12) 0) 5 (ad 12) 0)) (g := 2) (a := (ad 12)) (v := 0) (by decide) (rd_sIf (S := (sI (sI (sI S_22 916 (ad 6) 0) 3 (ad 12) 0) 4 (ad 12) 0)) (g := 5) (a := (ad 12)) (v := 0) (by decide) (rd_sIf (S := (sI (sI S_22 916 (ad 6) 0) 3 (ad 12) 0)) (g := 4) (a := (ad 12)) (v := 0) (by decide) (rd_sIf (S := (sI S_22 916 (ad 6) 0)) (g := 3) (a := (ad 12)) (v := 0) (by decide) (rd_sIf (S := S_22) (g := 916) (a := (ad 6)) (v := 0) (by decide) hv_32))))))
  have hv_61 : hI S_46 916 (ad 6) = 0 := by rw [eS_47]; exact (rxI_rI (S := (sI (sI (sI (sI (sI S_22 916 (ad 6) 0) 3 (ad 12) 0) 4 (ad 12) 0) 5 (ad 12) 0) 2 (ad 12) 0)) (rd_sIf (S := (sI (sI (sI (sI S_22 916 (ad 6) 0) 3 (ad 12) 0) 4 (ad 12) 0) 5 (ad 12) 0)) (g := 2) (a := (ad 12)) (v := 0) (by decide) (rd_sIf (S := (sI (sI (sI S_22 916 (ad 6) 0) 3 (ad 12) 0) 4 (ad 12) 0)) (g := 5) (a := (ad 12)) (v := 0) (by decide) (rd_sIf (S := (sI (sI S_22 916 (ad 6) 0) 3 (ad 12) 0)) (g := 4) (a := (ad 12)) (v := 0) (by decide) (rd_sIf (S := (sI S_22 916 (ad 6) 0)) (g := 3) (a := (ad 12)) (v := 0) (by decide) (rd_sI (S := S_22) (g := 916) (a := (ad 6)) (v := 0)))))))
  have hf_62 : Fm (fun f9 b9 => (f9 = 1105 ∧ b9 = (ad 0)) ∨ (f9 = 1109 ∧ b9 = (ad 0)) ∨ (f9 = 1110 ∧ b9 = (ad 0)) ∨ (f9 = 1111 ∧ b9 = (ad 0)) ∨ b9 = (ad 12) ∨ b9 = (ad 24) ∨ b9 = (ad 26) ∨ b9 = (ad 27) ∨ b9 = (ad 28) ∨ b9 = (ad 30) ∨ b9 = (ad 35) ∨ b9 = (ad 15) ∨ b9 = (ad 6) ∨ b9 = (ad 5)) (fun f9 b9 => (f9 = 10 ∧ b9 = (ad 12)) ∨ (f9 = 913 ∧ b9 = (ad 6)) ∨ (f9 = 500 ∧ b9 = (ad 35))) (fun b9 => b9 = (ad 25) ∨ b9 = (ad 14) ∨ b9 = (ad 13) ∨ b9 = (ad 7) ∨ b9 = (ad 8) ∨ b9 = (ad 9) ∨ b9 = (ad 11) ∨ b9 = (ad 29) ∨ b9 = (ad 31) ∨ b9 = (ad 32) ∨ b9 = (ad 33) ∨ b9 = (ad 36) ∨ b9 = (ad 19)) S S_46 := by rw [eS_47]; exact hf_48
  have hz_63 : ∀ j, aI S_46 (ad 17) j = 0 := by rw [eS_47]; exact (fun j9 => rd_rIa (S := (sI (sI (sI (sI (sI S_22 916 (ad 6) 0) 3 (ad 12) 0) 4 (ad 12) 0) 5 (ad 12) 0) 2 (ad 12) 0)) (wn (S := S_22) hW_37 (i := 17) (j := 13) (by decide) (by decide) (by decide)) (hz_34 j9))
  have hz_64 : ∀ j, aI S_46 (ad 21) j = 0 := by rw [eS_47]; exact (fun j9 => rd_rIa (S := (sI (sI (sI (sI (sI S_22 916 (ad 6) 0) 3 (ad 12) 0) 4 (ad 12) 0) 5 (ad 12) 0) 2 (ad 12) 0)) (wn (S := S_22) hW_37 (i := 21) (j := 13) (by decide) (by decide) (by decide)) (hz_35 j9))
  have hz_65 : ∀ j, aI S_46 (ad 23) j = 0 := by rw [eS_47]; exact (fun j9 => rd_rIa (S := (sI (sI (sI (sI (sI S_22 916 (ad 6) 0) 3 (ad 12) 0) 4 (ad 12) 0) 5 (ad 12) 0) 2 (ad 12) 0)) (wn (S := S_22) hW_37 (i := 23) (j := 13) (by decide) (by decide) (by decide)) (hz_36 j9))
  have hW_66 : Wd ad S_46 := by rw [eS_47]; exact (Wd.rI (Wd.sI (Wd.sI (Wd.sI (Wd.sI (Wd.sI hW_37))))))
  have hx_67 : STR (aI S_46 (ad 2)) B n := by rw [eS_47]; exact (by rw [show aI (rI (sI (sI (sI (sI (sI S_22 916 (ad 6) 0) 3 (ad 12) 0) 4 (ad 12) 0) 5 (ad 12) 0) 2 (ad 12) 0) (ad 13) (fillN (aI (sI (sI (sI (sI (sI S_22 916 (ad 6) 0) 3 (ad 12) 0) 4 (ad 12) 0) 5 (ad 12) 0) 2 (ad 12) 0) (ad 13)) 20000 0)) (ad 2) = aI S_22 (ad 2) from ((ar_rI (S := (sI (sI (sI (sI (sI S_22 916 (ad 6) 0) 3 (ad 12) 0) 4 (ad 12) 0) 5 (ad 12) 0) 2 (ad 12) 0)) (wn (S := S_22) hW_37 (i := 2) (j := 13) (by decide) (by decide) (by decide))).trans ((arI_sI (S := (sI (sI (sI (sI S_22 916 (ad 6) 0) 3 (ad 12) 0) 4 (ad 12) 0) 5 (ad 12) 0))).trans ((arI_sI (S := (sI (sI (sI S_22 916 (ad 6) 0) 3 (ad 12) 0) 4 (ad 12) 0))).trans ((arI_sI (S := (sI (sI S_22 916 (ad 6) 0) 3 (ad 12) 0))).trans ((arI_sI (S := (sI S_22 916 (ad 6) 0))).trans (arI_sI (S := S_22)))))))]; exact hx_38)
  have hx_68 : aI S_46 (ad 3) 0 = 0 := by rw [eS_47]; exact (by rw [show aI (rI (sI (sI (sI (sI (sI S_22 916 (ad 6) 0) 3 (ad 12) 0) 4 (ad 12) 0) 5 (ad 12) 0) 2 (ad 12) 0) (ad 13) (fillN (aI (sI (sI (sI (sI (sI S_22 916 (ad 6) 0) 3 (ad 12) 0) 4 (ad 12) 0) 5 (ad 12) 0) 2 (ad 12) 0) (ad 13)) 20000 0)) (ad 3) = aI S_22 (ad 3) from ((ar_rI (S := (sI (sI (sI (sI (sI S_22 916 (ad 6) 0) 3 (ad 12) 0) 4 (ad 12) 0) 5 (ad 12) 0) 2 (ad 12) 0)) (wn (S := S_22) hW_37 (i := 3) (j := 13) (by decide) (by decide) (by decide))).trans ((arI_sI (S := (sI (sI (sI (sI S_22 916 (ad 6) 0) 3 (ad 12) 0) 4 (ad 12) 0) 5 (ad 12) 0))).trans ((arI_sI (S := (sI (sI (sI S_22 916 (ad 6) 0) 3 (ad 12) 0) 4 (ad 12) 0))).trans ((arI_sI (S := (sI (sI S_22 916 (ad 6) 0) 3 (ad 12) 0))).trans ((arI_sI (S := (sI S_22 916 (ad 6) 0))).trans (arI_sI (S := S_22)))))))]; exact hx_39)
  have hx_69 : aI S_46 (ad 4) 0 = 0 := by rw [eS_47]; exact (by rw [show aI (rI (sI (sI (sI (sI (sI S_22 916 (ad 6) 0) 3 (ad 12) 0) 4 (ad 12) 0) 5 (ad 12) 0) 2 (ad 12) 0) (ad 13) (fillN (aI (sI (sI (sI (sI (sI S_22 916 (ad 6) 0) 3 (ad 12) 0) 4 (ad 12) 0) 5 (ad 12) 0) 2 (ad 12) 0) (ad 13)) 20000 0)) (ad 4) = aI S_22 (ad 4) from ((ar_rI (S := (sI (sI (sI (sI (sI S_22 916 (ad 6) 0) 3 (ad 12) 0) 4 (ad 12) 0) 5 (ad 12) 0) 2 (ad 12) 0)) (wn (S := S_22) hW_37 (i := 4) (j := 13) (by decide) (by decide) (by decide))).trans ((arI_sI (S := (sI (sI (sI (sI S_22 916 (ad 6) 0) 3 (ad 12) 0) 4 (ad 12) 0) 5 (ad 12) 0))).trans ((arI_sI (S := (sI (sI (sI S_22 916 (ad 6) 0) 3 (ad 12) 0) 4 (ad 12) 0))).trans ((arI_sI (S := (sI (sI S_22 916 (ad 6) 0) 3 (ad 12) 0))).trans ((arI_sI (S := (sI S_22 916 (ad 6) 0))).trans (arI_sI (S := S_22)))))))]; exact hx_40)
  have hx_70 : aI S_46 (ad 4) 1 = nI n := by rw [eS_47]; exact (by rw [show aI (rI (sI (sI (sI (sI (sI S_22 916 (ad 6) 0) 3 (ad 12) 0) 4 (ad 12) 0) 5 (ad 12) 0) 2 (ad 12) 0) (ad 13) (fillN (aI (sI (sI (sI (sI (sI S_22 916 (ad 6) 0) 3 (ad 12) 0) 4 (ad 12) 0) 5 (ad 12) 0) 2 (ad 12) 0) (ad 13)) 20000 0)) (ad 4) = aI S_22 (ad 4) from ((ar_rI (S := (sI (sI (sI (sI (sI S_22 916 (ad 6) 0) 3 (ad 12) 0) 4 (ad 12) 0) 5 (ad 12) 0) 2 (ad 12) 0)) (wn (S := S_22) hW_37 (i := 4) (j := 13) (by decide) (by decide) (by decide))).trans ((arI_sI (S := (sI (sI (sI (sI S_22 916 (ad 6) 0) 3 (ad 12) 0) 4 (ad 12) 0) 5 (ad 12) 0))).trans ((arI_sI (S := (sI (sI (sI S_22 916 (ad 6) 0) 3 (ad 12) 0) 4 (ad 12) 0))).trans ((arI_sI (S := (sI (sI S_22 916 (ad 6) 0) 3 (ad 12) 0))).trans ((arI_sI (S := (sI S_22 916 (ad 6) 0))).trans (arI_sI (S := S_22)))))))]; exact hx_41)
  refine j_iconst (v := 0) C dX11_print_43 (by decide) ?_
  refine j_istore_n (lv' := [(2, .int 0), (0, .ref (ad 0)), (1, .int (nI b9))]) C dX11_print_44 rfl (by rw [hn9]; decide) rfl ?_
  refine j_iload_n C dX11_print_45 rfl 0 rfl ?_
  show J _ _ _ _ _ 46 _
  refine j_aload_n C dX11_print_46 rfl 1 rfl ?_
  refine j_geti (f := 1105) (v := 1) C flX11_60 dX11_print_47 (wm_0 (S := S_46) hW_66) (wk_0 (S := S_46) hW_66) (by decide) (by decide) rfl hv_49 ?_
  refine j_ic_ge (tgt := 191) C dX11_print_50 (by decide) (fun c9 => absurd c9 (by decide)) (fun c9 => ?_)
  refine j_iload_n C dX11_print_53 rfl 0 rfl ?_
  refine j_bipush (v := 6) C dX11_print_54 (by decide) ?_
  refine j_ic_ge (tgt := 191) C dX11_print_56 (by decide) (fun c9 => absurd c9 (by decide)) (fun c9 => ?_)
  refine j_aload_n C dX11_print_59 rfl 1 rfl ?_
  refine j_geti (f := 1109) (v := 0) C flX11_69 dX11_print_60 (wm_0 (S := S_46) hW_66) (wk_0 (S := S_46) hW_66) (by decide) (by decide) rfl hv_50 ?_
  show J _ _ _ _ _ 63 _
  refine j_if_ne (tgt := 191) C dX11_print_63 (by decide) (fun c9 => absurd c9 (by decide)) (fun c9 => ?_)
  refine j_aload_n C dX11_print_66 rfl 1 rfl ?_
  refine j_getr (f := 1103) (v := (ad 3)) C flX11_16 dX11_print_67 (wm_0 (S := S_46) hW_66) (wk_0 (S := S_46) hW_66) (by decide) rfl (wr_1103_0 (S := S_46) hW_66) ?_
  refine j_iload_n C dX11_print_70 rfl 0 rfl ?_
  refine j_iald (j := 0) (v := 0) C dX11_print_71 (wm_3 (S := S_46) hW_66) (wk_3 (S := S_46) hW_66) (inr_of (n := 6) (wl_3 (S := S_46) hW_66) (vp_lit (by decide))) (by decide) hx_68 ?_
  refine j_if_ne (tgt := 122) C dX11_print_72 (by decide) (fun c9 => absurd c9 (by decide)) (fun c9 => ?_)
  refine j_aload_n C dX11_print_75 rfl 1 rfl ?_
  refine j_getr (f := 1107) (v := (ad 6)) C flX11_42 dX11_print_76 (wm_0 (S := S_46) hW_66) (wk_0 (S := S_46) hW_66) (by decide) rfl (wr_1107_0 (S := S_46) hW_66) ?_
  show J _ _ _ _ _ 79 _
  refine j_aload_n C dX11_print_79 rfl 1 rfl ?_
  refine j_getr (f := 1102) (v := (ad 2)) C flX11_13 dX11_print_80 (wm_0 (S := S_46) hW_66) (wk_0 (S := S_46) hW_66) (by decide) rfl (wr_1102_0 (S := S_46) hW_66) ?_
  refine j_aload_n C dX11_print_83 rfl 1 rfl ?_
  refine j_getr (f := 1104) (v := (ad 4)) C flX11_20 dX11_print_84 (wm_0 (S := S_46) hW_66) (wk_0 (S := S_46) hW_66) (by decide) rfl (wr_1104_0 (S := S_46) hW_66) ?_
  refine j_iload_n C dX11_print_87 rfl 0 rfl ?_
  refine j_iald (j := 0) (v := 0) C dX11_print_88 (wm_4 (S := S_46) hW_66) (wk_4 (S := S_46) hW_66) (inr_of (n := 7) (wl_4 (S := S_46) hW_66) (vp_lit (by decide))) (by decide) hx_69 ?_
  refine j_aload_n C dX11_print_89 rfl 1 rfl ?_
  refine j_getr (f := 1104) (v := (ad 4)) C flX11_20 dX11_print_90 (wm_0 (S := S_46) hW_66) (wk_0 (S := S_46) hW_66) (by decide) rfl (wr_1104_0 (S := S_46) hW_66) ?_
  show J _ _ _ _ _ 93 _
  refine j_iload_n C dX11_print_93 rfl 0 rfl ?_
  refine j_iconst (v := 1) C dX11_print_94 (by decide) ?_
  refine j_iadd (v := 1) C dX11_print_95 (by decide) ?_
  refine j_iald (j := 1) (v := nI n) C dX11_print_96 (wm_4 (S := S_46) hW_66) (wk_4 (S := S_46) hW_66) (inr_of (n := 7) (wl_4 (S := S_46) hW_66) (vp_lit (by decide))) (by decide) hx_70 ?_
  refine j_callV (ci := 9) C [.ref (ad 2), .int 0, .int (nI n)] [] mlX11_78 mcX9_run (c_run1 S_46 ad hW_66 B n hx_67 hv_61 hv_54 hv_55 hv_56 hv_57 hv_60 hv_58 hv_59 hz_63 hz_64 hz_65 bs hb hB hnb hmb hn hz) (wm_6 (S := S_46) hW_66) (wk_6 (S := S_46) hW_66) rfl (M.rm (by decide) (by decide) (Nat.le_of_ble_eq_true rfl) (Nat.le_of_ble_eq_true rfl)) rfl rfl (Nat.le_of_ble_eq_true rfl) dX11_print_97 (fun r_79 S_80 hp_81 => ?_)
  obtain ⟨rfl, hf_82, e_71, e_72, e_73, e_74, e_75, x_76, x_77, x_78⟩ := hp_81
  refine J.eq (st' := []) rfl rfl rfl ?_
  have hz_83 : ∀ j, aI S_80 (ad 17) j = 0 := fun j9 => (hf_82.ai (wm_17 (S := S_46) hW_66) (fun h9 => h9.elim (fun q9 => (wn (S := S_46) hW_66 (i := 17) (j := 25) (by decide) (by decide) (by decide)) q9) (fun h9 => h9.elim (fun q9 => (wn (S := S_46) hW_66 (i := 17) (j := 14) (by decide) (by decide) (by decide)) q9) (fun h9 => h9.elim (fun q9 => (wn (S := S_46) hW_66 (i := 17) (j := 13) (by decide) (by decide) (by decide)) q9) (fun h9 => h9.elim (fun q9 => (wn (S := S_46) hW_66 (i := 17) (j := 7) (by decide) (by decide) (by decide)) q9) (fun h9 => h9.elim (fun q9 => (wn (S := S_46) hW_66 (i := 17) (j := 8) (by decide) (by decide) (by decide)) q9) (fun h9 => h9.elim (fun q9 => (wn (S := S_46) hW_66 (i := 17) (j := 9) (by decide) (by decide) (by decide)) q9) (fun h9 => h9.elim (fun q9 => (wn (S := S_46) hW_66 (i := 17) (j := 11) (by decide) (by decide) (by decide)) q9) (fun h9 => h9.elim (fun q9 => (wn (S := S_46) hW_66 (i := 17) (j := 29) (by decide) (by decide) (by decide)) q9) (fun h9 => h9.elim (fun q9 => (wn (S := S_46) hW_66 (i := 17) (j := 31) (by decide) (by decide) (by decide)) q9) (fun h9 => h9.elim (fun q9 => (wn (S := S_46) hW_66 (i := 17) (j := 32) (by decide) (by decide) (by decide)) q9) (fun h9 => h9.elim (fun q9 => (wn (S := S_46) hW_66 (i := 17) (j := 33) (by decide) (by decide) (by decide)) q9) (fun h9 => h9.elim (fun q9 => (wn (S := S_46) hW_66 (i := 17) (j := 36) (by decide) (by decide) (by decide)) q9) (fun q9 => (wn (S := S_46) hW_66 (i := 17) (j := 19) (by decide) (by decide) (by decide)) q9))))))))))))) j9).trans (hz_63 j9)
  have hz_84 : ∀ j, aI S_80 (ad 21) j = 0 := fun j9 => (hf_82.ai (wm_21 (S := S_46) hW_66) (fun h9 => h9.elim (fun q9 => (wn (S := S_46) hW_66 (i := 21) (j := 25) (by decide) (by decide) (by decide)) q9) (fun h9 => h9.elim (fun q9 => (wn (S := S_46) hW_66 (i := 21) (j := 14) (by decide) (by decide) (by decide)) q9) (fun h9 => h9.elim (fun q9 => (wn (S := S_46) hW_66 (i := 21) (j := 13) (by decide) (by decide) (by decide)) q9) (fun h9 => h9.elim (fun q9 => (wn (S := S_46) hW_66 (i := 21) (j := 7) (by decide) (by decide) (by decide)) q9) (fun h9 => h9.elim (fun q9 => (wn (S := S_46) hW_66 (i := 21) (j := 8) (by decide) (by decide) (by decide)) q9) (fun h9 => h9.elim (fun q9 => (wn (S := S_46) hW_66 (i := 21) (j := 9) (by decide) (by decide) (by decide)) q9) (fun h9 => h9.elim (fun q9 => (wn (S := S_46) hW_66 (i := 21) (j := 11) (by decide) (by decide) (by decide)) q9) (fun h9 => h9.elim (fun q9 => (wn (S := S_46) hW_66 (i := 21) (j := 29) (by decide) (by decide) (by decide)) q9) (fun h9 => h9.elim (fun q9 => (wn (S := S_46) hW_66 (i := 21) (j := 31) (by decide) (by decide) (by decide)) q9) (fun h9 => h9.elim (fun q9 => (wn (S := S_46) hW_66 (i := 21) (j := 32) (by decide) (by decide) (by decide)) q9) (fun h9 => h9.elim (fun q9 => (wn (S := S_46) hW_66 (i := 21) (j := 33) (by decide) (by decide) (by decide)) q9) (fun h9 => h9.elim (fun q9 => (wn (S := S_46) hW_66 (i := 21) (j := 36) (by decide) (by decide) (by decide)) q9) (fun q9 => (wn (S := S_46) hW_66 (i := 21) (j := 19) (by decide) (by decide) (by decide)) q9))))))))))))) j9).trans (hz_64 j9)
  have hz_85 : ∀ j, aI S_80 (ad 23) j = 0 := fun j9 => (hf_82.ai (wm_23 (S := S_46) hW_66) (fun h9 => h9.elim (fun q9 => (wn (S := S_46) hW_66 (i := 23) (j := 25) (by decide) (by decide) (by decide)) q9) (fun h9 => h9.elim (fun q9 => (wn (S := S_46) hW_66 (i := 23) (j := 14) (by decide) (by decide) (by decide)) q9) (fun h9 => h9.elim (fun q9 => (wn (S := S_46) hW_66 (i := 23) (j := 13) (by decide) (by decide) (by decide)) q9) (fun h9 => h9.elim (fun q9 => (wn (S := S_46) hW_66 (i := 23) (j := 7) (by decide) (by decide) (by decide)) q9) (fun h9 => h9.elim (fun q9 => (wn (S := S_46) hW_66 (i := 23) (j := 8) (by decide) (by decide) (by decide)) q9) (fun h9 => h9.elim (fun q9 => (wn (S := S_46) hW_66 (i := 23) (j := 9) (by decide) (by decide) (by decide)) q9) (fun h9 => h9.elim (fun q9 => (wn (S := S_46) hW_66 (i := 23) (j := 11) (by decide) (by decide) (by decide)) q9) (fun h9 => h9.elim (fun q9 => (wn (S := S_46) hW_66 (i := 23) (j := 29) (by decide) (by decide) (by decide)) q9) (fun h9 => h9.elim (fun q9 => (wn (S := S_46) hW_66 (i := 23) (j := 31) (by decide) (by decide) (by decide)) q9) (fun h9 => h9.elim (fun q9 => (wn (S := S_46) hW_66 (i := 23) (j := 32) (by decide) (by decide) (by decide)) q9) (fun h9 => h9.elim (fun q9 => (wn (S := S_46) hW_66 (i := 23) (j := 33) (by decide) (by decide) (by decide)) q9) (fun h9 => h9.elim (fun q9 => (wn (S := S_46) hW_66 (i := 23) (j := 36) (by decide) (by decide) (by decide)) q9) (fun q9 => (wn (S := S_46) hW_66 (i := 23) (j := 19) (by decide) (by decide) (by decide)) q9))))))))))))) j9).trans (hz_65 j9)
  have hv_86 : hI S_80 1105 (ad 0) = 1 := hf_82.fi (wm_0 (S := S_46) hW_66) (fun h9 => h9.elim (fun q9 => (wn (S := S_46) hW_66 (i := 0) (j := 12) (by decide) (by decide) (by decide)) q9) (fun h9 => h9.elim (fun q9 => (wn (S := S_46) hW_66 (i := 0) (j := 24) (by decide) (by decide) (by decide)) q9) (fun h9 => h9.elim (fun q9 => (wn (S := S_46) hW_66 (i := 0) (j := 26) (by decide) (by decide) (by decide)) q9) (fun h9 => h9.elim (fun q9 => (wn (S := S_46) hW_66 (i := 0) (j := 27) (by decide) (by decide) (by decide)) q9) (fun h9 => h9.elim (fun q9 => (wn (S := S_46) hW_66 (i := 0) (j := 28) (by decide) (by decide) (by decide)) q9) (fun h9 => h9.elim (fun q9 => (wn (S := S_46) hW_66 (i := 0) (j := 30) (by decide) (by decide) (by decide)) q9) (fun h9 => h9.elim (fun q9 => (wn (S := S_46) hW_66 (i := 0) (j := 35) (by decide) (by decide) (by decide)) q9) (fun h9 => h9.elim (fun q9 => (wn (S := S_46) hW_66 (i := 0) (j := 15) (by decide) (by decide) (by decide)) q9) (fun h9 => h9.elim (fun q9 => (wn (S := S_46) hW_66 (i := 0) (j := 6) (by decide) (by decide) (by decide)) q9) (fun q9 => (wn (S := S_46) hW_66 (i := 0) (j := 5) (by decide) (by decide) (by decide)) q9)))))))))) hv_49
  have hv_87 : hI S_80 1109 (ad 0) = 0 := hf_82.fi (wm_0 (S := S_46) hW_66) (fun h9 => h9.elim (fun q9 => (wn (S := S_46) hW_66 (i := 0) (j := 12) (by decide) (by decide) (by decide)) q9) (fun h9 => h9.elim (fun q9 => (wn (S := S_46) hW_66 (i := 0) (j := 24) (by decide) (by decide) (by decide)) q9) (fun h9 => h9.elim (fun q9 => (wn (S := S_46) hW_66 (i := 0) (j := 26) (by decide) (by decide) (by decide)) q9) (fun h9 => h9.elim (fun q9 => (wn (S := S_46) hW_66 (i := 0) (j := 27) (by decide) (by decide) (by decide)) q9) (fun h9 => h9.elim (fun q9 => (wn (S := S_46) hW_66 (i := 0) (j := 28) (by decide) (by decide) (by decide)) q9) (fun h9 => h9.elim (fun q9 => (wn (S := S_46) hW_66 (i := 0) (j := 30) (by decide) (by decide) (by decide)) q9) (fun h9 => h9.elim (fun q9 => (wn (S := S_46) hW_66 (i := 0) (j := 35) (by decide) (by decide) (by decide)) q9) (fun h9 => h9.elim (fun q9 => (wn (S := S_46) hW_66 (i := 0) (j := 15) (by decide) (by decide) (by decide)) q9) (fun h9 => h9.elim (fun q9 => (wn (S := S_46) hW_66 (i := 0) (j := 6) (by decide) (by decide) (by decide)) q9) (fun q9 => (wn (S := S_46) hW_66 (i := 0) (j := 5) (by decide) (by decide) (by decide)) q9)))))))))) hv_50
  have hv_88 : hI S_80 1110 (ad 0) = (-1) := hf_82.fi (wm_0 (S := S_46) hW_66) (fun h9 => h9.elim (fun q9 => (wn (S := S_46) hW_66 (i := 0) (j := 12) (by decide) (by decide) (by decide)) q9) (fun h9 => h9.elim (fun q9 => (wn (S := S_46) hW_66 (i := 0) (j := 24) (by decide) (by decide) (by decide)) q9) (fun h9 => h9.elim (fun q9 => (wn (S := S_46) hW_66 (i := 0) (j := 26) (by decide) (by decide) (by decide)) q9) (fun h9 => h9.elim (fun q9 => (wn (S := S_46) hW_66 (i := 0) (j := 27) (by decide) (by decide) (by decide)) q9) (fun h9 => h9.elim (fun q9 => (wn (S := S_46) hW_66 (i := 0) (j := 28) (by decide) (by decide) (by decide)) q9) (fun h9 => h9.elim (fun q9 => (wn (S := S_46) hW_66 (i := 0) (j := 30) (by decide) (by decide) (by decide)) q9) (fun h9 => h9.elim (fun q9 => (wn (S := S_46) hW_66 (i := 0) (j := 35) (by decide) (by decide) (by decide)) q9) (fun h9 => h9.elim (fun q9 => (wn (S := S_46) hW_66 (i := 0) (j := 15) (by decide) (by decide) (by decide)) q9) (fun h9 => h9.elim (fun q9 => (wn (S := S_46) hW_66 (i := 0) (j := 6) (by decide) (by decide) (by decide)) q9) (fun q9 => (wn (S := S_46) hW_66 (i := 0) (j := 5) (by decide) (by decide) (by decide)) q9)))))))))) hv_51
  have hv_89 : hI S_80 1111 (ad 0) = (-1) := hf_82.fi (wm_0 (S := S_46) hW_66) (fun h9 => h9.elim (fun q9 => (wn (S := S_46) hW_66 (i := 0) (j := 12) (by decide) (by decide) (by decide)) q9) (fun h9 => h9.elim (fun q9 => (wn (S := S_46) hW_66 (i := 0) (j := 24) (by decide) (by decide) (by decide)) q9) (fun h9 => h9.elim (fun q9 => (wn (S := S_46) hW_66 (i := 0) (j := 26) (by decide) (by decide) (by decide)) q9) (fun h9 => h9.elim (fun q9 => (wn (S := S_46) hW_66 (i := 0) (j := 27) (by decide) (by decide) (by decide)) q9) (fun h9 => h9.elim (fun q9 => (wn (S := S_46) hW_66 (i := 0) (j := 28) (by decide) (by decide) (by decide)) q9) (fun h9 => h9.elim (fun q9 => (wn (S := S_46) hW_66 (i := 0) (j := 30) (by decide) (by decide) (by decide)) q9) (fun h9 => h9.elim (fun q9 => (wn (S := S_46) hW_66 (i := 0) (j := 35) (by decide) (by decide) (by decide)) q9) (fun h9 => h9.elim (fun q9 => (wn (S := S_46) hW_66 (i := 0) (j := 15) (by decide) (by decide) (by decide)) q9) (fun h9 => h9.elim (fun q9 => (wn (S := S_46) hW_66 (i := 0) (j := 6) (by decide) (by decide) (by decide)) q9) (fun q9 => (wn (S := S_46) hW_66 (i := 0) (j := 5) (by decide) (by decide) (by decide)) q9)))))))))) hv_52
  have hf_90 : Fm (fun f9 b9 => (f9 = 1105 ∧ b9 = (ad 0)) ∨ (f9 = 1109 ∧ b9 = (ad 0)) ∨ (f9 = 1110 ∧ b9 = (ad 0)) ∨ (f9 = 1111 ∧ b9 = (ad 0)) ∨ b9 = (ad 12) ∨ b9 = (ad 24) ∨ b9 = (ad 26) ∨ b9 = (ad 27) ∨ b9 = (ad 28) ∨ b9 = (ad 30) ∨ b9 = (ad 35) ∨ b9 = (ad 15) ∨ b9 = (ad 6) ∨ b9 = (ad 5)) (fun f9 b9 => (f9 = 10 ∧ b9 = (ad 12)) ∨ (f9 = 913 ∧ b9 = (ad 6)) ∨ (f9 = 500 ∧ b9 = (ad 35))) (fun b9 => b9 = (ad 25) ∨ b9 = (ad 14) ∨ b9 = (ad 13) ∨ b9 = (ad 7) ∨ b9 = (ad 8) ∨ b9 = (ad 9) ∨ b9 = (ad 11) ∨ b9 = (ad 29) ∨ b9 = (ad 31) ∨ b9 = (ad 32) ∨ b9 = (ad 33) ∨ b9 = (ad 36) ∨ b9 = (ad 19)) S S_80 := hf_62.then hf_82 (fun a9 ha9 => ⟨(fun f9 h9 => (fun h9 => h9.elim (fun h8 => (Or.inr (Or.inr (Or.inr (Or.inr (Or.inl h8)))))) (fun h9 => h9.elim (fun h8 => (Or.inr (Or.inr (Or.inr (Or.inr (Or.inr (Or.inl h8))))))) (fun h9 => h9.elim (fun h8 => (Or.inr (Or.inr (Or.inr (Or.inr (Or.inr (Or.inr (Or.inl h8)))))))) (fun h9 => h9.elim (fun h8 => (Or.inr (Or.inr (Or.inr (Or.inr (Or.inr (Or.inr (Or.inr (Or.inl h8))))))))) (fun h9 => h9.elim (fun h8 => (Or.inr (Or.inr (Or.inr (Or.inr (Or.inr (Or.inr (Or.inr (Or.inr (Or.inl h8)))))))))) (fun h9 => h9.elim (fun h8 => (Or.inr (Or.inr (Or.inr (Or.inr (Or.inr (Or.inr (Or.inr (Or.inr (Or.inr (Or.inl h8))))))))))) (fun h9 => h9.elim (fun h8 => (Or.inr (Or.inr (Or.inr (Or.inr (Or.inr (Or.inr (Or.inr (Or.inr (Or.inr (Or.inr (Or.inl h8)))))))))))) (fun h9 => h9.elim (fun h8 => (Or.inr (Or.inr (Or.inr (Or.inr (Or.inr (Or.inr (Or.inr (Or.inr (Or.inr (Or.inr (Or.inr (Or.inl h8))))))))))))) (fun h9 => h9.elim (fun h8 => (Or.inr (Or.inr (Or.inr (Or.inr (Or.inr (Or.inr (Or.inr (Or.inr (Or.inr (Or.inr (Or.inr (Or.inr (Or.inl h8)))))))))))))) (fun h8 => (Or.inr (Or.inr (Or.inr (Or.inr (Or.inr (Or.inr (Or.inr (Or.inr (Or.inr (Or.inr (Or.inr (Or.inr (Or.inr h8))))))))))))))))))))))) h9), (fun f9 h9 => (fun h9 => h9.elim (fun h8 => (Or.inl h8)) (fun h9 => h9.elim (fun h8 => (Or.inr (Or.inl h8))) (fun h8 => (Or.inr (Or.inr h8))))) h9), (fun h9 => (fun h9 => h9.elim (fun h8 => (Or.inl h8)) (fun h9 => h9.elim (fun h8 => (Or.inr (Or.inl h8))) (fun h9 => h9.elim (fun h8 => (Or.inr (Or.inr (Or.inl h8)))) (fun h9 => h9.elim (fun h8 => (Or.inr (Or.inr (Or.inr (Or.inl h8))))) (fun h9 => h9.elim (fun h8 => (Or.inr (Or.inr (Or.inr (Or.inr (Or.inl h8)))))) (fun h9 => h9.elim (fun h8 => (Or.inr (Or.inr (Or.inr (Or.inr (Or.inr (Or.inl h8))))))) (fun h9 => h9.elim (fun h8 => (Or.inr (Or.inr (Or.inr (Or.inr (Or.inr (Or.inr (Or.inl h8)))))))) (fun h9 => h9.elim (fun h8 => (Or.inr (Or.inr (Or.inr (Or.inr (Or.inr (Or.inr (Or.inr (Or.inl h8))))))))) (fun h9 => h9.elim (fun h8 => (Or.inr (Or.inr (Or.inr (Or.inr (Or.inr (Or.inr (Or.inr (Or.inr (Or.inl h8)))))))))) (fun h9 => h9.elim (fun h8 => (Or.inr (Or.inr (Or.inr (Or.inr (Or.inr (Or.inr (Or.inr (Or.inr (Or.inr (Or.inl h8))))))))))) (fun h9 => h9.elim (fun h8 => (Or.inr (Or.inr (Or.inr (Or.inr (Or.inr (Or.inr (Or.inr (Or.inr (Or.inr (Or.inr (Or.inl h8)))))))))))) (fun h9 => h9.elim (fun h8 => (Or.inr (Or.inr (Or.inr (Or.inr (Or.inr (Or.inr (Or.inr (Or.inr (Or.inr (Or.inr (Or.inr (Or.inl h8))))))))))))) (fun h8 => (Or.inr (Or.inr (Or.inr (Or.inr (Or.inr (Or.inr (Or.inr (Or.inr (Or.inr (Or.inr (Or.inr (Or.inr h8))))))))))))))))))))))))) h9)⟩)
  have hW_91 : Wd ad S_80 := hW_66.fm hf_82 (by intro p9 hp9 h9; rcases h9 with ⟨e1, e2⟩ | ⟨e1, e2⟩ | ⟨e1, e2⟩ <;> exact wp_dyn p9 hp9 (by rw [e1]; decide)) (by intro p9 hp9; simp only [wqL, List.mem_cons, List.not_mem_nil, or_false] at hp9; rcases hp9 with rfl | rfl <;> intro h9 <;> rcases h9 with h9 | h9 | h9 | h9 | h9 | h9 | h9 | h9 | h9 | h9 | h9 | h9 | h9 <;> exact absurd h9 (wn hW_66 (by decide) (by decide) (by decide)))
  have hx_92 : STR (aI S_80 (ad 2)) B n := by
    have e0_9 : (aI S_80 (ad 2)) = (aI S_46 (ad 2)) := funext fun j9 => hf_82.ai (wm_2 (S := S_46) hW_66) (fun h9 => h9.elim (fun q9 => (wn (S := S_46) hW_66 (i := 2) (j := 25) (by decide) (by decide) (by decide)) q9) (fun h9 => h9.elim (fun q9 => (wn (S := S_46) hW_66 (i := 2) (j := 14) (by decide) (by decide) (by decide)) q9) (fun h9 => h9.elim (fun q9 => (wn (S := S_46) hW_66 (i := 2) (j := 13) (by decide) (by decide) (by decide)) q9) (fun h9 => h9.elim (fun q9 => (wn (S := S_46) hW_66 (i := 2) (j := 7) (by decide) (by decide) (by decide)) q9) (fun h9 => h9.elim (fun q9 => (wn (S := S_46) hW_66 (i := 2) (j := 8) (by decide) (by decide) (by decide)) q9) (fun h9 => h9.elim (fun q9 => (wn (S := S_46) hW_66 (i := 2) (j := 9) (by decide) (by decide) (by decide)) q9) (fun h9 => h9.elim (fun q9 => (wn (S := S_46) hW_66 (i := 2) (j := 11) (by decide) (by decide) (by decide)) q9) (fun h9 => h9.elim (fun q9 => (wn (S := S_46) hW_66 (i := 2) (j := 29) (by decide) (by decide) (by decide)) q9) (fun h9 => h9.elim (fun q9 => (wn (S := S_46) hW_66 (i := 2) (j := 31) (by decide) (by decide) (by decide)) q9) (fun h9 => h9.elim (fun q9 => (wn (S := S_46) hW_66 (i := 2) (j := 32) (by decide) (by decide) (by decide)) q9) (fun h9 => h9.elim (fun q9 => (wn (S := S_46) hW_66 (i := 2) (j := 33) (by decide) (by decide) (by decide)) q9) (fun h9 => h9.elim (fun q9 => (wn (S := S_46) hW_66 (i := 2) (j := 36) (by decide) (by decide) (by decide)) q9) (fun q9 => (wn (S := S_46) hW_66 (i := 2) (j := 19) (by decide) (by decide) (by decide)) q9))))))))))))) j9
    first | (rw [e0_9]; exact hx_67) | rw [e0_9]
  have hx_93 : aI S_80 (ad 3) 0 = 0 := by
    have e0_9 : (aI S_80 (ad 3)) = (aI S_46 (ad 3)) := funext fun j9 => hf_82.ai (wm_3 (S := S_46) hW_66) (fun h9 => h9.elim (fun q9 => (wn (S := S_46) hW_66 (i := 3) (j := 25) (by decide) (by decide) (by decide)) q9) (fun h9 => h9.elim (fun q9 => (wn (S := S_46) hW_66 (i := 3) (j := 14) (by decide) (by decide) (by decide)) q9) (fun h9 => h9.elim (fun q9 => (wn (S := S_46) hW_66 (i := 3) (j := 13) (by decide) (by decide) (by decide)) q9) (fun h9 => h9.elim (fun q9 => (wn (S := S_46) hW_66 (i := 3) (j := 7) (by decide) (by decide) (by decide)) q9) (fun h9 => h9.elim (fun q9 => (wn (S := S_46) hW_66 (i := 3) (j := 8) (by decide) (by decide) (by decide)) q9) (fun h9 => h9.elim (fun q9 => (wn (S := S_46) hW_66 (i := 3) (j := 9) (by decide) (by decide) (by decide)) q9) (fun h9 => h9.elim (fun q9 => (wn (S := S_46) hW_66 (i := 3) (j := 11) (by decide) (by decide) (by decide)) q9) (fun h9 => h9.elim (fun q9 => (wn (S := S_46) hW_66 (i := 3) (j := 29) (by decide) (by decide) (by decide)) q9) (fun h9 => h9.elim (fun q9 => (wn (S := S_46) hW_66 (i := 3) (j := 31) (by decide) (by decide) (by decide)) q9) (fun h9 => h9.elim (fun q9 => (wn (S := S_46) hW_66 (i := 3) (j := 32) (by decide) (by decide) (by decide)) q9) (fun h9 => h9.elim (fun q9 => (wn (S := S_46) hW_66 (i := 3) (j := 33) (by decide) (by decide) (by decide)) q9) (fun h9 => h9.elim (fun q9 => (wn (S := S_46) hW_66 (i := 3) (j := 36) (by decide) (by decide) (by decide)) q9) (fun q9 => (wn (S := S_46) hW_66 (i := 3) (j := 19) (by decide) (by decide) (by decide)) q9))))))))))))) j9
    first | (rw [e0_9]; exact hx_68) | rw [e0_9]
  have hx_94 : aI S_80 (ad 4) 0 = 0 := by
    have e0_9 : (aI S_80 (ad 4)) = (aI S_46 (ad 4)) := funext fun j9 => hf_82.ai (wm_4 (S := S_46) hW_66) (fun h9 => h9.elim (fun q9 => (wn (S := S_46) hW_66 (i := 4) (j := 25) (by decide) (by decide) (by decide)) q9) (fun h9 => h9.elim (fun q9 => (wn (S := S_46) hW_66 (i := 4) (j := 14) (by decide) (by decide) (by decide)) q9) (fun h9 => h9.elim (fun q9 => (wn (S := S_46) hW_66 (i := 4) (j := 13) (by decide) (by decide) (by decide)) q9) (fun h9 => h9.elim (fun q9 => (wn (S := S_46) hW_66 (i := 4) (j := 7) (by decide) (by decide) (by decide)) q9) (fun h9 => h9.elim (fun q9 => (wn (S := S_46) hW_66 (i := 4) (j := 8) (by decide) (by decide) (by decide)) q9) (fun h9 => h9.elim (fun q9 => (wn (S := S_46) hW_66 (i := 4) (j := 9) (by decide) (by decide) (by decide)) q9) (fun h9 => h9.elim (fun q9 => (wn (S := S_46) hW_66 (i := 4) (j := 11) (by decide) (by decide) (by decide)) q9) (fun h9 => h9.elim (fun q9 => (wn (S := S_46) hW_66 (i := 4) (j := 29) (by decide) (by decide) (by decide)) q9) (fun h9 => h9.elim (fun q9 => (wn (S := S_46) hW_66 (i := 4) (j := 31) (by decide) (by decide) (by decide)) q9) (fun h9 => h9.elim (fun q9 => (wn (S := S_46) hW_66 (i := 4) (j := 32) (by decide) (by decide) (by decide)) q9) (fun h9 => h9.elim (fun q9 => (wn (S := S_46) hW_66 (i := 4) (j := 33) (by decide) (by decide) (by decide)) q9) (fun h9 => h9.elim (fun q9 => (wn (S := S_46) hW_66 (i := 4) (j := 36) (by decide) (by decide) (by decide)) q9) (fun q9 => (wn (S := S_46) hW_66 (i := 4) (j := 19) (by decide) (by decide) (by decide)) q9))))))))))))) j9
    first | (rw [e0_9]; exact hx_69) | rw [e0_9]
  have hx_95 : aI S_80 (ad 4) 1 = nI n := by
    have e0_9 : (aI S_80 (ad 4)) = (aI S_46 (ad 4)) := funext fun j9 => hf_82.ai (wm_4 (S := S_46) hW_66) (fun h9 => h9.elim (fun q9 => (wn (S := S_46) hW_66 (i := 4) (j := 25) (by decide) (by decide) (by decide)) q9) (fun h9 => h9.elim (fun q9 => (wn (S := S_46) hW_66 (i := 4) (j := 14) (by decide) (by decide) (by decide)) q9) (fun h9 => h9.elim (fun q9 => (wn (S := S_46) hW_66 (i := 4) (j := 13) (by decide) (by decide) (by decide)) q9) (fun h9 => h9.elim (fun q9 => (wn (S := S_46) hW_66 (i := 4) (j := 7) (by decide) (by decide) (by decide)) q9) (fun h9 => h9.elim (fun q9 => (wn (S := S_46) hW_66 (i := 4) (j := 8) (by decide) (by decide) (by decide)) q9) (fun h9 => h9.elim (fun q9 => (wn (S := S_46) hW_66 (i := 4) (j := 9) (by decide) (by decide) (by decide)) q9) (fun h9 => h9.elim (fun q9 => (wn (S := S_46) hW_66 (i := 4) (j := 11) (by decide) (by decide) (by decide)) q9) (fun h9 => h9.elim (fun q9 => (wn (S := S_46) hW_66 (i := 4) (j := 29) (by decide) (by decide) (by decide)) q9) (fun h9 => h9.elim (fun q9 => (wn (S := S_46) hW_66 (i := 4) (j := 31) (by decide) (by decide) (by decide)) q9) (fun h9 => h9.elim (fun q9 => (wn (S := S_46) hW_66 (i := 4) (j := 32) (by decide) (by decide) (by decide)) q9) (fun h9 => h9.elim (fun q9 => (wn (S := S_46) hW_66 (i := 4) (j := 33) (by decide) (by decide) (by decide)) q9) (fun h9 => h9.elim (fun q9 => (wn (S := S_46) hW_66 (i := 4) (j := 36) (by decide) (by decide) (by decide)) q9) (fun q9 => (wn (S := S_46) hW_66 (i := 4) (j := 19) (by decide) (by decide) (by decide)) q9))))))))))))) j9
    first | (rw [e0_9]; exact hx_70) | rw [e0_9]
  refine j_aload_n C dX11_print_100 rfl 1 rfl ?_
  refine j_aload_n C dX11_print_101 rfl 1 rfl ?_
  refine j_getr (f := 1107) (v := (ad 6)) C flX11_42 dX11_print_102 (wm_0 (S := S_80) hW_91) (wk_0 (S := S_80) hW_91) (by decide) rfl (wr_1107_0 (S := S_80) hW_91) ?_
  show J _ _ _ _ _ 105 _
  refine j_callV (ci := 9) C [] [.ref (ad 0)] mlX11_82 mcX9_isMuch (c_X9_isMuch S_80 ad hW_91 n e_75 (by omega) e_73 e_74) (wm_6 (S := S_80) hW_91) (wk_6 (S := S_80) hW_91) rfl (M.rm (by decide) (by decide) (Nat.le_of_ble_eq_true rfl) (Nat.le_of_ble_eq_true rfl)) rfl rfl (Nat.le_of_ble_eq_true rfl) dX11_print_105 (fun r_96 S_97 hp_98 => ?_)
  obtain ⟨rfl, e_99⟩ := hp_98
  refine J.eq (S' := S_80) (st' := [.int 0, .ref (ad 0)]) (lv' := [(2, .int 0), (0, .ref (ad 0)), (1, .int (nI b9))]) e_99 rfl rfl ?_
  refine j_if_eq (tgt := 115) C dX11_print_108 (by decide) (fun c9 => ?_) (fun c9 => absurd (by decide) c9)
  refine j_iconst (v := 0) C dX11_print_115 (by decide) ?_
  refine j_puti (f := 1109) C flX11_69 (by decide) rfl rfl dX11_print_116 (wm_0 (S := S_80) hW_91) (wk_0 (S := S_80) hW_91) rfl ?_
  refine j_goto (tgt := 169) C dX11_print_119 (by decide) ?_
  refine j_aload_n C dX11_print_169 rfl 1 rfl ?_
  refine j_aload_n C dX11_print_170 rfl 1 rfl ?_
  refine j_geti (f := 1109) (v := 0) C flX11_69 dX11_print_171 (wm_0 (S := S_80) hW_91) (wk_0 (S := S_80) hW_91) (by decide) (by decide) rfl (rd_sI (S := S_80) (g := 1109) (a := (ad 0)) (v := 0)) ?_
  show J _ _ _ _ _ 174 _
  refine j_if_ne (tgt := 181) C dX11_print_174 (by decide) (fun c9 => absurd c9 (by decide)) (fun c9 => ?_)
  refine j_iconst (v := (-1)) C dX11_print_177 (by decide) ?_
  refine j_goto (tgt := 182) C dX11_print_178 (by decide) ?_
  refine j_puti (f := 1110) C flX11_23 (by decide) rfl rfl dX11_print_182 (wm_0 (S := S_80) hW_91) (wk_0 (S := S_80) hW_91) rfl ?_
  refine j_iinc (q := 0) (v := 1) (lv' := [(2, .int 1), (0, .ref (ad 0)), (1, .int (nI b9))]) C dX11_print_185 rfl (by decide) (by rw [hn9]; decide) rfl ?_
  refine j_goto (tgt := 45) C dX11_print_188 (by decide) ?_
  refine j_iload_n C dX11_print_45 rfl 0 rfl ?_
  refine j_aload_n C dX11_print_46 rfl 1 rfl ?_
  show J _ _ _ _ _ 47 _
  refine j_geti (f := 1105) (v := 1) C flX11_60 dX11_print_47 (wm_0 (S := S_80) hW_91) (wk_0 (S := S_80) hW_91) (by decide) (by decide) rfl (rd_sIf (S := (sI S_80 1109 (ad 0) 0)) (g := 1110) (a := (ad 0)) (v := (-1)) (by decide) (rd_sIf (S := S_80) (g := 1109) (a := (ad 0)) (v := 0) (by decide) hv_86)) ?_
  refine j_ic_ge (tgt := 191) C dX11_print_50 (by decide) (fun c9 => ?_) (fun c9 => absurd (by decide) c9)
  refine j_aload_n C dX11_print_191 rfl 1 rfl ?_
  refine j_iconst (v := 0) C dX11_print_192 (by decide) ?_
  refine j_puti (f := 1105) C flX11_60 (by decide) rfl rfl dX11_print_193 (wm_0 (S := S_80) hW_91) (wk_0 (S := S_80) hW_91) rfl ?_
  refine j_aload_n C dX11_print_196 rfl 1 rfl ?_
  refine j_geti (f := 1109) (v := 0) C flX11_69 dX11_print_197 (wm_0 (S := S_80) hW_91) (wk_0 (S := S_80) hW_91) (by decide) (by decide) rfl (rd_sIf (S := (sI (sI S_80 1109 (ad 0) 0) 1110 (ad 0) (-1))) (g := 1105) (a := (ad 0)) (v := 0) (by decide) (rd_sIf (S := (sI S_80 1109 (ad 0) 0)) (g := 1110) (a := (ad 0)) (v := (-1)) (by decide) (rd_sI (S := S_80) (g := 1109) (a := (ad 0)) (v := 0)))) ?_
  refine j_if_ne (tgt := 211) C dX11_print_200 (by decide) (fun c9 => absurd c9 (by decide)) (fun c9 => ?_)
  show J _ _ _ _ _ 203 _
  refine j_aload_n C dX11_print_203 rfl 1 rfl ?_
  refine j_getr (f := 1106) (v := (ad 5)) C flX11_33 dX11_print_204 (wm_0 (S := S_80) hW_91) (wk_0 (S := S_80) hW_91) (by decide) rfl (rxR_sI (S := (sI (sI S_80 1109 (ad 0) 0) 1110 (ad 0) (-1))) (rxR_sI (S := (sI S_80 1109 (ad 0) 0)) (rxR_sI (S := S_80) (wr_1106_0 (S := S_80) hW_91)))) ?_
  refine j_geti (f := 602) (v := 1) C flX11_93 dX11_print_207 (wm_5 (S := S_80) hW_91) (wk_5 (S := S_80) hW_91) (by decide) (by decide) rfl (rd_sIf (S := (sI (sI S_80 1109 (ad 0) 0) 1110 (ad 0) (-1))) (g := 1105) (a := (ad 0)) (v := 0) (by decide) (rd_sIf (S := (sI S_80 1109 (ad 0) 0)) (g := 1110) (a := (ad 0)) (v := (-1)) (by decide) (rd_sIf (S := S_80) (g := 1109) (a := (ad 0)) (v := 0) (by decide) e_71))) ?_
  exact j_iret C M dX11_print_210 (Nat.le_of_ble_eq_true rfl) (Nat.le_of_ble_eq_true rfl) ⟨rfl, (((hf_90.sI _ (fun _ => (Or.inr (Or.inl ⟨rfl, rfl⟩)))).sI _ (fun _ => (Or.inr (Or.inr (Or.inl ⟨rfl, rfl⟩))))).sI _ (fun _ => (Or.inl ⟨rfl, rfl⟩))), (rd_sIf (S := (sI (sI S_80 1109 (ad 0) 0) 1110 (ad 0) (-1))) (g := 1105) (a := (ad 0)) (v := 0) (by decide) (rd_sIf (S := (sI S_80 1109 (ad 0) 0)) (g := 1110) (a := (ad 0)) (v := (-1)) (by decide) (rd_sIf (S := S_80) (g := 1109) (a := (ad 0)) (v := 0) (by decide) e_71))), (rd_sIf (S := (sI (sI S_80 1109 (ad 0) 0) 1110 (ad 0) (-1))) (g := 1105) (a := (ad 0)) (v := 0) (by decide) (rd_sIf (S := (sI S_80 1109 (ad 0) 0)) (g := 1110) (a := (ad 0)) (v := (-1)) (by decide) (rd_sIf (S := S_80) (g := 1109) (a := (ad 0)) (v := 0) (by decide) e_72))), (by rw [show aI (sI (sI (sI S_80 1109 (ad 0) 0) 1110 (ad 0) (-1)) 1105 (ad 0) 0) (ad 8) = aI S_80 (ad 8) from ((arI_sI (S := (sI (sI S_80 1109 (ad 0) 0) 1110 (ad 0) (-1)))).trans ((arI_sI (S := (sI S_80 1109 (ad 0) 0))).trans (arI_sI (S := S_80))))]; exact x_76), (by rw [show aI (sI (sI (sI S_80 1109 (ad 0) 0) 1110 (ad 0) (-1)) 1105 (ad 0) 0) (ad 9) = aI S_80 (ad 9) from ((arI_sI (S := (sI (sI S_80 1109 (ad 0) 0) 1110 (ad 0) (-1)))).trans ((arI_sI (S := (sI S_80 1109 (ad 0) 0))).trans (arI_sI (S := S_80))))]; exact x_77), (by rw [show aI (sI (sI (sI S_80 1109 (ad 0) 0) 1110 (ad 0) (-1)) 1105 (ad 0) 0) (ad 11) = aI S_80 (ad 11) from ((arI_sI (S := (sI (sI S_80 1109 (ad 0) 0) 1110 (ad 0) (-1)))).trans ((arI_sI (S := (sI S_80 1109 (ad 0) 0))).trans (arI_sI (S := S_80))))]; exact x_78)⟩

set_option maxRecDepth 100000 in
set_option maxHeartbeats 4000000 in
theorem c_print0 (S : Hp) (ad : Nat → Nat) (hW : Wd ad S) (b9 : Nat) (B : Nat → Nat) (n : Nat) (hI_1105_ad0 : hI S 1105 (ad 0) = 1) (hs : STR (aI S (ad 2)) B n) (hso : aI S (ad 3) 0 = 0) (hs0 : aI S (ad 4) 0 = 0) (hs1 : aI S (ad 4) 1 = nI n) (hI_209_ad15 : hI S 209 (ad 15) = 0) (z_ad17 : ∀ j, aI S (ad 17) j = 0) (z_ad21 : ∀ j, aI S (ad 21) j = 0) (z_ad23 : ∀ j, aI S (ad 23) j = 0) (bs : List Bx) (hb : ∀ b ∈ bs, okB b) (hB : Has B 0 (jobL bs)) (hnb : 5 + (boxsL bs).length = n) (hmb : bs.length ≤ 120) (hn : n ≤ 12000) (hb9 : 1 ≤ b9 ∧ b9 ≤ 128) (hz : bs.length = 0) : Ct 10 yX11_print cX11_print 3 (some .int) 0 0 [.ref (ad 0), .int (nI b9)] S (fun r S' => r = some (.int 0) ∧ Fm (fun f9 b9 => (f9 = 1105 ∧ b9 = (ad 0)) ∨ (f9 = 1109 ∧ b9 = (ad 0)) ∨ (f9 = 1110 ∧ b9 = (ad 0)) ∨ (f9 = 1111 ∧ b9 = (ad 0)) ∨ b9 = (ad 12) ∨ b9 = (ad 24) ∨ b9 = (ad 26) ∨ b9 = (ad 27) ∨ b9 = (ad 28) ∨ b9 = (ad 30) ∨ b9 = (ad 35) ∨ b9 = (ad 15) ∨ b9 = (ad 6) ∨ b9 = (ad 5)) (fun f9 b9 => (f9 = 10 ∧ b9 = (ad 12)) ∨ (f9 = 913 ∧ b9 = (ad 6)) ∨ (f9 = 500 ∧ b9 = (ad 35))) (fun b9 => b9 = (ad 25) ∨ b9 = (ad 14) ∨ b9 = (ad 13) ∨ b9 = (ad 7) ∨ b9 = (ad 8) ∨ b9 = (ad 9) ∨ b9 = (ad 11) ∨ b9 = (ad 29) ∨ b9 = (ad 31) ∨ b9 = (ad 32) ∨ b9 = (ad 33) ∨ b9 = (ad 36) ∨ b9 = (ad 19)) S S' ∧ hI S' 602 (ad 5) = 0 ∧ hI S' 3 (ad 12) = nI bs.length) := by
  refine ct_of (by decide) (Nat.le_of_ble_eq_true rfl) fun x hn9 C M hm9 => ?_
  have C : CB x RX11 cX11_print := C
  refine J.eq (lv' := [(0, .ref (ad 0)), (1, .int (nI b9))]) rfl rfl rfl ?_
  refine j_iload_n C dX11_print_0 rfl 1 rfl ?_
  refine j_iconst (v := 1) C dX11_print_1 (by decide) ?_
  refine j_ic_lt (tgt := 12) C dX11_print_2 (by decide) (fun c_2 => absurd c_2 (nI_nlt (b := 1) hb9.1 (by omega))) (fun c_2 => ?_)
  refine j_iload_n C dX11_print_5 rfl 1 rfl ?_
  refine j_sipush (v := 800) C dX11_print_6 (by decide) ?_
  refine j_ic_le (tgt := 14) C dX11_print_9 (by decide) (fun c_9 => ?_) (fun c_9 => absurd (nI_le (b := 800) (by omega) (by decide)) c_9)
  refine j_aload_n C dX11_print_14 rfl 0 rfl ?_
  refine j_iconst (v := 0) C dX11_print_15 (by decide) ?_
  show J _ _ _ _ _ 16 _
  refine j_puti (f := 1109) C flX11_69 (by decide) rfl rfl dX11_print_16 (wm_0 (S := S) hW) (wk_0 (S := S) hW) rfl ?_
  refine j_aload_n C dX11_print_19 rfl 0 rfl ?_
  refine j_iconst (v := (-1)) C dX11_print_20 (by decide) ?_
  refine j_puti (f := 1110) C flX11_23 (by decide) rfl rfl dX11_print_21 (wm_0 (S := S) hW) (wk_0 (S := S) hW) rfl ?_
  refine j_aload_n C dX11_print_24 rfl 0 rfl ?_
  refine j_iconst (v := (-1)) C dX11_print_25 (by decide) ?_
  refine j_puti (f := 1111) C flX11_27 (by decide) rfl rfl dX11_print_26 (wm_0 (S := S) hW) (wk_0 (S := S) hW) rfl ?_
  refine j_aload_n C dX11_print_29 rfl 0 rfl ?_
  show J _ _ _ _ _ 30 _
  refine j_getr (f := 1106) (v := (ad 5)) C flX11_33 dX11_print_30 (wm_0 (S := S) hW) (wk_0 (S := S) hW) (by decide) rfl (rxR_sI (S := (sI (sI S 1109 (ad 0) 0) 1110 (ad 0) (-1))) (rxR_sI (S := (sI S 1109 (ad 0) 0)) (rxR_sI (S := S) (wr_1106_0 (S := S) hW)))) ?_
  have hf_3 : Fm (fun f9 b9 => (f9 = 1105 ∧ b9 = (ad 0)) ∨ (f9 = 1109 ∧ b9 = (ad 0)) ∨ (f9 = 1110 ∧ b9 = (ad 0)) ∨ (f9 = 1111 ∧ b9 = (ad 0)) ∨ b9 = (ad 12) ∨ b9 = (ad 24) ∨ b9 = (ad 26) ∨ b9 = (ad 27) ∨ b9 = (ad 28) ∨ b9 = (ad 30) ∨ b9 = (ad 35) ∨ b9 = (ad 15) ∨ b9 = (ad 6) ∨ b9 = (ad 5)) (fun f9 b9 => (f9 = 10 ∧ b9 = (ad 12)) ∨ (f9 = 913 ∧ b9 = (ad 6)) ∨ (f9 = 500 ∧ b9 = (ad 35))) (fun b9 => b9 = (ad 25) ∨ b9 = (ad 14) ∨ b9 = (ad 13) ∨ b9 = (ad 7) ∨ b9 = (ad 8) ∨ b9 = (ad 9) ∨ b9 = (ad 11) ∨ b9 = (ad 29) ∨ b9 = (ad 31) ∨ b9 = (ad 32) ∨ b9 = (ad 33) ∨ b9 = (ad 36) ∨ b9 = (ad 19)) S (sI (sI (sI S 1109 (ad 0) 0) 1110 (ad 0) (-1)) 1111 (ad 0) (-1)) := ((((Fm.refl (WI := (fun f9 b9 => (f9 = 1105 ∧ b9 = (ad 0)) ∨ (f9 = 1109 ∧ b9 = (ad 0)) ∨ (f9 = 1110 ∧ b9 = (ad 0)) ∨ (f9 = 1111 ∧ b9 = (ad 0)) ∨ b9 = (ad 12) ∨ b9 = (ad 24) ∨ b9 = (ad 26) ∨ b9 = (ad 27) ∨ b9 = (ad 28) ∨ b9 = (ad 30) ∨ b9 = (ad 35) ∨ b9 = (ad 15) ∨ b9 = (ad 6) ∨ b9 = (ad 5))) (WR := (fun f9 b9 => (f9 = 10 ∧ b9 = (ad 12)) ∨ (f9 = 913 ∧ b9 = (ad 6)) ∨ (f9 = 500 ∧ b9 = (ad 35)))) (WA := (fun b9 => b9 = (ad 25) ∨ b9 = (ad 14) ∨ b9 = (ad 13) ∨ b9 = (ad 7) ∨ b9 = (ad 8) ∨ b9 = (ad 9) ∨ b9 = (ad 11) ∨ b9 = (ad 29) ∨ b9 = (ad 31) ∨ b9 = (ad 32) ∨ b9 = (ad 33) ∨ b9 = (ad 36) ∨ b9 = (ad 19)))).sI _ (fun _ => (Or.inr (Or.inl ⟨rfl, rfl⟩)))).sI _ (fun _ => (Or.inr (Or.inr (Or.inl ⟨rfl, rfl⟩))))).sI _ (fun _ => (Or.inr (Or.inr (Or.inr (Or.inl ⟨rfl, rfl⟩))))))
  obtain ⟨S_1, eS_2⟩ : ∃ S9 : Hp, S9 = (sI (sI (sI S 1109 (ad 0) 0) 1110 (ad 0) (-1)) 1111 (ad 0) (-1)) := ⟨_, rfl⟩
  refine J.eq (S' := S_1) eS_2.symm rfl rfl ?_
  have hv_4 : hI S_1 1105 (ad 0) = 1 := by rw [eS_2]; exact (rd_sIf (S := (sI (sI S 1109 (ad 0) 0) 1110 (ad 0) (-1))) (g := 1111) (a := (ad 0)) (v := (-1)) (by decide) (rd_sIf (S := (sI S 1109 (ad 0) 0)) (g := 1110) (a := (ad 0)) (v := (-1)) (by decide) (rd_sIf (S := S) (g := 1109) (a := (ad 0)) (v := 0) (by decide) hI_1105_ad0)))
  have hv_5 : hI S_1 1109 (ad 0) = 0 := by rw [eS_2]; exact (rd_sIf (S := (sI (sI S 1109 (ad 0) 0) 1110 (ad 0) (-1))) (g := 1111) (a := (ad 0)) (v := (-1)) (by decide) (rd_sIf (S := (sI S 1109 (ad 0) 0)) (g := 1110) (a := (ad 0)) (v := (-1)) (by decide) (rd_sI (S := S) (g := 1109) (a := (ad 0)) (v := 0))))
  have hv_6 : hI S_1 1110 (ad 0) = (-1) := by rw [eS_2]; exact (rd_sIf (S := (sI (sI S 1109 (ad 0) 0) 1110 (ad 0) (-1))) (g := 1111) (a := (ad 0)) (v := (-1)) (by decide) (rd_sI (S := (sI S 1109 (ad 0) 0)) (g := 1110) (a := (ad 0)) (v := (-1))))
  have hv_7 : hI S_1 1111 (ad 0) = (-1) := by rw [eS_2]; exact (rd_sI (S := (sI (sI S 1109 (ad 0) 0) 1110 (ad 0) (-1))) (g := 1111) (a := (ad 0)) (v := (-1)))
  have hv_8 : hI S_1 209 (ad 15) = 0 := by rw [eS_2]; exact (rd_sIf (S := (sI (sI S 1109 (ad 0) 0) 1110 (ad 0) (-1))) (g := 1111) (a := (ad 0)) (v := (-1)) (by decide) (rd_sIf (S := (sI S 1109 (ad 0) 0)) (g := 1110) (a := (ad 0)) (v := (-1)) (by decide) (rd_sIf (S := S) (g := 1109) (a := (ad 0)) (v := 0) (by decide) hI_209_ad15)))
  have hf_9 : Fm (fun f9 b9 => (f9 = 1105 ∧ b9 = (ad 0)) ∨ (f9 = 1109 ∧ b9 = (ad 0)) ∨ (f9 = 1110 ∧ b9 = (ad 0)) ∨ (f9 = 1111 ∧ b9 = (ad 0)) ∨ b9 = (ad 12) ∨ b9 = (ad 24) ∨ b9 = (ad 26) ∨ b9 = (ad 27) ∨ b9 = (ad 28) ∨ b9 = (ad 30) ∨ b9 = (ad 35) ∨ b9 = (ad 15) ∨ b9 = (ad 6) ∨ b9 = (ad 5)) (fun f9 b9 => (f9 = 10 ∧ b9 = (ad 12)) ∨ (f9 = 913 ∧ b9 = (ad 6)) ∨ (f9 = 500 ∧ b9 = (ad 35))) (fun b9 => b9 = (ad 25) ∨ b9 = (ad 14) ∨ b9 = (ad 13) ∨ b9 = (ad 7) ∨ b9 = (ad 8) ∨ b9 = (ad 9) ∨ b9 = (ad 11) ∨ b9 = (ad 29) ∨ b9 = (ad 31) ∨ b9 = (ad 32) ∨ b9 = (ad 33) ∨ b9 = (ad 36) ∨ b9 = (ad 19)) S S_1 := by rw [eS_2]; exact hf_3
  have hz_10 : ∀ j, aI S_1 (ad 17) j = 0 := by rw [eS_2]; exact z_ad17
  have hz_11 : ∀ j, aI S_1 (ad 21) j = 0 := by rw [eS_2]; exact z_ad21
  have hz_12 : ∀ j, aI S_1 (ad 23) j = 0 := by rw [eS_2]; exact z_ad23
  have hW_13 : Wd ad S_1 := by rw [eS_2]; exact (Wd.sI (Wd.sI (Wd.sI hW)))
  have hx_14 : STR (aI S_1 (ad 2)) B n := by rw [eS_2]; exact (by rw [show aI (sI (sI (sI S 1109 (ad 0) 0) 1110 (ad 0) (-1)) 1111 (ad 0) (-1)) (ad 2) = aI S (ad 2) from ((arI_sI (S := (sI (sI S 1109 (ad 0) 0) 1110 (ad 0) (-1)))).trans ((arI_sI (S := (sI S 1109 (ad 0) 0))).trans (arI_sI (S := S))))]; exact hs)
  have hx_15 : aI S_1 (ad 3) 0 = 0 := by rw [eS_2]; exact (by rw [show aI (sI (sI (sI S 1109 (ad 0) 0) 1110 (ad 0) (-1)) 1111 (ad 0) (-1)) (ad 3) = aI S (ad 3) from ((arI_sI (S := (sI (sI S 1109 (ad 0) 0) 1110 (ad 0) (-1)))).trans ((arI_sI (S := (sI S 1109 (ad 0) 0))).trans (arI_sI (S := S))))]; exact hso)
  have hx_16 : aI S_1 (ad 4) 0 = 0 := by rw [eS_2]; exact (by rw [show aI (sI (sI (sI S 1109 (ad 0) 0) 1110 (ad 0) (-1)) 1111 (ad 0) (-1)) (ad 4) = aI S (ad 4) from ((arI_sI (S := (sI (sI S 1109 (ad 0) 0) 1110 (ad 0) (-1)))).trans ((arI_sI (S := (sI S 1109 (ad 0) 0))).trans (arI_sI (S := S))))]; exact hs0)
  have hx_17 : aI S_1 (ad 4) 1 = nI n := by rw [eS_2]; exact (by rw [show aI (sI (sI (sI S 1109 (ad 0) 0) 1110 (ad 0) (-1)) 1111 (ad 0) (-1)) (ad 4) = aI S (ad 4) from ((arI_sI (S := (sI (sI S 1109 (ad 0) 0) 1110 (ad 0) (-1)))).trans ((arI_sI (S := (sI S 1109 (ad 0) 0))).trans (arI_sI (S := S))))]; exact hs1)
  refine j_callV (ci := 6) C [] [] mlX11_72 mcX6_clear (c_X6_clear S_1 ad hW_13) (wm_5 (S := S_1) hW_13) (wk_5 (S := S_1) hW_13) rfl (M.rm (by decide) (by decide) (Nat.le_of_ble_eq_true rfl) (Nat.le_of_ble_eq_true rfl)) rfl rfl (Nat.le_of_ble_eq_true rfl) dX11_print_33 (fun r_18 S_19 hp_20 => ?_)
  obtain ⟨rfl, e_21⟩ := hp_20
  refine J.eq (S' := (sI (sI (sI S_1 601 (ad 5) 0) 602 (ad 5) 0) 603 (ad 5) 0)) (st' := []) (lv' := [(0, .ref (ad 0)), (1, .int (nI b9))]) e_21 rfl rfl ?_
  refine j_aload_n C dX11_print_36 rfl 0 rfl ?_
  refine j_getr (f := 1107) (v := (ad 6)) C flX11_42 dX11_print_37 (wm_0 (S := S_1) hW_13) (wk_0 (S := S_1) hW_13) (by decide) rfl (rxR_sI (S := (sI (sI S_1 601 (ad 5) 0) 602 (ad 5) 0)) (rxR_sI (S := (sI S_1 601 (ad 5) 0)) (rxR_sI (S := S_1) (wr_1107_0 (S := S_1) hW_13)))) ?_
  have hf_24 : Fm (fun f9 b9 => (f9 = 1105 ∧ b9 = (ad 0)) ∨ (f9 = 1109 ∧ b9 = (ad 0)) ∨ (f9 = 1110 ∧ b9 = (ad 0)) ∨ (f9 = 1111 ∧ b9 = (ad 0)) ∨ b9 = (ad 12) ∨ b9 = (ad 24) ∨ b9 = (ad 26) ∨ b9 = (ad 27) ∨ b9 = (ad 28) ∨ b9 = (ad 30) ∨ b9 = (ad 35) ∨ b9 = (ad 15) ∨ b9 = (ad 6) ∨ b9 = (ad 5)) (fun f9 b9 => (f9 = 10 ∧ b9 = (ad 12)) ∨ (f9 = 913 ∧ b9 = (ad 6)) ∨ (f9 = 500 ∧ b9 = (ad 35))) (fun b9 => b9 = (ad 25) ∨ b9 = (ad 14) ∨ b9 = (ad 13) ∨ b9 = (ad 7) ∨ b9 = (ad 8) ∨ b9 = (ad 9) ∨ b9 = (ad 11) ∨ b9 = (ad 29) ∨ b9 = (ad 31) ∨ b9 = (ad 32) ∨ b9 = (ad 33) ∨ b9 = (ad 36) ∨ b9 = (ad 19)) S (sI (sI (sI S_1 601 (ad 5) 0) 602 (ad 5) 0) 603 (ad 5) 0) := (((hf_9.sI _ (fun _ => (Or.inr (Or.inr (Or.inr (Or.inr (Or.inr (Or.inr (Or.inr (Or.inr (Or.inr (Or.inr (Or.inr (Or.inr (Or.inr rfl))))))))))))))).sI _ (fun _ => (Or.inr (Or.inr (Or.inr (Or.inr (Or.inr (Or.inr (Or.inr (Or.inr (Or.inr (Or.inr (Or.inr (Or.inr (Or.inr rfl))))))))))))))).sI _ (fun _ => (Or.inr (Or.inr (Or.inr (Or.inr (Or.inr (Or.inr (Or.inr (Or.inr (Or.inr (Or.inr (Or.inr (Or.inr (Or.inr rfl)))))))))))))))
  obtain ⟨S_22, eS_23⟩ : ∃ S9 : Hp, S9 = (sI (sI (sI S_1 601 (ad 5) 0) 602 (ad 5) 0) 603 (ad 5) 0) := ⟨_, rfl⟩
  refine J.eq (S' := S_22) eS_23.symm rfl rfl ?_
  have hv_25 : hI S_22 1105 (ad 0) = 1 := by rw [eS_23]; exact (rd_sIf (S := (sI (sI S_1 601 (ad 5) 0) 602 (ad 5) 0)) (g := 603) (a := (ad 5)) (v := 0) (by decide) (rd_sIf (S := (sI S_1 601 (ad 5) 0)) (g := 602) (a := (ad 5)) (v := 0) (by decide) (rd_sIf (S := S_1) (g := 601) (a := (ad 5)) (v := 0) (by decide) hv_4)))
  have hv_26 : hI S_22 1109 (ad 0) = 0 := by rw [eS_23]; exact (rd_sIf (S := (sI (sI S_1 601 (ad 5) 0) 602 (ad 5) 0)) (g := 603) (a := (ad 5)) (v := 0) (by decide) (rd_sIf (S := (sI S_1 601 (ad 5) 0)) (g := 602) (a := (ad 5)) (v := 0) (by decide) (rd_sIf (S := S_1) (g := 601) (a := (ad 5)) (v := 0) (by decide) hv_5)))
  have hv_27 : hI S_22 1110 (ad 0) = (-1) := by rw [eS_23]; exact (rd_sIf (S := (sI (sI S_1 601 (ad 5) 0) 602 (ad 5) 0)) (g := 603) (a := (ad 5)) (v := 0) (by decide) (rd_sIf (S := (sI S_1 601 (ad 5) 0)) (g := 602) (a := (ad 5)) (v := 0) (by decide) (rd_sIf (S := S_1) (g := 601) (a := (ad 5)) (v := 0) (by decide) hv_6)))
  have hv_28 : hI S_22 1111 (ad 0) = (-1) := by rw [eS_23]; exact (rd_sIf (S := (sI (sI S_1 601 (ad 5) 0) 602 (ad 5) 0)) (g := 603) (a := (ad 5)) (v := 0) (by decide) (rd_sIf (S := (sI S_1 601 (ad 5) 0)) (g := 602) (a := (ad 5)) (v := 0) (by decide) (rd_sIf (S := S_1) (g := 601) (a := (ad 5)) (v := 0) (by decide) hv_7)))
  have hv_29 : hI S_22 209 (ad 15) = 0 := by rw [eS_23]; exact (rd_sIf (S := (sI (sI S_1 601 (ad 5) 0) 602 (ad 5) 0)) (g := 603) (a := (ad 5)) (v := 0) (by decide) (rd_sIf (S := (sI S_1 601 (ad 5) 0)) (g := 602) (a := (ad 5)) (v := 0) (by decide) (rd_sIf (S := S_1) (g := 601) (a := (ad 5)) (v := 0) (by decide) hv_8)))
  have hv_30 : hI S_22 601 (ad 5) = 0 := by rw [eS_23]; exact (rd_sIf (S := (sI (sI S_1 601 (ad 5) 0) 602 (ad 5) 0)) (g := 603) (a := (ad 5)) (v := 0) (by decide) (rd_sIf (S := (sI S_1 601 (ad 5) 0)) (g := 602) (a := (ad 5)) (v := 0) (by decide) (rd_sI (S := S_1) (g := 601) (a := (ad 5)) (v := 0))))
  have hv_31 : hI S_22 602 (ad 5) = 0 := by rw [eS_23]; exact (rd_sIf (S := (sI (sI S_1 601 (ad 5) 0) 602 (ad 5) 0)) (g := 603) (a := (ad 5)) (v := 0) (by decide) (rd_sI (S := (sI S_1 601 (ad 5) 0)) (g := 602) (a := (ad 5)) (v := 0)))
  have hv_32 : hI S_22 603 (ad 5) = 0 := by rw [eS_23]; exact (rd_sI (S := (sI (sI S_1 601 (ad 5) 0) 602 (ad 5) 0)) (g := 603) (a := (ad 5)) (v := 0))
  have hf_33 : Fm (fun f9 b9 => (f9 = 1105 ∧ b9 = (ad 0)) ∨ (f9 = 1109 ∧ b9 = (ad 0)) ∨ (f9 = 1110 ∧ b9 = (ad 0)) ∨ (f9 = 1111 ∧ b9 = (ad 0)) ∨ b9 = (ad 12) ∨ b9 = (ad 24) ∨ b9 = (ad 26) ∨ b9 = (ad 27) ∨ b9 = (ad 28) ∨ b9 = (ad 30) ∨ b9 = (ad 35) ∨ b9 = (ad 15) ∨ b9 = (ad 6) ∨ b9 = (ad 5)) (fun f9 b9 => (f9 = 10 ∧ b9 = (ad 12)) ∨ (f9 = 913 ∧ b9 = (ad 6)) ∨ (f9 = 500 ∧ b9 = (ad 35))) (fun b9 => b9 = (ad 25) ∨ b9 = (ad 14) ∨ b9 = (ad 13) ∨ b9 = (ad 7) ∨ b9 = (ad 8) ∨ b9 = (ad 9) ∨ b9 = (ad 11) ∨ b9 = (ad 29) ∨ b9 = (ad 31) ∨ b9 = (ad 32) ∨ b9 = (ad 33) ∨ b9 = (ad 36) ∨ b9 = (ad 19)) S S_22 := by rw [eS_23]; exact hf_24
  have hz_34 : ∀ j, aI S_22 (ad 17) j = 0 := by rw [eS_23]; exact hz_10
  have hz_35 : ∀ j, aI S_22 (ad 21) j = 0 := by rw [eS_23]; exact hz_11
  have hz_36 : ∀ j, aI S_22 (ad 23) j = 0 := by rw [eS_23]; exact hz_12
  have hW_37 : Wd ad S_22 := by rw [eS_23]; exact (Wd.sI (Wd.sI (Wd.sI hW_13)))
  have hx_38 : STR (aI S_22 (ad 2)) B n := by rw [eS_23]; exact (by rw [show aI (sI (sI (sI S_1 601 (ad 5) 0) 602 (ad 5) 0) 603 (ad 5) 0) (ad 2) = aI S_1 (ad 2) from ((arI_sI (S := (sI (sI S_1 601 (ad 5) 0) 602 (ad 5) 0))).trans ((arI_sI (S := (sI S_1 601 (ad 5) 0))).trans (arI_sI (S := S_1))))]; exact hx_14)
  have hx_39 : aI S_22 (ad 3) 0 = 0 := by rw [eS_23]; exact (by rw [show aI (sI (sI (sI S_1 601 (ad 5) 0) 602 (ad 5) 0) 603 (ad 5) 0) (ad 3) = aI S_1 (ad 3) from ((arI_sI (S := (sI (sI S_1 601 (ad 5) 0) 602 (ad 5) 0))).trans ((arI_sI (S := (sI S_1 601 (ad 5) 0))).trans (arI_sI (S := S_1))))]; exact hx_15)
  have hx_40 : aI S_22 (ad 4) 0 = 0 := by rw [eS_23]; exact (by rw [show aI (sI (sI (sI S_1 601 (ad 5) 0) 602 (ad 5) 0) 603 (ad 5) 0) (ad 4) = aI S_1 (ad 4) from ((arI_sI (S := (sI (sI S_1 601 (ad 5) 0) 602 (ad 5) 0))).trans ((arI_sI (S := (sI S_1 601 (ad 5) 0))).trans (arI_sI (S := S_1))))]; exact hx_16)
  have hx_41 : aI S_22 (ad 4) 1 = nI n := by rw [eS_23]; exact (by rw [show aI (sI (sI (sI S_1 601 (ad 5) 0) 602 (ad 5) 0) 603 (ad 5) 0) (ad 4) = aI S_1 (ad 4) from ((arI_sI (S := (sI (sI S_1 601 (ad 5) 0) 602 (ad 5) 0))).trans ((arI_sI (S := (sI S_1 601 (ad 5) 0))).trans (arI_sI (S := S_1))))]; exact hx_17)
  refine j_callV (ci := 9) C [] [] mlX11_75 mcX9_startJob (c_X9_startJob S_22 ad hW_37) (wm_6 (S := S_22) hW_37) (wk_6 (S := S_22) hW_37) rfl (M.rm (by decide) (by decide) (Nat.le_of_ble_eq_true rfl) (Nat.le_of_ble_eq_true rfl)) rfl rfl (Nat.le_of_ble_eq_true rfl) dX11_print_40 (fun r_42 S_43 hp_44 => ?_)
  obtain ⟨rfl, e_45⟩ := hp_44
  refine J.eq (S' := (rI (sI (sI (sI (sI (sI S_22 916 (ad 6) 0) 3 (ad 12) 0) 4 (ad 12) 0) 5 (ad 12) 0) 2 (ad 12) 0) (ad 13) (fillN (aI (sI (sI (sI (sI (sI S_22 916 (ad 6) 0) 3 (ad 12) 0) 4 (ad 12) 0) 5 (ad 12) 0) 2 (ad 12) 0) (ad 13)) 20000 0))) (st' := []) (lv' := [(0, .ref (ad 0)), (1, .int (nI b9))]) e_45 rfl rfl ?_
  have hf_48 : Fm (fun f9 b9 => (f9 = 1105 ∧ b9 = (ad 0)) ∨ (f9 = 1109 ∧ b9 = (ad 0)) ∨ (f9 = 1110 ∧ b9 = (ad 0)) ∨ (f9 = 1111 ∧ b9 = (ad 0)) ∨ b9 = (ad 12) ∨ b9 = (ad 24) ∨ b9 = (ad 26) ∨ b9 = (ad 27) ∨ b9 = (ad 28) ∨ b9 = (ad 30) ∨ b9 = (ad 35) ∨ b9 = (ad 15) ∨ b9 = (ad 6) ∨ b9 = (ad 5)) (fun f9 b9 => (f9 = 10 ∧ b9 = (ad 12)) ∨ (f9 = 913 ∧ b9 = (ad 6)) ∨ (f9 = 500 ∧ b9 = (ad 35))) (fun b9 => b9 = (ad 25) ∨ b9 = (ad 14) ∨ b9 = (ad 13) ∨ b9 = (ad 7) ∨ b9 = (ad 8) ∨ b9 = (ad 9) ∨ b9 = (ad 11) ∨ b9 = (ad 29) ∨ b9 = (ad 31) ∨ b9 = (ad 32) ∨ b9 = (ad 33) ∨ b9 = (ad 36) ∨ b9 = (ad 19)) S (rI (sI (sI (sI (sI (sI S_22 916 (ad 6) 0) 3 (ad 12) 0) 4 (ad 12) 0) 5 (ad 12) 0) 2 (ad 12) 0) (ad 13) (fillN (aI (sI (sI (sI (sI (sI S_22 916 (ad 6) 0) 3 (ad 12) 0) 4 (ad 12) 0) 5 (ad 12) 0) 2 (ad 12) 0) (ad 13)) 20000 0)) := ((((((hf_33.sI _ (fun _ => (Or.inr (Or.inr (Or.inr (Or.inr (Or.inr (Or.inr (Or.inr (Or.inr (Or.inr (Or.inr (Or.inr (Or.inr (Or.inl rfl))))))))))))))).sI _ (fun _ => (Or.inr (Or.inr (Or.inr (Or.inr (Or.inl rfl))))))).sI _ (fun _ => (Or.inr (Or.inr (Or.inr (Or.inr (Or.inl rfl))))))).sI _ (fun _ => (Or.inr (Or.inr (Or.inr (Or.inr (Or.inl rfl))))))).sI _ (fun _ => (Or.inr (Or.inr (Or.inr (Or.inr (Or.inl rfl))))))).rI _ (fun _ => (Or.inr (Or.inr (Or.inl rfl)))))
  obtain ⟨S_46, eS_47⟩ : ∃ S9 : Hp, S9 = (rI (sI (sI (sI (sI (sI S_22 916 (ad 6) 0) 3 (ad 12) 0) 4 (ad 12) 0) 5 (ad 12) 0) 2 (ad 12) 0) (ad 13) (fillN (aI (sI (sI (sI (sI (sI S_22 916 (ad 6) 0) 3 (ad 12) 0) 4 (ad 12) 0) 5 (ad 12) 0) 2 (ad 12) 0) (ad 13)) 20000 0)) := ⟨_, rfl⟩
  refine J.eq (S' := S_46) eS_47.symm rfl rfl ?_
  have hv_49 : hI S_46 1105 (ad 0) = 1 := by rw [eS_47]; exact (rxI_rI (S := (sI (sI (sI (sI (sI S_22 916 (ad 6) 0) 3 (ad 12) 0) 4 (ad 12) 0) 5 (ad 12) 0) 2 (ad 12) 0)) (rd_sIf (S := (sI (sI (sI (sI S_22 916 (ad 6) 0) 3 (ad 12) 0) 4 (ad 12) 0) 5 (ad 12) 0)) (g := 2) (a := (ad 12)) (v := 0) (by decide) (rd_sIf (S := (sI (sI (sI S_22 916 (ad 6) 0) 3 (ad 12) 0) 4 (ad 12) 0)) (g := 5) (a := (ad 12)) (v := 0) (by decide) (rd_sIf (S := (sI (sI S_22 916 (ad 6) 0) 3 (ad 12) 0)) (g := 4) (a := (ad 12)) (v := 0) (by decide) (rd_sIf (S := (sI S_22 916 (ad 6) 0)) (g := 3) (a := (ad 12)) (v := 0) (by decide) (rd_sIf (S := S_22) (g := 916) (a := (ad 6)) (v := 0) (by decide) hv_25))))))
  have hv_50 : hI S_46 1109 (ad 0) = 0 := by rw [eS_47]; exact (rxI_rI (S := (sI (sI (sI (sI (sI S_22 916 (ad 6) 0) 3 (ad 12) 0) 4 (ad 12) 0) 5 (ad 12) 0) 2 (ad 12) 0)) (rd_sIf (S := (sI (sI (sI (sI S_22 916 (ad 6) 0) 3 (ad 12) 0) 4 (ad 12) 0) 5 (ad 12) 0)) (g := 2) (a := (ad 12)) (v := 0) (by decide) (rd_sIf (S := (sI (sI (sI S_22 916 (ad 6) 0) 3 (ad 12) 0) 4 (ad 12) 0)) (g := 5) (a := (ad 12)) (v := 0) (by decide) (rd_sIf (S := (sI (sI S_22 916 (ad 6) 0) 3 (ad 12) 0)) (g := 4) (a := (ad 12)) (v := 0) (by decide) (rd_sIf (S := (sI S_22 916 (ad 6) 0)) (g := 3) (a := (ad 12)) (v := 0) (by decide) (rd_sIf (S := S_22) (g := 916) (a := (ad 6)) (v := 0) (by decide) hv_26))))))
  have hv_51 : hI S_46 1110 (ad 0) = (-1) := by rw [eS_47]; exact (rxI_rI (S := (sI (sI (sI (sI (sI S_22 916 (ad 6) 0) 3 (ad 12) 0) 4 (ad 12) 0) 5 (ad 12) 0) 2 (ad 12) 0)) (rd_sIf (S := (sI (sI (sI (sI S_22 916 (ad 6) 0) 3 (ad 12) 0) 4 (ad 12) 0) 5 (ad 12) 0)) (g := 2) (a := (ad 12)) (v := 0) (by decide) (rd_sIf (S := (sI (sI (sI S_22 916 (ad 6) 0) 3 (ad 12) 0) 4 (ad 12) 0)) (g := 5) (a := (ad 12)) (v := 0) (by decide) (rd_sIf (S := (sI (sI S_22 916 (ad 6) 0) 3 (ad 12) 0)) (g := 4) (a := (ad 12)) (v := 0) (by decide) (rd_sIf (S := (sI S_22 916 (ad 6) 0)) (g := 3) (a := (ad 12)) (v := 0) (by decide) (rd_sIf (S := S_22) (g := 916) (a := (ad 6)) (v := 0) (by decide) hv_27))))))
  have hv_52 : hI S_46 1111 (ad 0) = (-1) := by rw [eS_47]; exact (rxI_rI (S := (sI (sI (sI (sI (sI S_22 916 (ad 6) 0) 3 (ad 12) 0) 4 (ad 12) 0) 5 (ad 12) 0) 2 (ad 12) 0)) (rd_sIf (S := (sI (sI (sI (sI S_22 916 (ad 6) 0) 3 (ad 12) 0) 4 (ad 12) 0) 5 (ad 12) 0)) (g := 2) (a := (ad 12)) (v := 0) (by decide) (rd_sIf (S := (sI (sI (sI S_22 916 (ad 6) 0) 3 (ad 12) 0) 4 (ad 12) 0)) (g := 5) (a := (ad 12)) (v := 0) (by decide) (rd_sIf (S := (sI (sI S_22 916 (ad 6) 0) 3 (ad 12) 0)) (g := 4) (a := (ad 12)) (v := 0) (by decide) (rd_sIf (S := (sI S_22 916 (ad 6) 0)) (g := 3) (a := (ad 12)) (v := 0) (by decide) (rd_sIf (S := S_22) (g := 916) (a := (ad 6)) (v := 0) (by decide) hv_28))))))
  have hv_53 : hI S_46 2 (ad 12) = 0 := by rw [eS_47]; exact (rxI_rI (S := (sI (sI (sI (sI (sI S_22 916 (ad 6) 0) 3 (ad 12) 0) 4 (ad 12) 0) 5 (ad 12) 0) 2 (ad 12) 0)) (rd_sI (S := (sI (sI (sI (sI S_22 916 (ad 6) 0) 3 (ad 12) 0) 4 (ad 12) 0) 5 (ad 12) 0)) (g := 2) (a := (ad 12)) (v := 0)))
  have hv_54 : hI S_46 209 (ad 15) = 0 := by rw [eS_47]; exact (rxI_rI (S := (sI (sI (sI (sI (sI S_22 916 (ad 6) 0) 3 (ad 12) 0) 4 (ad 12) 0) 5 (ad 12) 0) 2 (ad 12) 0)) (rd_sIf (S := (sI (sI (sI (sI S_22 916 (ad 6) 0) 3 (ad 12) 0) 4 (ad 12) 0) 5 (ad 12) 0)) (g := 2) (a := (ad 12)) (v := 0) (by decide) (rd_sIf (S := (sI (sI (sI S_22 916 (ad 6) 0) 3 (ad 12) 0) 4 (ad 12) 0)) (g := 5) (a := (ad 12)) (v := 0) (by decide) (rd_sIf (S := (sI (sI S_22 916 (ad 6) 0) 3 (ad 12) 0)) (g := 4) (a := (ad 12)) (v := 0) (by decide) (rd_sIf (S := (sI S_22 916 (ad 6) 0)) (g := 3) (a := (ad 12)) (v := 0) (by decide) (rd_sIf (S := S_22) (g := 916) (a := (ad 6)) (v := 0) (by decide) hv_29))))))
  have hv_55 : hI S_46 3 (ad 12) = 0 := by rw [eS_47]; exact (rxI_rI (S := (sI (sI (sI (sI (sI S_22 916 (ad 6) 0) 3 (ad 12) 0) 4 (ad 12) 0) 5 (ad 12) 0) 2 (ad 12) 0)) (rd_sIf (S := (sI (sI (sI (sI S_22 916 (ad 6) 0) 3 (ad 12) 0) 4 (ad 12) 0) 5 (ad 12) 0)) (g := 2) (a := (ad 12)) (v := 0) (by decide) (rd_sIf (S := (sI (sI (sI S_22 916 (ad 6) 0) 3 (ad 12) 0) 4 (ad 12) 0)) (g := 5) (a := (ad 12)) (v := 0) (by decide) (rd_sIf (S := (sI (sI S_22 916 (ad 6) 0) 3 (ad 12) 0)) (g := 4) (a := (ad 12)) (v := 0) (by decide) (rd_sI (S := (sI S_22 916 (ad 6) 0)) (g := 3) (a := (ad 12)) (v := 0))))))
  have hv_56 : hI S_46 4 (ad 12) = 0 := by rw [eS_47]; exact (rxI_rI (S := (sI (sI (sI (sI (sI S_22 916 (ad 6) 0) 3 (ad 12) 0) 4 (ad 12) 0) 5 (ad 12) 0) 2 (ad 12) 0)) (rd_sIf (S := (sI (sI (sI (sI S_22 916 (ad 6) 0) 3 (ad 12) 0) 4 (ad 12) 0) 5 (ad 12) 0)) (g := 2) (a := (ad 12)) (v := 0) (by decide) (rd_sIf (S := (sI (sI (sI S_22 916 (ad 6) 0) 3 (ad 12) 0) 4 (ad 12) 0)) (g := 5) (a := (ad 12)) (v := 0) (by decide) (rd_sI (S := (sI (sI S_22 916 (ad 6) 0) 3 (ad 12) 0)) (g := 4) (a := (ad 12)) (v := 0)))))
  have hv_57 : hI S_46 5 (ad 12) = 0 := by rw [eS_47]; exact (rxI_rI (S := (sI (sI (sI (sI (sI S_22 916 (ad 6) 0) 3 (ad 12) 0) 4 (ad 12) 0) 5 (ad 12) 0) 2 (ad 12) 0)) (rd_sIf (S := (sI (sI (sI (sI S_22 916 (ad 6) 0) 3 (ad 12) 0) 4 (ad 12) 0) 5 (ad 12) 0)) (g := 2) (a := (ad 12)) (v := 0) (by decide) (rd_sI (S := (sI (sI (sI S_22 916 (ad 6) 0) 3 (ad 12) 0) 4 (ad 12) 0)) (g := 5) (a := (ad 12)) (v := 0))))
  have hv_58 : hI S_46 601 (ad 5) = 0 := by rw [eS_47]; exact (rxI_rI (S := (sI (sI (sI (sI (sI S_22 916 (ad 6) 0) 3 (ad 12) 0) 4 (ad 12) 0) 5 (ad 12) 0) 2 (ad 12) 0)) (rd_sIf (S := (sI (sI (sI (sI S_22 916 (ad 6) 0) 3 (ad 12) 0) 4 (ad 12) 0) 5 (ad 12) 0)) (g := 2) (a := (ad 12)) (v := 0) (by decide) (rd_sIf (S := (sI (sI (sI S_22 916 (ad 6) 0) 3 (ad 12) 0) 4 (ad 12) 0)) (g := 5) (a := (ad 12)) (v := 0) (by decide) (rd_sIf (S := (sI (sI S_22 916 (ad 6) 0) 3 (ad 12) 0)) (g := 4) (a := (ad 12)) (v := 0) (by decide) (rd_sIf (S := (sI S_22 916 (ad 6) 0)) (g := 3) (a := (ad 12)) (v := 0) (by decide) (rd_sIf (S := S_22) (g := 916) (a := (ad 6)) (v := 0) (by decide) hv_30))))))
  have hv_59 : hI S_46 602 (ad 5) = 0 := by rw [eS_47]; exact (rxI_rI (S := (sI (sI (sI (sI (sI S_22 916 (ad 6) 0) 3 (ad 12) 0) 4 (ad 12) 0) 5 (ad 12) 0) 2 (ad 12) 0)) (rd_sIf (S := (sI (sI (sI (sI S_22 916 (ad 6) 0) 3 (ad 12) 0) 4 (ad 12) 0) 5 (ad 12) 0)) (g := 2) (a := (ad 12)) (v := 0) (by decide) (rd_sIf (S := (sI (sI (sI S_22 916 (ad 6) 0) 3 (ad 12) 0) 4 (ad 12) 0)) (g := 5) (a := (ad 12)) (v := 0) (by decide) (rd_sIf (S := (sI (sI S_22 916 (ad 6) 0) 3 (ad 12) 0)) (g := 4) (a := (ad 12)) (v := 0) (by decide) (rd_sIf (S := (sI S_22 916 (ad 6) 0)) (g := 3) (a := (ad 12)) (v := 0) (by decide) (rd_sIf (S := S_22) (g := 916) (a := (ad 6)) (v := 0) (by decide) hv_31))))))
  have hv_60 : hI S_46 603 (ad 5) = 0 := by rw [eS_47]; exact (rxI_rI (S := (sI (sI (sI (sI (sI S_22 916 (ad 6) 0) 3 (ad 12) 0) 4 (ad 12) 0) 5 (ad 12) 0) 2 (ad 12) 0)) (rd_sIf (S := (sI (sI (sI (sI S_22 916 (ad 6) 0) 3 (ad 12) 0) 4 (ad 12) 0) 5 (ad 12) 0)) (g := 2) (a := (ad 12)) (v := 0) (by decide) (rd_sIf (S := (sI (sI (sI S_22 916 (ad 6) 0) 3 (ad 12) 0) 4 (ad 12) 0)) (g := 5) (a := (ad 12)) (v := 0) (by decide) (rd_sIf (S := (sI (sI S_22 916 (ad 6) 0) 3 (ad 12) 0)) (g := 4) (a := (ad 12)) (v := 0) (by decide) (rd_sIf (S := (sI S_22 916 (ad 6) 0)) (g := 3) (a := (ad 12)) (v := 0) (by decide) (rd_sIf (S := S_22) (g := 916) (a := (ad 6)) (v := 0) (by decide) hv_32))))))
  have hv_61 : hI S_46 916 (ad 6) = 0 := by rw [eS_47]; exact (rxI_rI (S := (sI (sI (sI (sI (sI S_22 916 (ad 6) 0) 3 (ad 12) 0) 4 (ad 12) 0) 5 (ad 12) 0) 2 (ad 12) 0)) (rd_sIf (S := (sI (sI (sI (sI S_22 916 (ad 6) 0) 3 (ad 12) 0) 4 (ad 12) 0) 5 (ad 12) 0)) (g := 2) (a := (ad 12)) (v := 0) (by decide) (rd_sIf (S := (sI (sI (sI S_22 916 (ad 6) 0) 3 (ad 12) 0) 4 (ad 12) 0)) (g := 5) (a := (ad 12)) (v := 0) (by decide) (rd_sIf (S := (sI (sI S_22 916 (ad 6) 0) 3 (ad 12) 0)) (g := 4) (a := (ad 12)) (v := 0) (by decide) (rd_sIf (S := (sI S_22 916 (ad 6) 0)) (g := 3) (a := (ad 12)) (v := 0) (by decide) (rd_sI (S := S_22) (g := 916) (a := (ad 6)) (v := 0)))))))
  have hf_62 : Fm (fun f9 b9 => (f9 = 1105 ∧ b9 = (ad 0)) ∨ (f9 = 1109 ∧ b9 = (ad 0)) ∨ (f9 = 1110 ∧ b9 = (ad 0)) ∨ (f9 = 1111 ∧ b9 = (ad 0)) ∨ b9 = (ad 12) ∨ b9 = (ad 24) ∨ b9 = (ad 26) ∨ b9 = (ad 27) ∨ b9 = (ad 28) ∨ b9 = (ad 30) ∨ b9 = (ad 35) ∨ b9 = (ad 15) ∨ b9 = (ad 6) ∨ b9 = (ad 5)) (fun f9 b9 => (f9 = 10 ∧ b9 = (ad 12)) ∨ (f9 = 913 ∧ b9 = (ad 6)) ∨ (f9 = 500 ∧ b9 = (ad 35))) (fun b9 => b9 = (ad 25) ∨ b9 = (ad 14) ∨ b9 = (ad 13) ∨ b9 = (ad 7) ∨ b9 = (ad 8) ∨ b9 = (ad 9) ∨ b9 = (ad 11) ∨ b9 = (ad 29) ∨ b9 = (ad 31) ∨ b9 = (ad 32) ∨ b9 = (ad 33) ∨ b9 = (ad 36) ∨ b9 = (ad 19)) S S_46 := by rw [eS_47]; exact hf_48
  have hz_63 : ∀ j, aI S_46 (ad 17) j = 0 := by rw [eS_47]; exact (fun j9 => rd_rIa (S := (sI (sI (sI (sI (sI S_22 916 (ad 6) 0) 3 (ad 12) 0) 4 (ad 12) 0) 5 (ad 12) 0) 2 (ad 12) 0)) (wn (S := S_22) hW_37 (i := 17) (j := 13) (by decide) (by decide) (by decide)) (hz_34 j9))
  have hz_64 : ∀ j, aI S_46 (ad 21) j = 0 := by rw [eS_47]; exact (fun j9 => rd_rIa (S := (sI (sI (sI (sI (sI S_22 916 (ad 6) 0) 3 (ad 12) 0) 4 (ad 12) 0) 5 (ad 12) 0) 2 (ad 12) 0)) (wn (S := S_22) hW_37 (i := 21) (j := 13) (by decide) (by decide) (by decide)) (hz_35 j9))
  have hz_65 : ∀ j, aI S_46 (ad 23) j = 0 := by rw [eS_47]; exact (fun j9 => rd_rIa (S := (sI (sI (sI (sI (sI S_22 916 (ad 6) 0) 3 (ad 12) 0) 4 (ad 12) 0) 5 (ad 12) 0) 2 (ad 12) 0)) (wn (S := S_22) hW_37 (i := 23) (j := 13) (by decide) (by decide) (by decide)) (hz_36 j9))
  have hW_66 : Wd ad S_46 := by rw [eS_47]; exact (Wd.rI (Wd.sI (Wd.sI (Wd.sI (Wd.sI (Wd.sI hW_37))))))
  have hx_67 : STR (aI S_46 (ad 2)) B n := by rw [eS_47]; exact (by rw [show aI (rI (sI (sI (sI (sI (sI S_22 916 (ad 6) 0) 3 (ad 12) 0) 4 (ad 12) 0) 5 (ad 12) 0) 2 (ad 12) 0) (ad 13) (fillN (aI (sI (sI (sI (sI (sI S_22 916 (ad 6) 0) 3 (ad 12) 0) 4 (ad 12) 0) 5 (ad 12) 0) 2 (ad 12) 0) (ad 13)) 20000 0)) (ad 2) = aI S_22 (ad 2) from ((ar_rI (S := (sI (sI (sI (sI (sI S_22 916 (ad 6) 0) 3 (ad 12) 0) 4 (ad 12) 0) 5 (ad 12) 0) 2 (ad 12) 0)) (wn (S := S_22) hW_37 (i := 2) (j := 13) (by decide) (by decide) (by decide))).trans ((arI_sI (S := (sI (sI (sI (sI S_22 916 (ad 6) 0) 3 (ad 12) 0) 4 (ad 12) 0) 5 (ad 12) 0))).trans ((arI_sI (S := (sI (sI (sI S_22 916 (ad 6) 0) 3 (ad 12) 0) 4 (ad 12) 0))).trans ((arI_sI (S := (sI (sI S_22 916 (ad 6) 0) 3 (ad 12) 0))).trans ((arI_sI (S := (sI S_22 916 (ad 6) 0))).trans (arI_sI (S := S_22)))))))]; exact hx_38)
  have hx_68 : aI S_46 (ad 3) 0 = 0 := by rw [eS_47]; exact (by rw [show aI (rI (sI (sI (sI (sI (sI S_22 916 (ad 6) 0) 3 (ad 12) 0) 4 (ad 12) 0) 5 (ad 12) 0) 2 (ad 12) 0) (ad 13) (fillN (aI (sI (sI (sI (sI (sI S_22 916 (ad 6) 0) 3 (ad 12) 0) 4 (ad 12) 0) 5 (ad 12) 0) 2 (ad 12) 0) (ad 13)) 20000 0)) (ad 3) = aI S_22 (ad 3) from ((ar_rI (S := (sI (sI (sI (sI (sI S_22 916 (ad 6) 0) 3 (ad 12) 0) 4 (ad 12) 0) 5 (ad 12) 0) 2 (ad 12) 0)) (wn (S := S_22) hW_37 (i := 3) (j := 13) (by decide) (by decide) (by decide))).trans ((arI_sI (S := (sI (sI (sI (sI S_22 916 (ad 6) 0) 3 (ad 12) 0) 4 (ad 12) 0) 5 (ad 12) 0))).trans ((arI_sI (S := (sI (sI (sI S_22 916 (ad 6) 0) 3 (ad 12) 0) 4 (ad 12) 0))).trans ((arI_sI (S := (sI (sI S_22 916 (ad 6) 0) 3 (ad 12) 0))).trans ((arI_sI (S := (sI S_22 916 (ad 6) 0))).trans (arI_sI (S := S_22)))))))]; exact hx_39)
  have hx_69 : aI S_46 (ad 4) 0 = 0 := by rw [eS_47]; exact (by rw [show aI (rI (sI (sI (sI (sI (sI S_22 916 (ad 6) 0) 3 (ad 12) 0) 4 (ad 12) 0) 5 (ad 12) 0) 2 (ad 12) 0) (ad 13) (fillN (aI (sI (sI (sI (sI (sI S_22 916 (ad 6) 0) 3 (ad 12) 0) 4 (ad 12) 0) 5 (ad 12) 0) 2 (ad 12) 0) (ad 13)) 20000 0)) (ad 4) = aI S_22 (ad 4) from ((ar_rI (S := (sI (sI (sI (sI (sI S_22 916 (ad 6) 0) 3 (ad 12) 0) 4 (ad 12) 0) 5 (ad 12) 0) 2 (ad 12) 0)) (wn (S := S_22) hW_37 (i := 4) (j := 13) (by decide) (by decide) (by decide))).trans ((arI_sI (S := (sI (sI (sI (sI S_22 916 (ad 6) 0) 3 (ad 12) 0) 4 (ad 12) 0) 5 (ad 12) 0))).trans ((arI_sI (S := (sI (sI (sI S_22 916 (ad 6) 0) 3 (ad 12) 0) 4 (ad 12) 0))).trans ((arI_sI (S := (sI (sI S_22 916 (ad 6) 0) 3 (ad 12) 0))).trans ((arI_sI (S := (sI S_22 916 (ad 6) 0))).trans (arI_sI (S := S_22)))))))]; exact hx_40)
  have hx_70 : aI S_46 (ad 4) 1 = nI n := by rw [eS_47]; exact (by rw [show aI (rI (sI (sI (sI (sI (sI S_22 916 (ad 6) 0) 3 (ad 12) 0) 4 (ad 12) 0) 5 (ad 12) 0) 2 (ad 12) 0) (ad 13) (fillN (aI (sI (sI (sI (sI (sI S_22 916 (ad 6) 0) 3 (ad 12) 0) 4 (ad 12) 0) 5 (ad 12) 0) 2 (ad 12) 0) (ad 13)) 20000 0)) (ad 4) = aI S_22 (ad 4) from ((ar_rI (S := (sI (sI (sI (sI (sI S_22 916 (ad 6) 0) 3 (ad 12) 0) 4 (ad 12) 0) 5 (ad 12) 0) 2 (ad 12) 0)) (wn (S := S_22) hW_37 (i := 4) (j := 13) (by decide) (by decide) (by decide))).trans ((arI_sI (S := (sI (sI (sI (sI S_22 916 (ad 6) 0) 3 (ad 12) 0) 4 (ad 12) 0) 5 (ad 12) 0))).trans ((arI_sI (S := (sI (sI (sI S_22 916 (ad 6) 0) 3 (ad 12) 0) 4 (ad 12) 0))).trans ((arI_sI (S := (sI (sI S_22 916 (ad 6) 0) 3 (ad 12) 0))).trans ((arI_sI (S := (sI S_22 916 (ad 6) 0))).trans (arI_sI (S := S_22)))))))]; exact hx_41)
  refine j_iconst (v := 0) C dX11_print_43 (by decide) ?_
  refine j_istore_n (lv' := [(2, .int 0), (0, .ref (ad 0)), (1, .int (nI b9))]) C dX11_print_44 rfl (by rw [hn9]; decide) rfl ?_
  refine j_iload_n C dX11_print_45 rfl 0 rfl ?_
  show J _ _ _ _ _ 46 _
  refine j_aload_n C dX11_print_46 rfl 1 rfl ?_
  refine j_geti (f := 1105) (v := 1) C flX11_60 dX11_print_47 (wm_0 (S := S_46) hW_66) (wk_0 (S := S_46) hW_66) (by decide) (by decide) rfl hv_49 ?_
  refine j_ic_ge (tgt := 191) C dX11_print_50 (by decide) (fun c9 => absurd c9 (by decide)) (fun c9 => ?_)
  refine j_iload_n C dX11_print_53 rfl 0 rfl ?_
  refine j_bipush (v := 6) C dX11_print_54 (by decide) ?_
  refine j_ic_ge (tgt := 191) C dX11_print_56 (by decide) (fun c9 => absurd c9 (by decide)) (fun c9 => ?_)
  refine j_aload_n C dX11_print_59 rfl 1 rfl ?_
  refine j_geti (f := 1109) (v := 0) C flX11_69 dX11_print_60 (wm_0 (S := S_46) hW_66) (wk_0 (S := S_46) hW_66) (by decide) (by decide) rfl hv_50 ?_
  show J _ _ _ _ _ 63 _
  refine j_if_ne (tgt := 191) C dX11_print_63 (by decide) (fun c9 => absurd c9 (by decide)) (fun c9 => ?_)
  refine j_aload_n C dX11_print_66 rfl 1 rfl ?_
  refine j_getr (f := 1103) (v := (ad 3)) C flX11_16 dX11_print_67 (wm_0 (S := S_46) hW_66) (wk_0 (S := S_46) hW_66) (by decide) rfl (wr_1103_0 (S := S_46) hW_66) ?_
  refine j_iload_n C dX11_print_70 rfl 0 rfl ?_
  refine j_iald (j := 0) (v := 0) C dX11_print_71 (wm_3 (S := S_46) hW_66) (wk_3 (S := S_46) hW_66) (inr_of (n := 6) (wl_3 (S := S_46) hW_66) (vp_lit (by decide))) (by decide) hx_68 ?_
  refine j_if_ne (tgt := 122) C dX11_print_72 (by decide) (fun c9 => absurd c9 (by decide)) (fun c9 => ?_)
  refine j_aload_n C dX11_print_75 rfl 1 rfl ?_
  refine j_getr (f := 1107) (v := (ad 6)) C flX11_42 dX11_print_76 (wm_0 (S := S_46) hW_66) (wk_0 (S := S_46) hW_66) (by decide) rfl (wr_1107_0 (S := S_46) hW_66) ?_
  show J _ _ _ _ _ 79 _
  refine j_aload_n C dX11_print_79 rfl 1 rfl ?_
  refine j_getr (f := 1102) (v := (ad 2)) C flX11_13 dX11_print_80 (wm_0 (S := S_46) hW_66) (wk_0 (S := S_46) hW_66) (by decide) rfl (wr_1102_0 (S := S_46) hW_66) ?_
  refine j_aload_n C dX11_print_83 rfl 1 rfl ?_
  refine j_getr (f := 1104) (v := (ad 4)) C flX11_20 dX11_print_84 (wm_0 (S := S_46) hW_66) (wk_0 (S := S_46) hW_66) (by decide) rfl (wr_1104_0 (S := S_46) hW_66) ?_
  refine j_iload_n C dX11_print_87 rfl 0 rfl ?_
  refine j_iald (j := 0) (v := 0) C dX11_print_88 (wm_4 (S := S_46) hW_66) (wk_4 (S := S_46) hW_66) (inr_of (n := 7) (wl_4 (S := S_46) hW_66) (vp_lit (by decide))) (by decide) hx_69 ?_
  refine j_aload_n C dX11_print_89 rfl 1 rfl ?_
  refine j_getr (f := 1104) (v := (ad 4)) C flX11_20 dX11_print_90 (wm_0 (S := S_46) hW_66) (wk_0 (S := S_46) hW_66) (by decide) rfl (wr_1104_0 (S := S_46) hW_66) ?_
  show J _ _ _ _ _ 93 _
  refine j_iload_n C dX11_print_93 rfl 0 rfl ?_
  refine j_iconst (v := 1) C dX11_print_94 (by decide) ?_
  refine j_iadd (v := 1) C dX11_print_95 (by decide) ?_
  refine j_iald (j := 1) (v := nI n) C dX11_print_96 (wm_4 (S := S_46) hW_66) (wk_4 (S := S_46) hW_66) (inr_of (n := 7) (wl_4 (S := S_46) hW_66) (vp_lit (by decide))) (by decide) hx_70 ?_
  refine j_callV (ci := 9) C [.ref (ad 2), .int 0, .int (nI n)] [] mlX11_78 mcX9_run (c_run0 S_46 ad hW_66 B n hx_67 hv_61 hv_54 hv_55 hv_56 hv_57 hv_60 hv_58 hv_59 hz_63 hz_64 hz_65 bs hb hB hnb hmb hn hz) (wm_6 (S := S_46) hW_66) (wk_6 (S := S_46) hW_66) rfl (M.rm (by decide) (by decide) (Nat.le_of_ble_eq_true rfl) (Nat.le_of_ble_eq_true rfl)) rfl rfl (Nat.le_of_ble_eq_true rfl) dX11_print_97 (fun r_76 S_77 hp_78 => ?_)
  obtain ⟨rfl, hf_79, e_71, e_72, e_73, e_74, e_75⟩ := hp_78
  refine J.eq (st' := []) rfl rfl rfl ?_
  have hz_80 : ∀ j, aI S_77 (ad 17) j = 0 := fun j9 => (hf_79.ai (wm_17 (S := S_46) hW_66) (fun h9 => h9.elim (fun q9 => (wn (S := S_46) hW_66 (i := 17) (j := 25) (by decide) (by decide) (by decide)) q9) (fun h9 => h9.elim (fun q9 => (wn (S := S_46) hW_66 (i := 17) (j := 14) (by decide) (by decide) (by decide)) q9) (fun h9 => h9.elim (fun q9 => (wn (S := S_46) hW_66 (i := 17) (j := 13) (by decide) (by decide) (by decide)) q9) (fun h9 => h9.elim (fun q9 => (wn (S := S_46) hW_66 (i := 17) (j := 7) (by decide) (by decide) (by decide)) q9) (fun h9 => h9.elim (fun q9 => (wn (S := S_46) hW_66 (i := 17) (j := 8) (by decide) (by decide) (by decide)) q9) (fun h9 => h9.elim (fun q9 => (wn (S := S_46) hW_66 (i := 17) (j := 9) (by decide) (by decide) (by decide)) q9) (fun h9 => h9.elim (fun q9 => (wn (S := S_46) hW_66 (i := 17) (j := 11) (by decide) (by decide) (by decide)) q9) (fun h9 => h9.elim (fun q9 => (wn (S := S_46) hW_66 (i := 17) (j := 29) (by decide) (by decide) (by decide)) q9) (fun h9 => h9.elim (fun q9 => (wn (S := S_46) hW_66 (i := 17) (j := 31) (by decide) (by decide) (by decide)) q9) (fun h9 => h9.elim (fun q9 => (wn (S := S_46) hW_66 (i := 17) (j := 32) (by decide) (by decide) (by decide)) q9) (fun h9 => h9.elim (fun q9 => (wn (S := S_46) hW_66 (i := 17) (j := 33) (by decide) (by decide) (by decide)) q9) (fun h9 => h9.elim (fun q9 => (wn (S := S_46) hW_66 (i := 17) (j := 36) (by decide) (by decide) (by decide)) q9) (fun q9 => (wn (S := S_46) hW_66 (i := 17) (j := 19) (by decide) (by decide) (by decide)) q9))))))))))))) j9).trans (hz_63 j9)
  have hz_81 : ∀ j, aI S_77 (ad 21) j = 0 := fun j9 => (hf_79.ai (wm_21 (S := S_46) hW_66) (fun h9 => h9.elim (fun q9 => (wn (S := S_46) hW_66 (i := 21) (j := 25) (by decide) (by decide) (by decide)) q9) (fun h9 => h9.elim (fun q9 => (wn (S := S_46) hW_66 (i := 21) (j := 14) (by decide) (by decide) (by decide)) q9) (fun h9 => h9.elim (fun q9 => (wn (S := S_46) hW_66 (i := 21) (j := 13) (by decide) (by decide) (by decide)) q9) (fun h9 => h9.elim (fun q9 => (wn (S := S_46) hW_66 (i := 21) (j := 7) (by decide) (by decide) (by decide)) q9) (fun h9 => h9.elim (fun q9 => (wn (S := S_46) hW_66 (i := 21) (j := 8) (by decide) (by decide) (by decide)) q9) (fun h9 => h9.elim (fun q9 => (wn (S := S_46) hW_66 (i := 21) (j := 9) (by decide) (by decide) (by decide)) q9) (fun h9 => h9.elim (fun q9 => (wn (S := S_46) hW_66 (i := 21) (j := 11) (by decide) (by decide) (by decide)) q9) (fun h9 => h9.elim (fun q9 => (wn (S := S_46) hW_66 (i := 21) (j := 29) (by decide) (by decide) (by decide)) q9) (fun h9 => h9.elim (fun q9 => (wn (S := S_46) hW_66 (i := 21) (j := 31) (by decide) (by decide) (by decide)) q9) (fun h9 => h9.elim (fun q9 => (wn (S := S_46) hW_66 (i := 21) (j := 32) (by decide) (by decide) (by decide)) q9) (fun h9 => h9.elim (fun q9 => (wn (S := S_46) hW_66 (i := 21) (j := 33) (by decide) (by decide) (by decide)) q9) (fun h9 => h9.elim (fun q9 => (wn (S := S_46) hW_66 (i := 21) (j := 36) (by decide) (by decide) (by decide)) q9) (fun q9 => (wn (S := S_46) hW_66 (i := 21) (j := 19) (by decide) (by decide) (by decide)) q9))))))))))))) j9).trans (hz_64 j9)
  have hz_82 : ∀ j, aI S_77 (ad 23) j = 0 := fun j9 => (hf_79.ai (wm_23 (S := S_46) hW_66) (fun h9 => h9.elim (fun q9 => (wn (S := S_46) hW_66 (i := 23) (j := 25) (by decide) (by decide) (by decide)) q9) (fun h9 => h9.elim (fun q9 => (wn (S := S_46) hW_66 (i := 23) (j := 14) (by decide) (by decide) (by decide)) q9) (fun h9 => h9.elim (fun q9 => (wn (S := S_46) hW_66 (i := 23) (j := 13) (by decide) (by decide) (by decide)) q9) (fun h9 => h9.elim (fun q9 => (wn (S := S_46) hW_66 (i := 23) (j := 7) (by decide) (by decide) (by decide)) q9) (fun h9 => h9.elim (fun q9 => (wn (S := S_46) hW_66 (i := 23) (j := 8) (by decide) (by decide) (by decide)) q9) (fun h9 => h9.elim (fun q9 => (wn (S := S_46) hW_66 (i := 23) (j := 9) (by decide) (by decide) (by decide)) q9) (fun h9 => h9.elim (fun q9 => (wn (S := S_46) hW_66 (i := 23) (j := 11) (by decide) (by decide) (by decide)) q9) (fun h9 => h9.elim (fun q9 => (wn (S := S_46) hW_66 (i := 23) (j := 29) (by decide) (by decide) (by decide)) q9) (fun h9 => h9.elim (fun q9 => (wn (S := S_46) hW_66 (i := 23) (j := 31) (by decide) (by decide) (by decide)) q9) (fun h9 => h9.elim (fun q9 => (wn (S := S_46) hW_66 (i := 23) (j := 32) (by decide) (by decide) (by decide)) q9) (fun h9 => h9.elim (fun q9 => (wn (S := S_46) hW_66 (i := 23) (j := 33) (by decide) (by decide) (by decide)) q9) (fun h9 => h9.elim (fun q9 => (wn (S := S_46) hW_66 (i := 23) (j := 36) (by decide) (by decide) (by decide)) q9) (fun q9 => (wn (S := S_46) hW_66 (i := 23) (j := 19) (by decide) (by decide) (by decide)) q9))))))))))))) j9).trans (hz_65 j9)
  have hv_83 : hI S_77 1105 (ad 0) = 1 := hf_79.fi (wm_0 (S := S_46) hW_66) (fun h9 => h9.elim (fun q9 => (wn (S := S_46) hW_66 (i := 0) (j := 12) (by decide) (by decide) (by decide)) q9) (fun h9 => h9.elim (fun q9 => (wn (S := S_46) hW_66 (i := 0) (j := 24) (by decide) (by decide) (by decide)) q9) (fun h9 => h9.elim (fun q9 => (wn (S := S_46) hW_66 (i := 0) (j := 26) (by decide) (by decide) (by decide)) q9) (fun h9 => h9.elim (fun q9 => (wn (S := S_46) hW_66 (i := 0) (j := 27) (by decide) (by decide) (by decide)) q9) (fun h9 => h9.elim (fun q9 => (wn (S := S_46) hW_66 (i := 0) (j := 28) (by decide) (by decide) (by decide)) q9) (fun h9 => h9.elim (fun q9 => (wn (S := S_46) hW_66 (i := 0) (j := 30) (by decide) (by decide) (by decide)) q9) (fun h9 => h9.elim (fun q9 => (wn (S := S_46) hW_66 (i := 0) (j := 35) (by decide) (by decide) (by decide)) q9) (fun h9 => h9.elim (fun q9 => (wn (S := S_46) hW_66 (i := 0) (j := 15) (by decide) (by decide) (by decide)) q9) (fun h9 => h9.elim (fun q9 => (wn (S := S_46) hW_66 (i := 0) (j := 6) (by decide) (by decide) (by decide)) q9) (fun q9 => (wn (S := S_46) hW_66 (i := 0) (j := 5) (by decide) (by decide) (by decide)) q9)))))))))) hv_49
  have hv_84 : hI S_77 1109 (ad 0) = 0 := hf_79.fi (wm_0 (S := S_46) hW_66) (fun h9 => h9.elim (fun q9 => (wn (S := S_46) hW_66 (i := 0) (j := 12) (by decide) (by decide) (by decide)) q9) (fun h9 => h9.elim (fun q9 => (wn (S := S_46) hW_66 (i := 0) (j := 24) (by decide) (by decide) (by decide)) q9) (fun h9 => h9.elim (fun q9 => (wn (S := S_46) hW_66 (i := 0) (j := 26) (by decide) (by decide) (by decide)) q9) (fun h9 => h9.elim (fun q9 => (wn (S := S_46) hW_66 (i := 0) (j := 27) (by decide) (by decide) (by decide)) q9) (fun h9 => h9.elim (fun q9 => (wn (S := S_46) hW_66 (i := 0) (j := 28) (by decide) (by decide) (by decide)) q9) (fun h9 => h9.elim (fun q9 => (wn (S := S_46) hW_66 (i := 0) (j := 30) (by decide) (by decide) (by decide)) q9) (fun h9 => h9.elim (fun q9 => (wn (S := S_46) hW_66 (i := 0) (j := 35) (by decide) (by decide) (by decide)) q9) (fun h9 => h9.elim (fun q9 => (wn (S := S_46) hW_66 (i := 0) (j := 15) (by decide) (by decide) (by decide)) q9) (fun h9 => h9.elim (fun q9 => (wn (S := S_46) hW_66 (i := 0) (j := 6) (by decide) (by decide) (by decide)) q9) (fun q9 => (wn (S := S_46) hW_66 (i := 0) (j := 5) (by decide) (by decide) (by decide)) q9)))))))))) hv_50
  have hv_85 : hI S_77 1110 (ad 0) = (-1) := hf_79.fi (wm_0 (S := S_46) hW_66) (fun h9 => h9.elim (fun q9 => (wn (S := S_46) hW_66 (i := 0) (j := 12) (by decide) (by decide) (by decide)) q9) (fun h9 => h9.elim (fun q9 => (wn (S := S_46) hW_66 (i := 0) (j := 24) (by decide) (by decide) (by decide)) q9) (fun h9 => h9.elim (fun q9 => (wn (S := S_46) hW_66 (i := 0) (j := 26) (by decide) (by decide) (by decide)) q9) (fun h9 => h9.elim (fun q9 => (wn (S := S_46) hW_66 (i := 0) (j := 27) (by decide) (by decide) (by decide)) q9) (fun h9 => h9.elim (fun q9 => (wn (S := S_46) hW_66 (i := 0) (j := 28) (by decide) (by decide) (by decide)) q9) (fun h9 => h9.elim (fun q9 => (wn (S := S_46) hW_66 (i := 0) (j := 30) (by decide) (by decide) (by decide)) q9) (fun h9 => h9.elim (fun q9 => (wn (S := S_46) hW_66 (i := 0) (j := 35) (by decide) (by decide) (by decide)) q9) (fun h9 => h9.elim (fun q9 => (wn (S := S_46) hW_66 (i := 0) (j := 15) (by decide) (by decide) (by decide)) q9) (fun h9 => h9.elim (fun q9 => (wn (S := S_46) hW_66 (i := 0) (j := 6) (by decide) (by decide) (by decide)) q9) (fun q9 => (wn (S := S_46) hW_66 (i := 0) (j := 5) (by decide) (by decide) (by decide)) q9)))))))))) hv_51
  have hv_86 : hI S_77 1111 (ad 0) = (-1) := hf_79.fi (wm_0 (S := S_46) hW_66) (fun h9 => h9.elim (fun q9 => (wn (S := S_46) hW_66 (i := 0) (j := 12) (by decide) (by decide) (by decide)) q9) (fun h9 => h9.elim (fun q9 => (wn (S := S_46) hW_66 (i := 0) (j := 24) (by decide) (by decide) (by decide)) q9) (fun h9 => h9.elim (fun q9 => (wn (S := S_46) hW_66 (i := 0) (j := 26) (by decide) (by decide) (by decide)) q9) (fun h9 => h9.elim (fun q9 => (wn (S := S_46) hW_66 (i := 0) (j := 27) (by decide) (by decide) (by decide)) q9) (fun h9 => h9.elim (fun q9 => (wn (S := S_46) hW_66 (i := 0) (j := 28) (by decide) (by decide) (by decide)) q9) (fun h9 => h9.elim (fun q9 => (wn (S := S_46) hW_66 (i := 0) (j := 30) (by decide) (by decide) (by decide)) q9) (fun h9 => h9.elim (fun q9 => (wn (S := S_46) hW_66 (i := 0) (j := 35) (by decide) (by decide) (by decide)) q9) (fun h9 => h9.elim (fun q9 => (wn (S := S_46) hW_66 (i := 0) (j := 15) (by decide) (by decide) (by decide)) q9) (fun h9 => h9.elim (fun q9 => (wn (S := S_46) hW_66 (i := 0) (j := 6) (by decide) (by decide) (by decide)) q9) (fun q9 => (wn (S := S_46) hW_66 (i := 0) (j := 5) (by decide) (by decide) (by decide)) q9)))))))))) hv_52
  have hf_87 : Fm (fun f9 b9 => (f9 = 1105 ∧ b9 = (ad 0)) ∨ (f9 = 1109 ∧ b9 = (ad 0)) ∨ (f9 = 1110 ∧ b9 = (ad 0)) ∨ (f9 = 1111 ∧ b9 = (ad 0)) ∨ b9 = (ad 12) ∨ b9 = (ad 24) ∨ b9 = (ad 26) ∨ b9 = (ad 27) ∨ b9 = (ad 28) ∨ b9 = (ad 30) ∨ b9 = (ad 35) ∨ b9 = (ad 15) ∨ b9 = (ad 6) ∨ b9 = (ad 5)) (fun f9 b9 => (f9 = 10 ∧ b9 = (ad 12)) ∨ (f9 = 913 ∧ b9 = (ad 6)) ∨ (f9 = 500 ∧ b9 = (ad 35))) (fun b9 => b9 = (ad 25) ∨ b9 = (ad 14) ∨ b9 = (ad 13) ∨ b9 = (ad 7) ∨ b9 = (ad 8) ∨ b9 = (ad 9) ∨ b9 = (ad 11) ∨ b9 = (ad 29) ∨ b9 = (ad 31) ∨ b9 = (ad 32) ∨ b9 = (ad 33) ∨ b9 = (ad 36) ∨ b9 = (ad 19)) S S_77 := hf_62.then hf_79 (fun a9 ha9 => ⟨(fun f9 h9 => (fun h9 => h9.elim (fun h8 => (Or.inr (Or.inr (Or.inr (Or.inr (Or.inl h8)))))) (fun h9 => h9.elim (fun h8 => (Or.inr (Or.inr (Or.inr (Or.inr (Or.inr (Or.inl h8))))))) (fun h9 => h9.elim (fun h8 => (Or.inr (Or.inr (Or.inr (Or.inr (Or.inr (Or.inr (Or.inl h8)))))))) (fun h9 => h9.elim (fun h8 => (Or.inr (Or.inr (Or.inr (Or.inr (Or.inr (Or.inr (Or.inr (Or.inl h8))))))))) (fun h9 => h9.elim (fun h8 => (Or.inr (Or.inr (Or.inr (Or.inr (Or.inr (Or.inr (Or.inr (Or.inr (Or.inl h8)))))))))) (fun h9 => h9.elim (fun h8 => (Or.inr (Or.inr (Or.inr (Or.inr (Or.inr (Or.inr (Or.inr (Or.inr (Or.inr (Or.inl h8))))))))))) (fun h9 => h9.elim (fun h8 => (Or.inr (Or.inr (Or.inr (Or.inr (Or.inr (Or.inr (Or.inr (Or.inr (Or.inr (Or.inr (Or.inl h8)))))))))))) (fun h9 => h9.elim (fun h8 => (Or.inr (Or.inr (Or.inr (Or.inr (Or.inr (Or.inr (Or.inr (Or.inr (Or.inr (Or.inr (Or.inr (Or.inl h8))))))))))))) (fun h9 => h9.elim (fun h8 => (Or.inr (Or.inr (Or.inr (Or.inr (Or.inr (Or.inr (Or.inr (Or.inr (Or.inr (Or.inr (Or.inr (Or.inr (Or.inl h8)))))))))))))) (fun h8 => (Or.inr (Or.inr (Or.inr (Or.inr (Or.inr (Or.inr (Or.inr (Or.inr (Or.inr (Or.inr (Or.inr (Or.inr (Or.inr h8))))))))))))))))))))))) h9), (fun f9 h9 => (fun h9 => h9.elim (fun h8 => (Or.inl h8)) (fun h9 => h9.elim (fun h8 => (Or.inr (Or.inl h8))) (fun h8 => (Or.inr (Or.inr h8))))) h9), (fun h9 => (fun h9 => h9.elim (fun h8 => (Or.inl h8)) (fun h9 => h9.elim (fun h8 => (Or.inr (Or.inl h8))) (fun h9 => h9.elim (fun h8 => (Or.inr (Or.inr (Or.inl h8)))) (fun h9 => h9.elim (fun h8 => (Or.inr (Or.inr (Or.inr (Or.inl h8))))) (fun h9 => h9.elim (fun h8 => (Or.inr (Or.inr (Or.inr (Or.inr (Or.inl h8)))))) (fun h9 => h9.elim (fun h8 => (Or.inr (Or.inr (Or.inr (Or.inr (Or.inr (Or.inl h8))))))) (fun h9 => h9.elim (fun h8 => (Or.inr (Or.inr (Or.inr (Or.inr (Or.inr (Or.inr (Or.inl h8)))))))) (fun h9 => h9.elim (fun h8 => (Or.inr (Or.inr (Or.inr (Or.inr (Or.inr (Or.inr (Or.inr (Or.inl h8))))))))) (fun h9 => h9.elim (fun h8 => (Or.inr (Or.inr (Or.inr (Or.inr (Or.inr (Or.inr (Or.inr (Or.inr (Or.inl h8)))))))))) (fun h9 => h9.elim (fun h8 => (Or.inr (Or.inr (Or.inr (Or.inr (Or.inr (Or.inr (Or.inr (Or.inr (Or.inr (Or.inl h8))))))))))) (fun h9 => h9.elim (fun h8 => (Or.inr (Or.inr (Or.inr (Or.inr (Or.inr (Or.inr (Or.inr (Or.inr (Or.inr (Or.inr (Or.inl h8)))))))))))) (fun h9 => h9.elim (fun h8 => (Or.inr (Or.inr (Or.inr (Or.inr (Or.inr (Or.inr (Or.inr (Or.inr (Or.inr (Or.inr (Or.inr (Or.inl h8))))))))))))) (fun h8 => (Or.inr (Or.inr (Or.inr (Or.inr (Or.inr (Or.inr (Or.inr (Or.inr (Or.inr (Or.inr (Or.inr (Or.inr h8))))))))))))))))))))))))) h9)⟩)
  have hW_88 : Wd ad S_77 := hW_66.fm hf_79 (by intro p9 hp9 h9; rcases h9 with ⟨e1, e2⟩ | ⟨e1, e2⟩ | ⟨e1, e2⟩ <;> exact wp_dyn p9 hp9 (by rw [e1]; decide)) (by intro p9 hp9; simp only [wqL, List.mem_cons, List.not_mem_nil, or_false] at hp9; rcases hp9 with rfl | rfl <;> intro h9 <;> rcases h9 with h9 | h9 | h9 | h9 | h9 | h9 | h9 | h9 | h9 | h9 | h9 | h9 | h9 <;> exact absurd h9 (wn hW_66 (by decide) (by decide) (by decide)))
  have hx_89 : STR (aI S_77 (ad 2)) B n := by
    have e0_9 : (aI S_77 (ad 2)) = (aI S_46 (ad 2)) := funext fun j9 => hf_79.ai (wm_2 (S := S_46) hW_66) (fun h9 => h9.elim (fun q9 => (wn (S := S_46) hW_66 (i := 2) (j := 25) (by decide) (by decide) (by decide)) q9) (fun h9 => h9.elim (fun q9 => (wn (S := S_46) hW_66 (i := 2) (j := 14) (by decide) (by decide) (by decide)) q9) (fun h9 => h9.elim (fun q9 => (wn (S := S_46) hW_66 (i := 2) (j := 13) (by decide) (by decide) (by decide)) q9) (fun h9 => h9.elim (fun q9 => (wn (S := S_46) hW_66 (i := 2) (j := 7) (by decide) (by decide) (by decide)) q9) (fun h9 => h9.elim (fun q9 => (wn (S := S_46) hW_66 (i := 2) (j := 8) (by decide) (by decide) (by decide)) q9) (fun h9 => h9.elim (fun q9 => (wn (S := S_46) hW_66 (i := 2) (j := 9) (by decide) (by decide) (by decide)) q9) (fun h9 => h9.elim (fun q9 => (wn (S := S_46) hW_66 (i := 2) (j := 11) (by decide) (by decide) (by decide)) q9) (fun h9 => h9.elim (fun q9 => (wn (S := S_46) hW_66 (i := 2) (j := 29) (by decide) (by decide) (by decide)) q9) (fun h9 => h9.elim (fun q9 => (wn (S := S_46) hW_66 (i := 2) (j := 31) (by decide) (by decide) (by decide)) q9) (fun h9 => h9.elim (fun q9 => (wn (S := S_46) hW_66 (i := 2) (j := 32) (by decide) (by decide) (by decide)) q9) (fun h9 => h9.elim (fun q9 => (wn (S := S_46) hW_66 (i := 2) (j := 33) (by decide) (by decide) (by decide)) q9) (fun h9 => h9.elim (fun q9 => (wn (S := S_46) hW_66 (i := 2) (j := 36) (by decide) (by decide) (by decide)) q9) (fun q9 => (wn (S := S_46) hW_66 (i := 2) (j := 19) (by decide) (by decide) (by decide)) q9))))))))))))) j9
    first | (rw [e0_9]; exact hx_67) | rw [e0_9]
  have hx_90 : aI S_77 (ad 3) 0 = 0 := by
    have e0_9 : (aI S_77 (ad 3)) = (aI S_46 (ad 3)) := funext fun j9 => hf_79.ai (wm_3 (S := S_46) hW_66) (fun h9 => h9.elim (fun q9 => (wn (S := S_46) hW_66 (i := 3) (j := 25) (by decide) (by decide) (by decide)) q9) (fun h9 => h9.elim (fun q9 => (wn (S := S_46) hW_66 (i := 3) (j := 14) (by decide) (by decide) (by decide)) q9) (fun h9 => h9.elim (fun q9 => (wn (S := S_46) hW_66 (i := 3) (j := 13) (by decide) (by decide) (by decide)) q9) (fun h9 => h9.elim (fun q9 => (wn (S := S_46) hW_66 (i := 3) (j := 7) (by decide) (by decide) (by decide)) q9) (fun h9 => h9.elim (fun q9 => (wn (S := S_46) hW_66 (i := 3) (j := 8) (by decide) (by decide) (by decide)) q9) (fun h9 => h9.elim (fun q9 => (wn (S := S_46) hW_66 (i := 3) (j := 9) (by decide) (by decide) (by decide)) q9) (fun h9 => h9.elim (fun q9 => (wn (S := S_46) hW_66 (i := 3) (j := 11) (by decide) (by decide) (by decide)) q9) (fun h9 => h9.elim (fun q9 => (wn (S := S_46) hW_66 (i := 3) (j := 29) (by decide) (by decide) (by decide)) q9) (fun h9 => h9.elim (fun q9 => (wn (S := S_46) hW_66 (i := 3) (j := 31) (by decide) (by decide) (by decide)) q9) (fun h9 => h9.elim (fun q9 => (wn (S := S_46) hW_66 (i := 3) (j := 32) (by decide) (by decide) (by decide)) q9) (fun h9 => h9.elim (fun q9 => (wn (S := S_46) hW_66 (i := 3) (j := 33) (by decide) (by decide) (by decide)) q9) (fun h9 => h9.elim (fun q9 => (wn (S := S_46) hW_66 (i := 3) (j := 36) (by decide) (by decide) (by decide)) q9) (fun q9 => (wn (S := S_46) hW_66 (i := 3) (j := 19) (by decide) (by decide) (by decide)) q9))))))))))))) j9
    first | (rw [e0_9]; exact hx_68) | rw [e0_9]
  have hx_91 : aI S_77 (ad 4) 0 = 0 := by
    have e0_9 : (aI S_77 (ad 4)) = (aI S_46 (ad 4)) := funext fun j9 => hf_79.ai (wm_4 (S := S_46) hW_66) (fun h9 => h9.elim (fun q9 => (wn (S := S_46) hW_66 (i := 4) (j := 25) (by decide) (by decide) (by decide)) q9) (fun h9 => h9.elim (fun q9 => (wn (S := S_46) hW_66 (i := 4) (j := 14) (by decide) (by decide) (by decide)) q9) (fun h9 => h9.elim (fun q9 => (wn (S := S_46) hW_66 (i := 4) (j := 13) (by decide) (by decide) (by decide)) q9) (fun h9 => h9.elim (fun q9 => (wn (S := S_46) hW_66 (i := 4) (j := 7) (by decide) (by decide) (by decide)) q9) (fun h9 => h9.elim (fun q9 => (wn (S := S_46) hW_66 (i := 4) (j := 8) (by decide) (by decide) (by decide)) q9) (fun h9 => h9.elim (fun q9 => (wn (S := S_46) hW_66 (i := 4) (j := 9) (by decide) (by decide) (by decide)) q9) (fun h9 => h9.elim (fun q9 => (wn (S := S_46) hW_66 (i := 4) (j := 11) (by decide) (by decide) (by decide)) q9) (fun h9 => h9.elim (fun q9 => (wn (S := S_46) hW_66 (i := 4) (j := 29) (by decide) (by decide) (by decide)) q9) (fun h9 => h9.elim (fun q9 => (wn (S := S_46) hW_66 (i := 4) (j := 31) (by decide) (by decide) (by decide)) q9) (fun h9 => h9.elim (fun q9 => (wn (S := S_46) hW_66 (i := 4) (j := 32) (by decide) (by decide) (by decide)) q9) (fun h9 => h9.elim (fun q9 => (wn (S := S_46) hW_66 (i := 4) (j := 33) (by decide) (by decide) (by decide)) q9) (fun h9 => h9.elim (fun q9 => (wn (S := S_46) hW_66 (i := 4) (j := 36) (by decide) (by decide) (by decide)) q9) (fun q9 => (wn (S := S_46) hW_66 (i := 4) (j := 19) (by decide) (by decide) (by decide)) q9))))))))))))) j9
    first | (rw [e0_9]; exact hx_69) | rw [e0_9]
  have hx_92 : aI S_77 (ad 4) 1 = nI n := by
    have e0_9 : (aI S_77 (ad 4)) = (aI S_46 (ad 4)) := funext fun j9 => hf_79.ai (wm_4 (S := S_46) hW_66) (fun h9 => h9.elim (fun q9 => (wn (S := S_46) hW_66 (i := 4) (j := 25) (by decide) (by decide) (by decide)) q9) (fun h9 => h9.elim (fun q9 => (wn (S := S_46) hW_66 (i := 4) (j := 14) (by decide) (by decide) (by decide)) q9) (fun h9 => h9.elim (fun q9 => (wn (S := S_46) hW_66 (i := 4) (j := 13) (by decide) (by decide) (by decide)) q9) (fun h9 => h9.elim (fun q9 => (wn (S := S_46) hW_66 (i := 4) (j := 7) (by decide) (by decide) (by decide)) q9) (fun h9 => h9.elim (fun q9 => (wn (S := S_46) hW_66 (i := 4) (j := 8) (by decide) (by decide) (by decide)) q9) (fun h9 => h9.elim (fun q9 => (wn (S := S_46) hW_66 (i := 4) (j := 9) (by decide) (by decide) (by decide)) q9) (fun h9 => h9.elim (fun q9 => (wn (S := S_46) hW_66 (i := 4) (j := 11) (by decide) (by decide) (by decide)) q9) (fun h9 => h9.elim (fun q9 => (wn (S := S_46) hW_66 (i := 4) (j := 29) (by decide) (by decide) (by decide)) q9) (fun h9 => h9.elim (fun q9 => (wn (S := S_46) hW_66 (i := 4) (j := 31) (by decide) (by decide) (by decide)) q9) (fun h9 => h9.elim (fun q9 => (wn (S := S_46) hW_66 (i := 4) (j := 32) (by decide) (by decide) (by decide)) q9) (fun h9 => h9.elim (fun q9 => (wn (S := S_46) hW_66 (i := 4) (j := 33) (by decide) (by decide) (by decide)) q9) (fun h9 => h9.elim (fun q9 => (wn (S := S_46) hW_66 (i := 4) (j := 36) (by decide) (by decide) (by decide)) q9) (fun q9 => (wn (S := S_46) hW_66 (i := 4) (j := 19) (by decide) (by decide) (by decide)) q9))))))))))))) j9
    first | (rw [e0_9]; exact hx_70) | rw [e0_9]
  refine j_aload_n C dX11_print_100 rfl 1 rfl ?_
  refine j_aload_n C dX11_print_101 rfl 1 rfl ?_
  refine j_getr (f := 1107) (v := (ad 6)) C flX11_42 dX11_print_102 (wm_0 (S := S_77) hW_88) (wk_0 (S := S_77) hW_88) (by decide) rfl (wr_1107_0 (S := S_77) hW_88) ?_
  show J _ _ _ _ _ 105 _
  refine j_callV (ci := 9) C [] [.ref (ad 0)] mlX11_82 mcX9_isMuch (c_X9_isMuch S_77 ad hW_88 n e_75 (by omega) e_73 e_74) (wm_6 (S := S_77) hW_88) (wk_6 (S := S_77) hW_88) rfl (M.rm (by decide) (by decide) (Nat.le_of_ble_eq_true rfl) (Nat.le_of_ble_eq_true rfl)) rfl rfl (Nat.le_of_ble_eq_true rfl) dX11_print_105 (fun r_93 S_94 hp_95 => ?_)
  obtain ⟨rfl, e_96⟩ := hp_95
  refine J.eq (S' := S_77) (st' := [.int 0, .ref (ad 0)]) (lv' := [(2, .int 0), (0, .ref (ad 0)), (1, .int (nI b9))]) e_96 rfl rfl ?_
  refine j_if_eq (tgt := 115) C dX11_print_108 (by decide) (fun c9 => ?_) (fun c9 => absurd (by decide) c9)
  refine j_iconst (v := 0) C dX11_print_115 (by decide) ?_
  refine j_puti (f := 1109) C flX11_69 (by decide) rfl rfl dX11_print_116 (wm_0 (S := S_77) hW_88) (wk_0 (S := S_77) hW_88) rfl ?_
  refine j_goto (tgt := 169) C dX11_print_119 (by decide) ?_
  refine j_aload_n C dX11_print_169 rfl 1 rfl ?_
  refine j_aload_n C dX11_print_170 rfl 1 rfl ?_
  refine j_geti (f := 1109) (v := 0) C flX11_69 dX11_print_171 (wm_0 (S := S_77) hW_88) (wk_0 (S := S_77) hW_88) (by decide) (by decide) rfl (rd_sI (S := S_77) (g := 1109) (a := (ad 0)) (v := 0)) ?_
  show J _ _ _ _ _ 174 _
  refine j_if_ne (tgt := 181) C dX11_print_174 (by decide) (fun c9 => absurd c9 (by decide)) (fun c9 => ?_)
  refine j_iconst (v := (-1)) C dX11_print_177 (by decide) ?_
  refine j_goto (tgt := 182) C dX11_print_178 (by decide) ?_
  refine j_puti (f := 1110) C flX11_23 (by decide) rfl rfl dX11_print_182 (wm_0 (S := S_77) hW_88) (wk_0 (S := S_77) hW_88) rfl ?_
  refine j_iinc (q := 0) (v := 1) (lv' := [(2, .int 1), (0, .ref (ad 0)), (1, .int (nI b9))]) C dX11_print_185 rfl (by decide) (by rw [hn9]; decide) rfl ?_
  refine j_goto (tgt := 45) C dX11_print_188 (by decide) ?_
  refine j_iload_n C dX11_print_45 rfl 0 rfl ?_
  refine j_aload_n C dX11_print_46 rfl 1 rfl ?_
  show J _ _ _ _ _ 47 _
  refine j_geti (f := 1105) (v := 1) C flX11_60 dX11_print_47 (wm_0 (S := S_77) hW_88) (wk_0 (S := S_77) hW_88) (by decide) (by decide) rfl (rd_sIf (S := (sI S_77 1109 (ad 0) 0)) (g := 1110) (a := (ad 0)) (v := (-1)) (by decide) (rd_sIf (S := S_77) (g := 1109) (a := (ad 0)) (v := 0) (by decide) hv_83)) ?_
  refine j_ic_ge (tgt := 191) C dX11_print_50 (by decide) (fun c9 => ?_) (fun c9 => absurd (by decide) c9)
  refine j_aload_n C dX11_print_191 rfl 1 rfl ?_
  refine j_iconst (v := 0) C dX11_print_192 (by decide) ?_
  refine j_puti (f := 1105) C flX11_60 (by decide) rfl rfl dX11_print_193 (wm_0 (S := S_77) hW_88) (wk_0 (S := S_77) hW_88) rfl ?_
  refine j_aload_n C dX11_print_196 rfl 1 rfl ?_
  refine j_geti (f := 1109) (v := 0) C flX11_69 dX11_print_197 (wm_0 (S := S_77) hW_88) (wk_0 (S := S_77) hW_88) (by decide) (by decide) rfl (rd_sIf (S := (sI (sI S_77 1109 (ad 0) 0) 1110 (ad 0) (-1))) (g := 1105) (a := (ad 0)) (v := 0) (by decide) (rd_sIf (S := (sI S_77 1109 (ad 0) 0)) (g := 1110) (a := (ad 0)) (v := (-1)) (by decide) (rd_sI (S := S_77) (g := 1109) (a := (ad 0)) (v := 0)))) ?_
  refine j_if_ne (tgt := 211) C dX11_print_200 (by decide) (fun c9 => absurd c9 (by decide)) (fun c9 => ?_)
  show J _ _ _ _ _ 203 _
  refine j_aload_n C dX11_print_203 rfl 1 rfl ?_
  refine j_getr (f := 1106) (v := (ad 5)) C flX11_33 dX11_print_204 (wm_0 (S := S_77) hW_88) (wk_0 (S := S_77) hW_88) (by decide) rfl (rxR_sI (S := (sI (sI S_77 1109 (ad 0) 0) 1110 (ad 0) (-1))) (rxR_sI (S := (sI S_77 1109 (ad 0) 0)) (rxR_sI (S := S_77) (wr_1106_0 (S := S_77) hW_88)))) ?_
  refine j_geti (f := 602) (v := 0) C flX11_93 dX11_print_207 (wm_5 (S := S_77) hW_88) (wk_5 (S := S_77) hW_88) (by decide) (by decide) rfl (rd_sIf (S := (sI (sI S_77 1109 (ad 0) 0) 1110 (ad 0) (-1))) (g := 1105) (a := (ad 0)) (v := 0) (by decide) (rd_sIf (S := (sI S_77 1109 (ad 0) 0)) (g := 1110) (a := (ad 0)) (v := (-1)) (by decide) (rd_sIf (S := S_77) (g := 1109) (a := (ad 0)) (v := 0) (by decide) e_71))) ?_
  exact j_iret C M dX11_print_210 (Nat.le_of_ble_eq_true rfl) (Nat.le_of_ble_eq_true rfl) ⟨rfl, (((hf_87.sI _ (fun _ => (Or.inr (Or.inl ⟨rfl, rfl⟩)))).sI _ (fun _ => (Or.inr (Or.inr (Or.inl ⟨rfl, rfl⟩))))).sI _ (fun _ => (Or.inl ⟨rfl, rfl⟩))), (rd_sIf (S := (sI (sI S_77 1109 (ad 0) 0) 1110 (ad 0) (-1))) (g := 1105) (a := (ad 0)) (v := 0) (by decide) (rd_sIf (S := (sI S_77 1109 (ad 0) 0)) (g := 1110) (a := (ad 0)) (v := (-1)) (by decide) (rd_sIf (S := S_77) (g := 1109) (a := (ad 0)) (v := 0) (by decide) e_71))), (rd_sIf (S := (sI (sI S_77 1109 (ad 0) 0) 1110 (ad 0) (-1))) (g := 1105) (a := (ad 0)) (v := 0) (by decide) (rd_sIf (S := (sI S_77 1109 (ad 0) 0)) (g := 1110) (a := (ad 0)) (v := (-1)) (by decide) (rd_sIf (S := S_77) (g := 1109) (a := (ad 0)) (v := 0) (by decide) e_72)))⟩

theorem dX6_hasPage_0 : decode cX6_hasPage 0 = .ok (.iload_n 1, 1) := by decide +kernel
theorem dX6_hasPage_1 : decode cX6_hasPage 1 = .ok (.ifCond .lt 21, 3) := by decide +kernel
theorem dX6_hasPage_4 : decode cX6_hasPage 4 = .ok (.iload_n 1, 1) := by decide +kernel
theorem dX6_hasPage_5 : decode cX6_hasPage 5 = .ok (.aload_n 0, 1) := by decide +kernel
theorem dX6_hasPage_6 : decode cX6_hasPage 6 = .ok (.getfield 32, 3) := by decide +kernel
theorem dX6_hasPage_9 : decode cX6_hasPage 9 = .ok (.if_icmp .ge 13, 3) := by decide +kernel
theorem dX6_hasPage_12 : decode cX6_hasPage 12 = .ok (.iload_n 1, 1) := by decide +kernel
theorem dX6_hasPage_13 : decode cX6_hasPage 13 = .ok (.bipush 12, 2) := by decide +kernel
theorem dX6_hasPage_15 : decode cX6_hasPage 15 = .ok (.if_icmp .ge 7, 3) := by decide +kernel
theorem dX6_hasPage_18 : decode cX6_hasPage 18 = .ok (.iconst 1, 1) := by decide +kernel
theorem dX6_hasPage_19 : decode cX6_hasPage 19 = .ok (.goto 4, 3) := by decide +kernel
theorem dX6_hasPage_22 : decode cX6_hasPage 22 = .ok (.iconst 0, 1) := by decide +kernel
theorem dX6_hasPage_23 : decode cX6_hasPage 23 = .ok (.ireturn, 1) := by decide +kernel

set_option maxRecDepth 100000 in
set_option maxHeartbeats 4000000 in
theorem c_X6_hasPage (S : Hp) (ad : Nat → Nat) (hW : Wd ad S) (hI_602_ad5 : hI S 602 (ad 5) = 1) : Ct 1 yX6_hasPage cX6_hasPage 2 (some .boolean) 0 0 [.ref (ad 5), .int 0] S (fun r S' => r = some (.int 1) ∧ S' = S) := by
  refine ct_of (by decide) (Nat.le_of_ble_eq_true rfl) fun x hn9 C M hm9 => ?_
  have C : CB x RX6 cX6_hasPage := C
  refine J.eq (lv' := [(0, .ref (ad 5)), (1, .int 0)]) rfl rfl rfl ?_
  refine j_iload_n C dX6_hasPage_0 rfl 1 rfl ?_
  refine j_if_lt (tgt := 22) C dX6_hasPage_1 (by decide) (fun c9 => absurd c9 (by decide)) (fun c9 => ?_)
  refine j_iload_n C dX6_hasPage_4 rfl 1 rfl ?_
  refine j_aload_n C dX6_hasPage_5 rfl 0 rfl ?_
  refine j_geti (f := 602) (v := 1) C flX6_32 dX6_hasPage_6 (wm_5 (S := S) hW) (wk_5 (S := S) hW) (by decide) (by decide) rfl hI_602_ad5 ?_
  refine j_ic_ge (tgt := 22) C dX6_hasPage_9 (by decide) (fun c9 => absurd c9 (by decide)) (fun c9 => ?_)
  refine j_iload_n C dX6_hasPage_12 rfl 1 rfl ?_
  refine j_bipush (v := 12) C dX6_hasPage_13 (by decide) ?_
  show J _ _ _ _ _ 15 _
  refine j_ic_ge (tgt := 22) C dX6_hasPage_15 (by decide) (fun c9 => absurd c9 (by decide)) (fun c9 => ?_)
  refine j_iconst (v := 1) C dX6_hasPage_18 (by decide) ?_
  refine j_goto (tgt := 23) C dX6_hasPage_19 (by decide) ?_
  exact j_zret C M rfl dX6_hasPage_23 (by decide) (by decide) ⟨rfl, rfl⟩

theorem dX6_hasRow_0 : decode cX6_hasRow 0 = .ok (.aload_n 0, 1) := by decide +kernel
theorem dX6_hasRow_1 : decode cX6_hasRow 1 = .ok (.iload_n 1, 1) := by decide +kernel
theorem dX6_hasRow_2 : decode cX6_hasRow 2 = .ok (.invokevirtual 39, 3) := by decide +kernel
theorem dX6_hasRow_5 : decode cX6_hasRow 5 = .ok (.ifCond .eq 21, 3) := by decide +kernel
theorem dX6_hasRow_8 : decode cX6_hasRow 8 = .ok (.iload_n 2, 1) := by decide +kernel
theorem dX6_hasRow_9 : decode cX6_hasRow 9 = .ok (.ifCond .lt 17, 3) := by decide +kernel
theorem dX6_hasRow_12 : decode cX6_hasRow 12 = .ok (.iload_n 2, 1) := by decide +kernel
theorem dX6_hasRow_13 : decode cX6_hasRow 13 = .ok (.aload_n 0, 1) := by decide +kernel
theorem dX6_hasRow_14 : decode cX6_hasRow 14 = .ok (.getfield 20, 3) := by decide +kernel
theorem dX6_hasRow_17 : decode cX6_hasRow 17 = .ok (.iload_n 1, 1) := by decide +kernel
theorem dX6_hasRow_18 : decode cX6_hasRow 18 = .ok (.iaload, 1) := by decide +kernel
theorem dX6_hasRow_19 : decode cX6_hasRow 19 = .ok (.if_icmp .ge 7, 3) := by decide +kernel
theorem dX6_hasRow_22 : decode cX6_hasRow 22 = .ok (.iconst 1, 1) := by decide +kernel
theorem dX6_hasRow_23 : decode cX6_hasRow 23 = .ok (.goto 4, 3) := by decide +kernel
theorem dX6_hasRow_26 : decode cX6_hasRow 26 = .ok (.iconst 0, 1) := by decide +kernel
theorem dX6_hasRow_27 : decode cX6_hasRow 27 = .ok (.ireturn, 1) := by decide +kernel

set_option maxRecDepth 100000 in
set_option maxHeartbeats 4000000 in
theorem c_X6_hasRow (S : Hp) (ad : Nat → Nat) (hW : Wd ad S) (py : Nat) (hI_602_ad5 : hI S 602 (ad 5) = 1) (hgh : aI S (ad 9) 0 = 240) (hy : py < 64) : Ct 2 yX6_hasRow cX6_hasRow 3 (some .boolean) 0 0 [.ref (ad 5), .int 0, .int (nI py)] S (fun r S' => r = some (.int 1) ∧ S' = S) := by
  refine ct_of (by decide) (Nat.le_of_ble_eq_true rfl) fun x hn9 C M hm9 => ?_
  have C : CB x RX6 cX6_hasRow := C
  refine J.eq (lv' := [(0, .ref (ad 5)), (1, .int 0), (2, .int (nI py))]) rfl rfl rfl ?_
  refine j_aload_n C dX6_hasRow_0 rfl 0 rfl ?_
  refine j_iload_n C dX6_hasRow_1 rfl 1 rfl ?_
  refine j_callV (ci := 6) C [.int 0] [] mlX6_39 mcX6_hasPage (c_X6_hasPage S ad hW hI_602_ad5) (wm_5 (S := S) hW) (wk_5 (S := S) hW) rfl (M.rm (by decide) (by decide) (Nat.le_of_ble_eq_true rfl) (Nat.le_of_ble_eq_true rfl)) rfl rfl (Nat.le_of_ble_eq_true rfl) dX6_hasRow_2 (fun r_1 S_2 hp_3 => ?_)
  obtain ⟨rfl, e_4⟩ := hp_3
  refine J.eq (S' := S) (st' := [.int 1]) (lv' := [(0, .ref (ad 5)), (1, .int 0), (2, .int (nI py))]) e_4 rfl rfl ?_
  refine j_if_eq (tgt := 26) C dX6_hasRow_5 (by decide) (fun c9 => absurd c9 (by decide)) (fun c9 => ?_)
  refine j_iload_n C dX6_hasRow_8 rfl 2 rfl ?_
  refine j_if_lt (tgt := 26) C dX6_hasRow_9 (by decide) (fun c_9 => absurd c_9 (nI_pos (by omega))) (fun c_9 => ?_)
  refine j_iload_n C dX6_hasRow_12 rfl 2 rfl ?_
  refine j_aload_n C dX6_hasRow_13 rfl 0 rfl ?_
  show J _ _ _ _ _ 14 _
  refine j_getr (f := 605) (v := (ad 9)) C flX6_20 dX6_hasRow_14 (wm_5 (S := S) hW) (wk_5 (S := S) hW) (by decide) rfl (wr_605_5 (S := S) hW) ?_
  refine j_iload_n C dX6_hasRow_17 rfl 1 rfl ?_
  refine j_iald (j := 0) (v := 240) C dX6_hasRow_18 (wm_9 (S := S) hW) (wk_9 (S := S) hW) (inr_of (n := 12) (wl_9 (S := S) hW) (vp_lit (by decide))) (by decide) hgh ?_
  refine j_ic_ge (tgt := 26) C dX6_hasRow_19 (by decide) (fun c_19 => absurd c_19 (nI_ge (b := 240) (by omega) (by decide))) (fun c_19 => ?_)
  refine j_iconst (v := 1) C dX6_hasRow_22 (by decide) ?_
  refine j_goto (tgt := 27) C dX6_hasRow_23 (by decide) ?_
  exact j_zret C M rfl dX6_hasRow_27 (Nat.le_of_ble_eq_true rfl) (Nat.le_of_ble_eq_true rfl) ⟨rfl, rfl⟩

theorem dX11_dot_0 : decode cX11_dot 0 = .ok (.aload_n 0, 1) := by decide +kernel
theorem dX11_dot_1 : decode cX11_dot 1 = .ok (.getfield 33, 3) := by decide +kernel
theorem dX11_dot_4 : decode cX11_dot 4 = .ok (.iload_n 1, 1) := by decide +kernel
theorem dX11_dot_5 : decode cX11_dot 5 = .ok (.iload_n 3, 1) := by decide +kernel
theorem dX11_dot_6 : decode cX11_dot 6 = .ok (.invokevirtual 123, 3) := by decide +kernel
theorem dX11_dot_9 : decode cX11_dot 9 = .ok (.ifCond .eq 20, 3) := by decide +kernel
theorem dX11_dot_12 : decode cX11_dot 12 = .ok (.iload_n 2, 1) := by decide +kernel
theorem dX11_dot_13 : decode cX11_dot 13 = .ok (.ifCond .lt 16, 3) := by decide +kernel
theorem dX11_dot_16 : decode cX11_dot 16 = .ok (.iload_n 2, 1) := by decide +kernel
theorem dX11_dot_17 : decode cX11_dot 17 = .ok (.aload_n 0, 1) := by decide +kernel
theorem dX11_dot_18 : decode cX11_dot 18 = .ok (.getfield 33, 3) := by decide +kernel
theorem dX11_dot_21 : decode cX11_dot 21 = .ok (.getfield 117, 3) := by decide +kernel
theorem dX11_dot_24 : decode cX11_dot 24 = .ok (.iload_n 1, 1) := by decide +kernel
theorem dX11_dot_25 : decode cX11_dot 25 = .ok (.iaload, 1) := by decide +kernel
theorem dX11_dot_26 : decode cX11_dot 26 = .ok (.if_icmp .lt 5, 3) := by decide +kernel
theorem dX11_dot_29 : decode cX11_dot 29 = .ok (.iconst (-1), 1) := by decide +kernel
theorem dX11_dot_30 : decode cX11_dot 30 = .ok (.ireturn, 1) := by decide +kernel
theorem dX11_dot_31 : decode cX11_dot 31 = .ok (.aload_n 0, 1) := by decide +kernel
theorem dX11_dot_32 : decode cX11_dot 32 = .ok (.getfield 33, 3) := by decide +kernel
theorem dX11_dot_35 : decode cX11_dot 35 = .ok (.getfield 127, 3) := by decide +kernel
theorem dX11_dot_38 : decode cX11_dot 38 = .ok (.iload_n 1, 1) := by decide +kernel
theorem dX11_dot_39 : decode cX11_dot 39 = .ok (.aaload, 1) := by decide +kernel
theorem dX11_dot_40 : decode cX11_dot 40 = .ok (.iload_n 3, 1) := by decide +kernel
theorem dX11_dot_41 : decode cX11_dot 41 = .ok (.bipush 20, 2) := by decide +kernel
theorem dX11_dot_43 : decode cX11_dot 43 = .ok (.imul, 1) := by decide +kernel
theorem dX11_dot_44 : decode cX11_dot 44 = .ok (.iload_n 2, 1) := by decide +kernel
theorem dX11_dot_45 : decode cX11_dot 45 = .ok (.invokestatic 131, 3) := by decide +kernel
theorem dX11_dot_48 : decode cX11_dot 48 = .ok (.ireturn, 1) := by decide +kernel

set_option maxRecDepth 100000 in
set_option maxHeartbeats 4000000 in
theorem c_X11_dot (S : Hp) (ad : Nat → Nat) (hW : Wd ad S) (px : Nat) (py : Nat) (P : Nat → Nat → Bool) (hI_602_ad5 : hI S 602 (ad 5) = 1) (hgw : aI S (ad 8) 0 = 200) (hgh : aI S (ad 9) 0 = 240) (hpg : PGP (aI S (ad 11)) P) (hx : px < 64) (hy : py < 64) : Ct 3 yX11_dot cX11_dot 4 (some .int) 0 0 [.ref (ad 0), .int 0, .int (nI px), .int (nI py)] S (fun r S' => r = some (.int (cI (P px py))) ∧ S' = S) := by
  refine ct_of (by decide) (Nat.le_of_ble_eq_true rfl) fun x hn9 C M hm9 => ?_
  have C : CB x RX11 cX11_dot := C
  refine J.eq (lv' := [(0, .ref (ad 0)), (1, .int 0), (2, .int (nI px)), (3, .int (nI py))]) rfl rfl rfl ?_
  refine j_aload_n C dX11_dot_0 rfl 0 rfl ?_
  refine j_getr (f := 1106) (v := (ad 5)) C flX11_33 dX11_dot_1 (wm_0 (S := S) hW) (wk_0 (S := S) hW) (by decide) rfl (wr_1106_0 (S := S) hW) ?_
  refine j_iload_n C dX11_dot_4 rfl 1 rfl ?_
  refine j_iload_n C dX11_dot_5 rfl 3 rfl ?_
  refine j_callV (ci := 6) C [.int 0, .int (nI py)] [] mlX11_123 mcX6_hasRow (c_X6_hasRow S ad hW py hI_602_ad5 hgh (by omega)) (wm_5 (S := S) hW) (wk_5 (S := S) hW) rfl (M.rm (by decide) (by decide) (Nat.le_of_ble_eq_true rfl) (Nat.le_of_ble_eq_true rfl)) rfl rfl (Nat.le_of_ble_eq_true rfl) dX11_dot_6 (fun r_1 S_2 hp_3 => ?_)
  obtain ⟨rfl, e_4⟩ := hp_3
  refine J.eq (S' := S) (st' := [.int 1]) (lv' := [(0, .ref (ad 0)), (1, .int 0), (2, .int (nI px)), (3, .int (nI py))]) e_4 rfl rfl ?_
  refine j_if_eq (tgt := 29) C dX11_dot_9 (by decide) (fun c9 => absurd c9 (by decide)) (fun c9 => ?_)
  refine j_iload_n C dX11_dot_12 rfl 2 rfl ?_
  refine j_if_lt (tgt := 29) C dX11_dot_13 (by decide) (fun c_13 => absurd c_13 (nI_pos (by omega))) (fun c_13 => ?_)
  show J _ _ _ _ _ 16 _
  refine j_iload_n C dX11_dot_16 rfl 2 rfl ?_
  refine j_aload_n C dX11_dot_17 rfl 0 rfl ?_
  refine j_getr (f := 1106) (v := (ad 5)) C flX11_33 dX11_dot_18 (wm_0 (S := S) hW) (wk_0 (S := S) hW) (by decide) rfl (wr_1106_0 (S := S) hW) ?_
  refine j_getr (f := 604) (v := (ad 8)) C flX11_117 dX11_dot_21 (wm_5 (S := S) hW) (wk_5 (S := S) hW) (by decide) rfl (wr_604_5 (S := S) hW) ?_
  refine j_iload_n C dX11_dot_24 rfl 1 rfl ?_
  refine j_iald (j := 0) (v := 200) C dX11_dot_25 (wm_8 (S := S) hW) (wk_8 (S := S) hW) (inr_of (n := 12) (wl_8 (S := S) hW) (vp_lit (by decide))) (by decide) hgw ?_
  refine j_ic_lt (tgt := 31) C dX11_dot_26 (by decide) (fun c_26 => ?_) (fun c_26 => absurd (nI_lt (b := 200) (by omega) (by decide)) c_26)
  refine j_aload_n C dX11_dot_31 rfl 0 rfl ?_
  show J _ _ _ _ _ 32 _
  refine j_getr (f := 1106) (v := (ad 5)) C flX11_33 dX11_dot_32 (wm_0 (S := S) hW) (wk_0 (S := S) hW) (by decide) rfl (wr_1106_0 (S := S) hW) ?_
  refine j_getr (f := 606) (v := (ad 10)) C flX11_127 dX11_dot_35 (wm_5 (S := S) hW) (wk_5 (S := S) hW) (by decide) rfl (wr_606_5 (S := S) hW) ?_
  refine j_iload_n C dX11_dot_38 rfl 1 rfl ?_
  refine j_aaldR (j := 0) (v := ad 11) C dX11_dot_39 (wm_10 (S := S) hW) (wk_10 (S := S) hW) (inr_of (n := 13) (wl_10 (S := S) hW) (vp_lit (by decide))) (by decide) (wq_10_0 (S := S) hW) ?_
  refine j_iload_n C dX11_dot_40 rfl 3 rfl ?_
  refine j_bipush (v := 20) C dX11_dot_41 (by decide) ?_
  refine j_imul (v := nI (py * 20)) C dX11_dot_43 (pk_mul py 20) ?_
  refine j_iload_n C dX11_dot_44 rfl 2 rfl ?_
  show J _ _ _ _ _ 45 _
  refine j_callS C [.ref (ad 11), .int (nI (py * 20)), .int (nI px)] [] mlX11_131 mcX11_dotAt (c_X11_dotAt S (ad 11) (py * 20) 16000 (wm_11 (S := S) hW) (wk_11 (S := S) hW) (wl_11 (S := S) hW) px (by omega) (by omega) (by omega)) (M.rm (by decide) (by decide) (Nat.le_of_ble_eq_true rfl) (Nat.le_of_ble_eq_true rfl)) rfl rfl (Nat.le_of_ble_eq_true rfl) dX11_dot_45 (fun r_5 S_6 hp_7 => ?_)
  obtain ⟨rfl, e_8⟩ := hp_7
  refine J.eq (S' := S) (st' := [.int (cI (dotW (aI S (ad 11)) (py * 20) px))]) (lv' := [(0, .ref (ad 0)), (1, .int 0), (2, .int (nI px)), (3, .int (nI py))]) e_8 rfl rfl ?_
  exact j_iret C M dX11_dot_48 (Nat.le_of_ble_eq_true rfl) (Nat.le_of_ble_eq_true rfl) ⟨congrArg (fun z9 => some (Value.int z9)) (congrArg cI (hpg py (by omega) px (by omega))), rfl⟩
