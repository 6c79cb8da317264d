/-- bits that rows up to y take at most -/
def UU (y : Nat) : Nat := if y ≤ 97 then 64 + 4824 * y else 467992 + (y - 97)
theorem UU_le {y : Nat} (h : y ≤ 240) : UU y ≤ 468135 := by unfold UU; split <;> omega
theorem UU_next {D : Nat → Int32} (hD : ∀ y, 96 ≤ y → y < 240 → whi (dotW D (y * 20))) {y t t' : Nat} (hy : y < 240) (h : t ≤ UU y) (h1 : t' ≤ t + 4824) (h2 : whi (dotW D (y * 20)) → whi (abv D y) → t' ≤ t + 1) : t' ≤ UU (y + 1) := by
  have ea : y ≤ 97 → UU y = 64 + 4824 * y := fun q => if_pos q
  have eb : ¬ y ≤ 97 → UU y = 467992 + (y - 97) := fun q => if_neg q
  have ec : y + 1 ≤ 97 → UU (y + 1) = 64 + 4824 * (y + 1) := fun q => if_pos q
  have ed : ¬ y + 1 ≤ 97 → UU (y + 1) = 467992 + (y + 1 - 97) := fun q => if_neg q
  generalize UU y = u at h ea eb
  generalize UU (y + 1) = u' at ec ed ⊢
  rcases Nat.lt_or_ge y 97 with q | q
  · have := ea (by omega)
    have := ec (by omega)
    omega
  · have e : abv D y = dotW D ((y - 1) * 20) := by rw [abv, if_neg (by omega), show (y - 1) * 20 = y * 20 - 20 by omega]
    have h3 := h2 (hD y (by omega) hy) (by rw [e]; exact hD (y - 1) (by omega) (by omega))
    have := ed (by omega)
    rcases Nat.lt_or_ge 97 y with q2 | q2
    · have := eb (by omega)
      omega
    · have := ea (by omega)
      omega

theorem dX6_nextPage_0 : decode cX6_nextPage 0 = .ok (.aload_n 0, 1) := by decide +kernel
theorem dX6_nextPage_1 : decode cX6_nextPage 1 = .ok (.getfield 25, 3) := by decide +kernel
theorem dX6_nextPage_4 : decode cX6_nextPage 4 = .ok (.iconst 0, 1) := by decide +kernel
theorem dX6_nextPage_5 : decode cX6_nextPage 5 = .ok (.aload_n 0, 1) := by decide +kernel
theorem dX6_nextPage_6 : decode cX6_nextPage 6 = .ok (.getfield 32, 3) := by decide +kernel
theorem dX6_nextPage_9 : decode cX6_nextPage 9 = .ok (.bipush 12, 2) := by decide +kernel
theorem dX6_nextPage_11 : decode cX6_nextPage 11 = .ok (.invokestatic 49, 3) := by decide +kernel
theorem dX6_nextPage_14 : decode cX6_nextPage 14 = .ok (.invokestatic 55, 3) := by decide +kernel
theorem dX6_nextPage_17 : decode cX6_nextPage 17 = .ok (.aaload, 1) := by decide +kernel
theorem dX6_nextPage_18 : decode cX6_nextPage 18 = .ok (.areturn, 1) := by decide +kernel

set_option maxRecDepth 100000 in
set_option maxHeartbeats 4000000 in
theorem c_X6_nextPage (S : Hp) (ad : Nat → Nat) (hW : Wd ad S) (hI_602_ad5 : hI S 602 (ad 5) = 0) : Ct 3 yX6_nextPage cX6_nextPage 1 (some (.array .int)) 0 0 [.ref (ad 5)] S (fun r S' => r = some (.ref (ad 11)) ∧ S' = S) := by
  refine ct_of (by decide) (Nat.le_of_ble_eq_true rfl) fun x hn9 C M hm9 => ?_
  have C : CB x RX6 cX6_nextPage := C
  refine J.eq (lv' := [(0, .ref (ad 5))]) rfl rfl rfl ?_
  refine j_aload_n C dX6_nextPage_0 rfl 0 rfl ?_
  refine j_getr (f := 606) (v := (ad 10)) C flX6_25 dX6_nextPage_1 (wm_5 (S := S) hW) (wk_5 (S := S) hW) (by decide) rfl (wr_606_5 (S := S) hW) ?_
  refine j_iconst (v := 0) C dX6_nextPage_4 (by decide) ?_
  refine j_aload_n C dX6_nextPage_5 rfl 0 rfl ?_
  refine j_geti (f := 602) (v := 0) C flX6_32 dX6_nextPage_6 (wm_5 (S := S) hW) (wk_5 (S := S) hW) (by decide) (by decide) rfl hI_602_ad5 ?_
  refine j_bipush (v := 12) C dX6_nextPage_9 (by decide) ?_
  refine j_callS C [.int 0, .int 12] [.int 0, .ref (ad 10)] mlX6_49 mcJ9_min_7cf53 (c_J9_min_7cf53 S 0 12) (M.rm (by decide) (by decide) (Nat.le_of_ble_eq_true rfl) (Nat.le_of_ble_eq_true rfl)) rfl rfl (Nat.le_of_ble_eq_true rfl) dX6_nextPage_11 (fun r_1 S_2 hp_3 => ?_)
  obtain ⟨rfl, e_4⟩ := hp_3
  refine J.eq (S' := S) (st' := .int 0 :: [.int 0, .ref (ad 10)]) (lv' := [(0, .ref (ad 5))]) e_4 rfl (congrArg (fun z9 => Value.int z9 :: [.int 0, .ref (ad 10)]) (by decide)) ?_
  refine J.eq (S' := S) (st' := [.int 0, .int 0, .ref (ad 10)]) (lv' := [(0, .ref (ad 5))]) rfl rfl rfl ?_
  refine j_callS C [.int 0, .int 0] [.ref (ad 10)] mlX6_55 mcJ9_max_7cf53 (c_J9_max_7cf53 S 0 0) (M.rm (by decide) (by decide) (Nat.le_of_ble_eq_true rfl) (Nat.le_of_ble_eq_true rfl)) rfl rfl (Nat.le_of_ble_eq_true rfl) dX6_nextPage_14 (fun r_5 S_6 hp_7 => ?_)
  obtain ⟨rfl, e_8⟩ := hp_7
  refine J.eq (S' := S) (st' := .int 0 :: [.ref (ad 10)]) (lv' := [(0, .ref (ad 5))]) e_8 rfl (congrArg (fun z9 => Value.int z9 :: [.ref (ad 10)]) (by decide)) ?_
  refine J.eq (S' := S) (st' := [.int 0, .ref (ad 10)]) (lv' := [(0, .ref (ad 5))]) rfl rfl rfl ?_
  show J _ _ _ _ _ 17 _
  refine j_aaldR (j := 0) (v := ad 11) C dX6_nextPage_17 (wm_10 (S := S) hW) (wk_10 (S := S) hW) (inr_of (n := 13) (wl_10 (S := S) hW) (vp_lit (by decide))) (by decide) (wq_10_0 (S := S) hW) ?_
  exact j_aret C M (Or.inr ⟨_, rfl⟩) dX6_nextPage_18 (Nat.le_of_ble_eq_true rfl) (Nat.le_of_ble_eq_true rfl) ⟨rfl, rfl⟩

theorem dX6_come_0 : decode cX6_come 0 = .ok (.aload_n 0, 1) := by decide +kernel
theorem dX6_come_1 : decode cX6_come 1 = .ok (.getfield 32, 3) := by decide +kernel
theorem dX6_come_4 : decode cX6_come 4 = .ok (.ifCond .lt 12, 3) := by decide +kernel
theorem dX6_come_7 : decode cX6_come 7 = .ok (.aload_n 0, 1) := by decide +kernel
theorem dX6_come_8 : decode cX6_come 8 = .ok (.getfield 32, 3) := by decide +kernel
theorem dX6_come_11 : decode cX6_come 11 = .ok (.bipush 12, 2) := by decide +kernel
theorem dX6_come_13 : decode cX6_come 13 = .ok (.if_icmp .lt 9, 3) := by decide +kernel
theorem dX6_come_16 : decode cX6_come 16 = .ok (.aload_n 0, 1) := by decide +kernel
theorem dX6_come_17 : decode cX6_come 17 = .ok (.iconst 1, 1) := by decide +kernel
theorem dX6_come_18 : decode cX6_come 18 = .ok (.putfield 35, 3) := by decide +kernel
theorem dX6_come_21 : decode cX6_come 21 = .ok (.return_, 1) := by decide +kernel
theorem dX6_come_22 : decode cX6_come 22 = .ok (.aload_n 0, 1) := by decide +kernel
theorem dX6_come_23 : decode cX6_come 23 = .ok (.getfield 32, 3) := by decide +kernel
theorem dX6_come_26 : decode cX6_come 26 = .ok (.ifCond .ne 24, 3) := by decide +kernel
theorem dX6_come_29 : decode cX6_come 29 = .ok (.aload_n 0, 1) := by decide +kernel
theorem dX6_come_30 : decode cX6_come 30 = .ok (.ldc 58, 2) := by decide +kernel
theorem dX6_come_32 : decode cX6_come 32 = .ok (.iconst 4, 1) := by decide +kernel
theorem dX6_come_33 : decode cX6_come 33 = .ok (.invokevirtual 59, 3) := by decide +kernel
theorem dX6_come_36 : decode cX6_come 36 = .ok (.aload_n 0, 1) := by decide +kernel
theorem dX6_come_37 : decode cX6_come 37 = .ok (.aload_n 0, 1) := by decide +kernel
theorem dX6_come_38 : decode cX6_come 38 = .ok (.getfield 28, 3) := by decide +kernel
theorem dX6_come_41 : decode cX6_come 41 = .ok (.putfield 63, 3) := by decide +kernel
theorem dX6_come_44 : decode cX6_come 44 = .ok (.aload_n 0, 1) := by decide +kernel
theorem dX6_come_45 : decode cX6_come 45 = .ok (.iconst 0, 1) := by decide +kernel
theorem dX6_come_46 : decode cX6_come 46 = .ok (.iconst 4, 1) := by decide +kernel
theorem dX6_come_47 : decode cX6_come 47 = .ok (.invokevirtual 59, 3) := by decide +kernel
theorem dX6_come_50 : decode cX6_come 50 = .ok (.aload_n 0, 1) := by decide +kernel
theorem dX6_come_51 : decode cX6_come 51 = .ok (.getfield 28, 3) := by decide +kernel
theorem dX6_come_54 : decode cX6_come 54 = .ok (.istore_n 3, 1) := by decide +kernel
theorem dX6_come_55 : decode cX6_come 55 = .ok (.aload_n 0, 1) := by decide +kernel
theorem dX6_come_56 : decode cX6_come 56 = .ok (.iconst 0, 1) := by decide +kernel
theorem dX6_come_57 : decode cX6_come 57 = .ok (.putfield 66, 3) := by decide +kernel
theorem dX6_come_60 : decode cX6_come 60 = .ok (.aload_n 0, 1) := by decide +kernel
theorem dX6_come_61 : decode cX6_come 61 = .ok (.iconst 0, 1) := by decide +kernel
theorem dX6_come_62 : decode cX6_come 62 = .ok (.putfield 69, 3) := by decide +kernel
theorem dX6_come_65 : decode cX6_come 65 = .ok (.aload_n 0, 1) := by decide +kernel
theorem dX6_come_66 : decode cX6_come 66 = .ok (.invokevirtual 72, 3) := by decide +kernel
theorem dX6_come_69 : decode cX6_come 69 = .ok (.astore 4, 2) := by decide +kernel
theorem dX6_come_71 : decode cX6_come 71 = .ok (.iconst 0, 1) := by decide +kernel
theorem dX6_come_72 : decode cX6_come 72 = .ok (.istore 5, 2) := by decide +kernel
theorem dX6_come_74 : decode cX6_come 74 = .ok (.iload 5, 2) := by decide +kernel
theorem dX6_come_76 : decode cX6_come 76 = .ok (.iload_n 2, 1) := by decide +kernel
theorem dX6_come_77 : decode cX6_come 77 = .ok (.if_icmp .ge 25, 3) := by decide +kernel
theorem dX6_come_80 : decode cX6_come 80 = .ok (.aload_n 0, 1) := by decide +kernel
theorem dX6_come_81 : decode cX6_come 81 = .ok (.getfield 35, 3) := by decide +kernel
theorem dX6_come_84 : decode cX6_come 84 = .ok (.ifCond .ne 18, 3) := by decide +kernel
theorem dX6_come_87 : decode cX6_come 87 = .ok (.aload_n 0, 1) := by decide +kernel
theorem dX6_come_88 : decode cX6_come 88 = .ok (.aload 4, 2) := by decide +kernel
theorem dX6_come_90 : decode cX6_come 90 = .ok (.iload 5, 2) := by decide +kernel
theorem dX6_come_92 : decode cX6_come 92 = .ok (.iload_n 1, 1) := by decide +kernel
theorem dX6_come_93 : decode cX6_come 93 = .ok (.invokevirtual 76, 3) := by decide +kernel
theorem dX6_come_96 : decode cX6_come 96 = .ok (.iinc 5 1, 3) := by decide +kernel
theorem dX6_come_99 : decode cX6_come 99 = .ok (.goto (-25), 3) := by decide +kernel
theorem dX6_come_102 : decode cX6_come 102 = .ok (.aload_n 0, 1) := by decide +kernel
theorem dX6_come_103 : decode cX6_come 103 = .ok (.iconst 1, 1) := by decide +kernel
theorem dX6_come_104 : decode cX6_come 104 = .ok (.bipush 12, 2) := by decide +kernel
theorem dX6_come_106 : decode cX6_come 106 = .ok (.invokevirtual 80, 3) := by decide +kernel
theorem dX6_come_109 : decode cX6_come 109 = .ok (.aload_n 0, 1) := by decide +kernel
theorem dX6_come_110 : decode cX6_come 110 = .ok (.iconst 1, 1) := by decide +kernel
theorem dX6_come_111 : decode cX6_come 111 = .ok (.bipush 12, 2) := by decide +kernel
theorem dX6_come_113 : decode cX6_come 113 = .ok (.invokevirtual 80, 3) := by decide +kernel
theorem dX6_come_116 : decode cX6_come 116 = .ok (.aload_n 0, 1) := by decide +kernel
theorem dX6_come_117 : decode cX6_come 117 = .ok (.iconst 0, 1) := by decide +kernel
theorem dX6_come_118 : decode cX6_come 118 = .ok (.bipush 8, 2) := by decide +kernel
theorem dX6_come_120 : decode cX6_come 120 = .ok (.aload_n 0, 1) := by decide +kernel
theorem dX6_come_121 : decode cX6_come 121 = .ok (.getfield 69, 3) := by decide +kernel
theorem dX6_come_124 : decode cX6_come 124 = .ok (.isub, 1) := by decide +kernel
theorem dX6_come_125 : decode cX6_come 125 = .ok (.bipush 7, 2) := by decide +kernel
theorem dX6_come_127 : decode cX6_come 127 = .ok (.iand, 1) := by decide +kernel
theorem dX6_come_128 : decode cX6_come 128 = .ok (.invokevirtual 80, 3) := by decide +kernel
theorem dX6_come_131 : decode cX6_come 131 = .ok (.aload_n 0, 1) := by decide +kernel
theorem dX6_come_132 : decode cX6_come 132 = .ok (.getfield 28, 3) := by decide +kernel
theorem dX6_come_135 : decode cX6_come 135 = .ok (.iload_n 3, 1) := by decide +kernel
theorem dX6_come_136 : decode cX6_come 136 = .ok (.isub, 1) := by decide +kernel
theorem dX6_come_137 : decode cX6_come 137 = .ok (.istore 5, 2) := by decide +kernel
theorem dX6_come_139 : decode cX6_come 139 = .ok (.iload 5, 2) := by decide +kernel
theorem dX6_come_141 : decode cX6_come 141 = .ok (.iconst 1, 1) := by decide +kernel
theorem dX6_come_142 : decode cX6_come 142 = .ok (.iand, 1) := by decide +kernel
theorem dX6_come_143 : decode cX6_come 143 = .ok (.ifCond .eq 8, 3) := by decide +kernel
theorem dX6_come_146 : decode cX6_come 146 = .ok (.aload_n 0, 1) := by decide +kernel
theorem dX6_come_147 : decode cX6_come 147 = .ok (.iconst 0, 1) := by decide +kernel
theorem dX6_come_148 : decode cX6_come 148 = .ok (.invokevirtual 83, 3) := by decide +kernel
theorem dX6_come_151 : decode cX6_come 151 = .ok (.aload_n 0, 1) := by decide +kernel
theorem dX6_come_152 : decode cX6_come 152 = .ok (.iload_n 1, 1) := by decide +kernel
theorem dX6_come_153 : decode cX6_come 153 = .ok (.iload_n 2, 1) := by decide +kernel
theorem dX6_come_154 : decode cX6_come 154 = .ok (.iload_n 3, 1) := by decide +kernel
theorem dX6_come_155 : decode cX6_come 155 = .ok (.iload 5, 2) := by decide +kernel
theorem dX6_come_157 : decode cX6_come 157 = .ok (.invokevirtual 87, 3) := by decide +kernel
theorem dX6_come_160 : decode cX6_come 160 = .ok (.aload_n 0, 1) := by decide +kernel
theorem dX6_come_161 : decode cX6_come 161 = .ok (.getfield 16, 3) := by decide +kernel
theorem dX6_come_164 : decode cX6_come 164 = .ok (.aload_n 0, 1) := by decide +kernel
theorem dX6_come_165 : decode cX6_come 165 = .ok (.getfield 32, 3) := by decide +kernel
theorem dX6_come_168 : decode cX6_come 168 = .ok (.iload_n 1, 1) := by decide +kernel
theorem dX6_come_169 : decode cX6_come 169 = .ok (.iastore, 1) := by decide +kernel
theorem dX6_come_170 : decode cX6_come 170 = .ok (.aload_n 0, 1) := by decide +kernel
theorem dX6_come_171 : decode cX6_come 171 = .ok (.getfield 20, 3) := by decide +kernel
theorem dX6_come_174 : decode cX6_come 174 = .ok (.aload_n 0, 1) := by decide +kernel
theorem dX6_come_175 : decode cX6_come 175 = .ok (.getfield 32, 3) := by decide +kernel
theorem dX6_come_178 : decode cX6_come 178 = .ok (.iload_n 2, 1) := by decide +kernel
theorem dX6_come_179 : decode cX6_come 179 = .ok (.iastore, 1) := by decide +kernel
theorem dX6_come_180 : decode cX6_come 180 = .ok (.aload_n 0, 1) := by decide +kernel
theorem dX6_come_181 : decode cX6_come 181 = .ok (.dup, 1) := by decide +kernel
theorem dX6_come_182 : decode cX6_come 182 = .ok (.getfield 32, 3) := by decide +kernel
theorem dX6_come_185 : decode cX6_come 185 = .ok (.iconst 1, 1) := by decide +kernel
theorem dX6_come_186 : decode cX6_come 186 = .ok (.iadd, 1) := by decide +kernel
theorem dX6_come_187 : decode cX6_come 187 = .ok (.putfield 32, 3) := by decide +kernel
theorem dX6_come_190 : decode cX6_come 190 = .ok (.return_, 1) := by decide +kernel

set_option maxRecDepth 100000 in
set_option maxHeartbeats 4000000 in
theorem c_X6_come (S : Hp) (ad : Nat → Nat) (hW : Wd ad S) (hI_601_ad5 : hI S 601 (ad 5) = 0) (hI_602_ad5 : hI S 602 (ad 5) = 0) (hI_603_ad5 : hI S 603 (ad 5) = 0) (D : Nat → Int32) (hD : aI S (ad 11) = D) (hwh : ∀ y, 96 ≤ y → y < 240 → whi (dotW D (y * 20))) : Ct 6 yX6_come cX6_come 6 none 0 0 [.ref (ad 5), .int 200, .int 240] S (fun r S' => r = none ∧ Fm (fun f9 b9 => (f9 = 601 ∧ b9 = (ad 5)) ∨ (f9 = 602 ∧ b9 = (ad 5)) ∨ (f9 = 607 ∧ b9 = (ad 5)) ∨ (f9 = 608 ∧ b9 = (ad 5)) ∨ (f9 = 609 ∧ b9 = (ad 5))) (fun _ _ => False) (fun b9 => b9 = (ad 7) ∨ b9 = (ad 8) ∨ b9 = (ad 9)) S S' ∧ hI S' 602 (ad 5) = 1 ∧ aI S' (ad 8) 0 = 200 ∧ aI S' (ad 9) 0 = 240) := by
  refine ct_of (by decide) (Nat.le_of_ble_eq_true rfl) fun x hn9 C M hm9 => ?_
  have C : CB x RX6 cX6_come := C
  refine J.eq (lv' := [(0, .ref (ad 5)), (1, .int 200), (2, .int 240)]) rfl rfl rfl ?_
  refine j_aload_n C dX6_come_0 rfl 0 rfl ?_
  refine j_geti (f := 602) (v := 0) C flX6_32 dX6_come_1 (wm_5 (S := S) hW) (wk_5 (S := S) hW) (by decide) (by decide) rfl hI_602_ad5 ?_
  refine j_if_lt (tgt := 16) C dX6_come_4 (by decide) (fun c9 => absurd c9 (by decide)) (fun c9 => ?_)
  refine j_aload_n C dX6_come_7 rfl 0 rfl ?_
  refine j_geti (f := 602) (v := 0) C flX6_32 dX6_come_8 (wm_5 (S := S) hW) (wk_5 (S := S) hW) (by decide) (by decide) rfl hI_602_ad5 ?_
  refine j_bipush (v := 12) C dX6_come_11 (by decide) ?_
  refine j_ic_lt (tgt := 22) C dX6_come_13 (by decide) (fun c9 => ?_) (fun c9 => absurd (by decide) c9)
  refine j_aload_n C dX6_come_22 rfl 0 rfl ?_
  show J _ _ _ _ _ 23 _
  refine j_geti (f := 602) (v := 0) C flX6_32 dX6_come_23 (wm_5 (S := S) hW) (wk_5 (S := S) hW) (by decide) (by decide) rfl hI_602_ad5 ?_
  refine j_if_ne (tgt := 50) C dX6_come_26 (by decide) (fun c9 => absurd c9 (by decide)) (fun c9 => ?_)
  refine j_aload_n C dX6_come_29 rfl 0 rfl ?_
  refine j_ldc (v := 2771273) C dX6_come_30 kcX6_58 ?_
  refine j_iconst (v := 4) C dX6_come_32 (by decide) ?_
  refine j_callV (ci := 6) C [.int 2771273, .int 4] [] mlX6_59 mcX6_putNumber (c_pn4 S ad hW 2771273 0 hI_601_ad5 (by omega)) (wm_5 (S := S) hW) (wk_5 (S := S) hW) rfl (M.rm (by decide) (by decide) (Nat.le_of_ble_eq_true rfl) (Nat.le_of_ble_eq_true rfl)) rfl rfl (Nat.le_of_ble_eq_true rfl) dX6_come_33 (fun r_2 S_3 hp_4 => ?_)
  obtain ⟨rfl, hf_5, e_1⟩ := hp_4
  refine J.eq (st' := []) rfl rfl rfl ?_
  have hv_6 : hI S_3 602 (ad 5) = 0 := hf_5.fi (wm_5 (S := S) hW) (fun q9 => absurd q9.1 (by decide)) hI_602_ad5
  have hv_7 : hI S_3 603 (ad 5) = 0 := hf_5.fi (wm_5 (S := S) hW) (fun q9 => absurd q9.1 (by decide)) hI_603_ad5
  have hf_8 : Fm (fun f9 b9 => (f9 = 601 ∧ b9 = (ad 5)) ∨ (f9 = 602 ∧ b9 = (ad 5)) ∨ (f9 = 607 ∧ b9 = (ad 5)) ∨ (f9 = 608 ∧ b9 = (ad 5)) ∨ (f9 = 609 ∧ b9 = (ad 5))) (fun _ _ => False) (fun b9 => b9 = (ad 7) ∨ b9 = (ad 8) ∨ b9 = (ad 9)) S S_3 := (Fm.refl (WI := (fun f9 b9 => (f9 = 601 ∧ b9 = (ad 5)) ∨ (f9 = 602 ∧ b9 = (ad 5)) ∨ (f9 = 607 ∧ b9 = (ad 5)) ∨ (f9 = 608 ∧ b9 = (ad 5)) ∨ (f9 = 609 ∧ b9 = (ad 5)))) (WR := (fun _ _ => False)) (WA := (fun b9 => b9 = (ad 7) ∨ b9 = (ad 8) ∨ b9 = (ad 9)))).then hf_5 (fun a9 ha9 => ⟨(fun f9 h9 => (fun h8 => (Or.inl h8)) h9), (fun f9 h9 => h9.elim), (fun h9 => (fun h8 => (Or.inl h8)) h9)⟩)
  have hW_9 : Wd ad S_3 := hW.fm hf_5 (by intro _ _ h9; exact h9) (by intro p9 hp9; simp only [wqL, List.mem_cons, List.not_mem_nil, or_false] at hp9; rcases hp9 with rfl | rfl <;> intro h9 <;> skip <;> exact absurd h9 (wn hW (by decide) (by decide) (by decide)))
  have hx_10 : aI S_3 (ad 11) = D := by
    have e0_9 : (aI S_3 (ad 11)) = (aI S (ad 11)) := funext fun j9 => hf_5.ai (wm_11 (S := S) hW) (fun q9 => (wn (S := S) hW (i := 11) (j := 7) (by decide) (by decide) (by decide)) q9) j9
    first | (rw [e0_9]; exact hD) | rw [e0_9]
  refine j_aload_n C dX6_come_36 rfl 0 rfl ?_
  refine j_aload_n C dX6_come_37 rfl 0 rfl ?_
  show J _ _ _ _ _ 38 _
  refine j_geti (f := 601) (v := nI (0 + 4)) C flX6_28 dX6_come_38 (wm_5 (S := S_3) hW_9) (wk_5 (S := S_3) hW_9) (by decide) (by decide) rfl e_1 ?_
  refine j_puti (f := 607) C flX6_63 (by decide) rfl rfl dX6_come_41 (wm_5 (S := S_3) hW_9) (wk_5 (S := S_3) hW_9) rfl ?_
  refine j_aload_n C dX6_come_44 rfl 0 rfl ?_
  refine j_iconst (v := 0) C dX6_come_45 (by decide) ?_
  refine j_iconst (v := 4) C dX6_come_46 (by decide) ?_
  have hf_11 : Fm (fun f9 b9 => (f9 = 601 ∧ b9 = (ad 5)) ∨ (f9 = 602 ∧ b9 = (ad 5)) ∨ (f9 = 607 ∧ b9 = (ad 5)) ∨ (f9 = 608 ∧ b9 = (ad 5)) ∨ (f9 = 609 ∧ b9 = (ad 5))) (fun _ _ => False) (fun b9 => b9 = (ad 7) ∨ b9 = (ad 8) ∨ b9 = (ad 9)) S (sI S_3 607 (ad 5) (nI (0 + 4))) := (hf_8.sI _ (fun _ => (Or.inr (Or.inr (Or.inl ⟨rfl, rfl⟩)))))
  refine j_callV (ci := 6) C [.int 0, .int 4] [] mlX6_59 mcX6_putNumber (c_pn4 (sI S_3 607 (ad 5) (nI (0 + 4))) ad hW_9 0 (0 + 4) (rd_sIf (S := S_3) (g := 607) (a := (ad 5)) (v := nI (0 + 4)) (by decide) e_1) (by omega)) (wm_5 (S := S_3) hW_9) (wk_5 (S := S_3) hW_9) rfl (M.rm (by decide) (by decide) (Nat.le_of_ble_eq_true rfl) (Nat.le_of_ble_eq_true rfl)) rfl rfl (Nat.le_of_ble_eq_true rfl) dX6_come_47 (fun r_13 S_14 hp_15 => ?_)
  obtain ⟨rfl, hf_16, e_12⟩ := hp_15
  refine J.eq (st' := []) rfl rfl rfl ?_
  have hv_17 : hI S_14 602 (ad 5) = 0 := hf_16.fi (wm_5 (S := S_3) hW_9) (fun q9 => absurd q9.1 (by decide)) (rd_sIf (S := S_3) (g := 607) (a := (ad 5)) (v := nI (0 + 4)) (by decide) hv_6)
  have hv_18 : hI S_14 603 (ad 5) = 0 := hf_16.fi (wm_5 (S := S_3) hW_9) (fun q9 => absurd q9.1 (by decide)) (rd_sIf (S := S_3) (g := 607) (a := (ad 5)) (v := nI (0 + 4)) (by decide) hv_7)
  have hv_19 : hI S_14 607 (ad 5) = nI (0 + 4) := hf_16.fi (wm_5 (S := S_3) hW_9) (fun q9 => absurd q9.1 (by decide)) (rd_sI (S := S_3) (g := 607) (a := (ad 5)) (v := nI (0 + 4)))
  have hf_20 : Fm (fun f9 b9 => (f9 = 601 ∧ b9 = (ad 5)) ∨ (f9 = 602 ∧ b9 = (ad 5)) ∨ (f9 = 607 ∧ b9 = (ad 5)) ∨ (f9 = 608 ∧ b9 = (ad 5)) ∨ (f9 = 609 ∧ b9 = (ad 5))) (fun _ _ => False) (fun b9 => b9 = (ad 7) ∨ b9 = (ad 8) ∨ b9 = (ad 9)) S S_14 := hf_11.then hf_16 (fun a9 ha9 => ⟨(fun f9 h9 => (fun h8 => (Or.inl h8)) h9), (fun f9 h9 => h9.elim), (fun h9 => (fun h8 => (Or.inl h8)) h9)⟩)
  have hW_21 : Wd ad S_14 := Wd.fm (Wd.sI hW_9) hf_16 (by intro _ _ h9; exact h9) (by intro p9 hp9; simp only [wqL, List.mem_cons, List.not_mem_nil, or_false] at hp9; rcases hp9 with rfl | rfl <;> intro h9 <;> skip <;> exact absurd h9 (wn hW_9 (by decide) (by decide) (by decide)))
  have hx_22 : aI S_14 (ad 11) = D := by
    have e0_9 : (aI S_14 (ad 11)) = (aI (sI S_3 607 (ad 5) (nI (0 + 4))) (ad 11)) := funext fun j9 => hf_16.ai (wm_11 (S := S_3) hW_9) (fun q9 => (wn (S := S_3) hW_9 (i := 11) (j := 7) (by decide) (by decide) (by decide)) q9) j9
    first | (rw [e0_9]; exact hx_10) | rw [e0_9]
  refine j_aload_n C dX6_come_50 rfl 0 rfl ?_
  refine j_geti (f := 601) (v := nI ((0 + 4) + 4)) C flX6_28 dX6_come_51 (wm_5 (S := S_14) hW_21) (wk_5 (S := S_14) hW_21) (by decide) (by decide) rfl e_12 ?_
  show J _ _ _ _ _ 54 _
  refine j_istore_n (lv' := [(3, .int (nI ((0 + 4) + 4))), (0, .ref (ad 5)), (1, .int 200), (2, .int 240)]) C dX6_come_54 rfl (by rw [hn9]; decide) rfl ?_
  refine j_aload_n C dX6_come_55 rfl 1 rfl ?_
  refine j_iconst (v := 0) C dX6_come_56 (by decide) ?_
  refine j_puti (f := 608) C flX6_66 (by decide) rfl rfl dX6_come_57 (wm_5 (S := S_14) hW_21) (wk_5 (S := S_14) hW_21) rfl ?_
  refine j_aload_n C dX6_come_60 rfl 1 rfl ?_
  refine j_iconst (v := 0) C dX6_come_61 (by decide) ?_
  refine j_puti (f := 609) C flX6_69 (by decide) rfl rfl dX6_come_62 (wm_5 (S := S_14) hW_21) (wk_5 (S := S_14) hW_21) rfl ?_
  refine j_aload_n C dX6_come_65 rfl 1 rfl ?_
  show J _ _ _ _ _ 66 _
  have hf_23 : Fm (fun f9 b9 => (f9 = 601 ∧ b9 = (ad 5)) ∨ (f9 = 602 ∧ b9 = (ad 5)) ∨ (f9 = 607 ∧ b9 = (ad 5)) ∨ (f9 = 608 ∧ b9 = (ad 5)) ∨ (f9 = 609 ∧ b9 = (ad 5))) (fun _ _ => False) (fun b9 => b9 = (ad 7) ∨ b9 = (ad 8) ∨ b9 = (ad 9)) S (sI (sI S_14 608 (ad 5) 0) 609 (ad 5) 0) := ((hf_20.sI _ (fun _ => (Or.inr (Or.inr (Or.inr (Or.inl ⟨rfl, rfl⟩)))))).sI _ (fun _ => (Or.inr (Or.inr (Or.inr (Or.inr ⟨rfl, rfl⟩))))))
  refine j_callV (ci := 6) C [] [] mlX6_72 mcX6_nextPage (c_X6_nextPage (sI (sI S_14 608 (ad 5) 0) 609 (ad 5) 0) ad hW_21 (rd_sIf (S := (sI S_14 608 (ad 5) 0)) (g := 609) (a := (ad 5)) (v := 0) (by decide) (rd_sIf (S := S_14) (g := 608) (a := (ad 5)) (v := 0) (by decide) hv_17))) (wm_5 (S := S_14) hW_21) (wk_5 (S := S_14) hW_21) rfl (M.rm (by decide) (by decide) (Nat.le_of_ble_eq_true rfl) (Nat.le_of_ble_eq_true rfl)) rfl rfl (Nat.le_of_ble_eq_true rfl) dX6_come_66 (fun r_24 S_25 hp_26 => ?_)
  obtain ⟨rfl, e_27⟩ := hp_26
  refine J.eq (S' := (sI (sI S_14 608 (ad 5) 0) 609 (ad 5) 0)) (st' := [.ref (ad 11)]) (lv' := [(3, .int (nI ((0 + 4) + 4))), (0, .ref (ad 5)), (1, .int 200), (2, .int 240)]) e_27 rfl rfl ?_
  refine j_astore (lv' := [(4, .ref (ad 11)), (3, .int (nI ((0 + 4) + 4))), (0, .ref (ad 5)), (1, .int 200), (2, .int 240)]) C dX6_come_69 (by rw [hn9]; decide) rfl ?_
  refine j_iconst (v := 0) C dX6_come_71 (by decide) ?_
  refine j_istore (lv' := [(5, .int 0), (4, .ref (ad 11)), (3, .int (nI ((0 + 4) + 4))), (0, .ref (ad 5)), (1, .int 200), (2, .int 240)]) C dX6_come_72 (by rw [hn9]; decide) rfl ?_
  obtain ⟨S_28, eS_29⟩ : ∃ S9 : Hp, S9 = (sI (sI S_14 608 (ad 5) 0) 609 (ad 5) 0) := ⟨_, rfl⟩
  refine J.eq (S' := S_28) eS_29.symm rfl rfl ?_
  have hv_30 : hI S_28 601 (ad 5) = nI ((0 + 4) + 4) := by rw [eS_29]; exact (rd_sIf (S := (sI S_14 608 (ad 5) 0)) (g := 609) (a := (ad 5)) (v := 0) (by decide) (rd_sIf (S := S_14) (g := 608) (a := (ad 5)) (v := 0) (by decide) e_12))
  have hv_31 : hI S_28 602 (ad 5) = 0 := by rw [eS_29]; exact (rd_sIf (S := (sI S_14 608 (ad 5) 0)) (g := 609) (a := (ad 5)) (v := 0) (by decide) (rd_sIf (S := S_14) (g := 608) (a := (ad 5)) (v := 0) (by decide) hv_17))
  have hv_32 : hI S_28 603 (ad 5) = 0 := by rw [eS_29]; exact (rd_sIf (S := (sI S_14 608 (ad 5) 0)) (g := 609) (a := (ad 5)) (v := 0) (by decide) (rd_sIf (S := S_14) (g := 608) (a := (ad 5)) (v := 0) (by decide) hv_18))
  have hv_33 : hI S_28 607 (ad 5) = nI (0 + 4) := by rw [eS_29]; exact (rd_sIf (S := (sI S_14 608 (ad 5) 0)) (g := 609) (a := (ad 5)) (v := 0) (by decide) (rd_sIf (S := S_14) (g := 608) (a := (ad 5)) (v := 0) (by decide) hv_19))
  have hv_34 : hI S_28 608 (ad 5) = 0 := by rw [eS_29]; exact (rd_sIf (S := (sI S_14 608 (ad 5) 0)) (g := 609) (a := (ad 5)) (v := 0) (by decide) (rd_sI (S := S_14) (g := 608) (a := (ad 5)) (v := 0)))
  have hv_35 : hI S_28 609 (ad 5) = 0 := by rw [eS_29]; exact (rd_sI (S := (sI S_14 608 (ad 5) 0)) (g := 609) (a := (ad 5)) (v := 0))
  have hf_36 : Fm (fun f9 b9 => (f9 = 601 ∧ b9 = (ad 5)) ∨ (f9 = 602 ∧ b9 = (ad 5)) ∨ (f9 = 607 ∧ b9 = (ad 5)) ∨ (f9 = 608 ∧ b9 = (ad 5)) ∨ (f9 = 609 ∧ b9 = (ad 5))) (fun _ _ => False) (fun b9 => b9 = (ad 7) ∨ b9 = (ad 8) ∨ b9 = (ad 9)) S S_28 := by rw [eS_29]; exact hf_23
  have hW_37 : Wd ad S_28 := by rw [eS_29]; exact (Wd.sI (Wd.sI hW_21))
  have hx_38 : aI S_28 (ad 11) = D := by rw [eS_29]; exact (by rw [show aI (sI (sI S_14 608 (ad 5) 0) 609 (ad 5) 0) (ad 11) = aI S_14 (ad 11) from ((arI_sI (S := (sI S_14 608 (ad 5) 0))).trans (arI_sI (S := S_14)))]; exact hx_22)
  have loop_43 : ∀ (m9 y9 : Nat) (S_40 : Hp), y9 + m9 = 240 → Fm (fun f9 b9 => (f9 = 601 ∧ b9 = (ad 5)) ∨ (f9 = 608 ∧ b9 = (ad 5)) ∨ (f9 = 609 ∧ b9 = (ad 5))) (fun _ _ => False) (fun b9 => b9 = (ad 7)) S_28 S_40 → (∃ tb : Nat, 64 ≤ tb ∧ tb ≤ UU y9 ∧ hI S_40 601 (ad 5) = nI (tb / 8) ∧ hI S_40 609 (ad 5) = nI (tb % 8)) → J x (0 + 0 + 0 + 0) (0 + 0 + 0 + 0) S_40 [(5, .int (nI y9)), (4, .ref (ad 11)), (3, .int (nI ((0 + 4) + 4))), (0, .ref (ad 5)), (1, .int 200), (2, .int 240)] 74 [] := by
    intro m9
    induction m9 with
    | zero =>
      intro y9 S_40  hi_44 hl_41 hinv
      have hv_45 : hI S_40 602 (ad 5) = 0 := hl_41.fi (wm_5 (S := S_28) hW_37) (fun h9 => h9.elim (fun q9 => absurd q9.1 (by decide)) (fun h9 => h9.elim (fun q9 => absurd q9.1 (by decide)) (fun q9 => absurd q9.1 (by decide)))) hv_31
      have hv_46 : hI S_40 603 (ad 5) = 0 := hl_41.fi (wm_5 (S := S_28) hW_37) (fun h9 => h9.elim (fun q9 => absurd q9.1 (by decide)) (fun h9 => h9.elim (fun q9 => absurd q9.1 (by decide)) (fun q9 => absurd q9.1 (by decide)))) hv_32
      have hv_47 : hI S_40 607 (ad 5) = nI (0 + 4) := hl_41.fi (wm_5 (S := S_28) hW_37) (fun h9 => h9.elim (fun q9 => absurd q9.1 (by decide)) (fun h9 => h9.elim (fun q9 => absurd q9.1 (by decide)) (fun q9 => absurd q9.1 (by decide)))) hv_33
      have hf_48 : Fm (fun f9 b9 => (f9 = 601 ∧ b9 = (ad 5)) ∨ (f9 = 602 ∧ b9 = (ad 5)) ∨ (f9 = 607 ∧ b9 = (ad 5)) ∨ (f9 = 608 ∧ b9 = (ad 5)) ∨ (f9 = 609 ∧ b9 = (ad 5))) (fun _ _ => False) (fun b9 => b9 = (ad 7) ∨ b9 = (ad 8) ∨ b9 = (ad 9)) S S_40 := hf_36.then hl_41 (fun a9 ha9 => ⟨(fun f9 h9 => (fun h9 => h9.elim (fun h8 => (Or.inl h8)) (fun h9 => h9.elim (fun h8 => (Or.inr (Or.inr (Or.inr (Or.inl h8))))) (fun h8 => (Or.inr (Or.inr (Or.inr (Or.inr h8))))))) h9), (fun f9 h9 => h9.elim), (fun h9 => (fun h8 => (Or.inl h8)) h9)⟩)
      have hW_49 : Wd ad S_40 := hW_37.fm hl_41 (by intro _ _ h9; exact h9) (by intro p9 hp9; simp only [wqL, List.mem_cons, List.not_mem_nil, or_false] at hp9; rcases hp9 with rfl | rfl <;> intro h9 <;> skip <;> exact absurd h9 (wn hW_37 (by decide) (by decide) (by decide)))
      have hx_50 : aI S_40 (ad 11) = D := by
        have e0_9 : (aI S_40 (ad 11)) = (aI S_28 (ad 11)) := funext fun j9 => hl_41.ai (wm_11 (S := S_28) hW_37) (fun q9 => (wn (S := S_28) hW_37 (i := 11) (j := 7) (by decide) (by decide) (by decide)) q9) j9
        first | (rw [e0_9]; exact hx_38) | rw [e0_9]
      obtain ⟨tb, hlb, hub, ht601, ht609⟩ := hinv
      have huu := UU_le (y := y9) (by omega)
      refine j_iload C dX6_come_74 0 rfl ?_
      refine j_iload_n C dX6_come_76 rfl 5 rfl ?_
      refine j_ic_ge (tgt := 102) C dX6_come_77 (by decide) (fun c_77 => ?_) (fun c_77 => absurd (nI_le (a := 240) (by omega) (by omega)) c_77)
      refine j_aload_n C dX6_come_102 rfl 3 rfl ?_
      refine j_iconst (v := 1) C dX6_come_103 (by decide) ?_
      show J _ _ _ _ _ 104 _
      refine j_bipush (v := 12) C dX6_come_104 (by decide) ?_
      refine j_callV (ci := 6) C [.int 1, .int 12] [] mlX6_80 mcX6_putBits (c_pb S_40 ad hW_49 1 12 tb ht601 ht609 (by omega) (by omega)) (wm_5 (S := S_40) hW_49) (wk_5 (S := S_40) hW_49) rfl (M.rm (by decide) (by decide) (Nat.le_of_ble_eq_true rfl) (Nat.le_of_ble_eq_true rfl)) rfl rfl (Nat.le_of_ble_eq_true rfl) dX6_come_106 (fun r_53 S_54 hp_55 => ?_)
      obtain ⟨rfl, hf_56, e_51, e_52⟩ := hp_55
      refine J.eq (st' := []) rfl rfl rfl ?_
      have hv_57 : hI S_54 602 (ad 5) = 0 := hf_56.fi (wm_5 (S := S_40) hW_49) (fun h9 => h9.elim (fun q9 => absurd q9.1 (by decide)) (fun h9 => h9.elim (fun q9 => absurd q9.1 (by decide)) (fun q9 => absurd q9.1 (by decide)))) hv_45
      have hv_58 : hI S_54 603 (ad 5) = 0 := hf_56.fi (wm_5 (S := S_40) hW_49) (fun h9 => h9.elim (fun q9 => absurd q9.1 (by decide)) (fun h9 => h9.elim (fun q9 => absurd q9.1 (by decide)) (fun q9 => absurd q9.1 (by decide)))) hv_46
      have hv_59 : hI S_54 607 (ad 5) = nI (0 + 4) := hf_56.fi (wm_5 (S := S_40) hW_49) (fun h9 => h9.elim (fun q9 => absurd q9.1 (by decide)) (fun h9 => h9.elim (fun q9 => absurd q9.1 (by decide)) (fun q9 => absurd q9.1 (by decide)))) hv_47
      have hf_60 : Fm (fun f9 b9 => (f9 = 601 ∧ b9 = (ad 5)) ∨ (f9 = 602 ∧ b9 = (ad 5)) ∨ (f9 = 607 ∧ b9 = (ad 5)) ∨ (f9 = 608 ∧ b9 = (ad 5)) ∨ (f9 = 609 ∧ b9 = (ad 5))) (fun _ _ => False) (fun b9 => b9 = (ad 7) ∨ b9 = (ad 8) ∨ b9 = (ad 9)) S S_54 := hf_48.then hf_56 (fun a9 ha9 => ⟨(fun f9 h9 => (fun h9 => h9.elim (fun h8 => (Or.inl h8)) (fun h9 => h9.elim (fun h8 => (Or.inr (Or.inr (Or.inr (Or.inl h8))))) (fun h8 => (Or.inr (Or.inr (Or.inr (Or.inr h8))))))) h9), (fun f9 h9 => h9.elim), (fun h9 => (fun h8 => (Or.inl h8)) h9)⟩)
      have hW_61 : Wd ad S_54 := hW_49.fm hf_56 (by intro _ _ h9; exact h9) (by intro p9 hp9; simp only [wqL, List.mem_cons, List.not_mem_nil, or_false] at hp9; rcases hp9 with rfl | rfl <;> intro h9 <;> skip <;> exact absurd h9 (wn hW_49 (by decide) (by decide) (by decide)))
      have hx_62 : aI S_54 (ad 11) = D := by
        have e0_9 : (aI S_54 (ad 11)) = (aI S_40 (ad 11)) := funext fun j9 => hf_56.ai (wm_11 (S := S_40) hW_49) (fun q9 => (wn (S := S_40) hW_49 (i := 11) (j := 7) (by decide) (by decide) (by decide)) q9) j9
        first | (rw [e0_9]; exact hx_50) | rw [e0_9]
      refine j_aload_n C dX6_come_109 rfl 3 rfl ?_
      refine j_iconst (v := 1) C dX6_come_110 (by decide) ?_
      refine j_bipush (v := 12) C dX6_come_111 (by decide) ?_
      refine j_callV (ci := 6) C [.int 1, .int 12] [] mlX6_80 mcX6_putBits (c_pb S_54 ad hW_61 1 12 (tb + 12) e_51 e_52 (by omega) (by omega)) (wm_5 (S := S_54) hW_61) (wk_5 (S := S_54) hW_61) rfl (M.rm (by decide) (by decide) (Nat.le_of_ble_eq_true rfl) (Nat.le_of_ble_eq_true rfl)) rfl rfl (Nat.le_of_ble_eq_true rfl) dX6_come_113 (fun r_65 S_66 hp_67 => ?_)
      obtain ⟨rfl, hf_68, e_63, e_64⟩ := hp_67
      refine J.eq (st' := []) rfl rfl rfl ?_
      have hv_69 : hI S_66 602 (ad 5) = 0 := hf_68.fi (wm_5 (S := S_54) hW_61) (fun h9 => h9.elim (fun q9 => absurd q9.1 (by decide)) (fun h9 => h9.elim (fun q9 => absurd q9.1 (by decide)) (fun q9 => absurd q9.1 (by decide)))) hv_57
      have hv_70 : hI S_66 603 (ad 5) = 0 := hf_68.fi (wm_5 (S := S_54) hW_61) (fun h9 => h9.elim (fun q9 => absurd q9.1 (by decide)) (fun h9 => h9.elim (fun q9 => absurd q9.1 (by decide)) (fun q9 => absurd q9.1 (by decide)))) hv_58
      have hv_71 : hI S_66 607 (ad 5) = nI (0 + 4) := hf_68.fi (wm_5 (S := S_54) hW_61) (fun h9 => h9.elim (fun q9 => absurd q9.1 (by decide)) (fun h9 => h9.elim (fun q9 => absurd q9.1 (by decide)) (fun q9 => absurd q9.1 (by decide)))) hv_59
      have hf_72 : Fm (fun f9 b9 => (f9 = 601 ∧ b9 = (ad 5)) ∨ (f9 = 602 ∧ b9 = (ad 5)) ∨ (f9 = 607 ∧ b9 = (ad 5)) ∨ (f9 = 608 ∧ b9 = (ad 5)) ∨ (f9 = 609 ∧ b9 = (ad 5))) (fun _ _ => False) (fun b9 => b9 = (ad 7) ∨ b9 = (ad 8) ∨ b9 = (ad 9)) S S_66 := hf_60.then hf_68 (fun a9 ha9 => ⟨(fun f9 h9 => (fun h9 => h9.elim (fun h8 => (Or.inl h8)) (fun h9 => h9.elim (fun h8 => (Or.inr (Or.inr (Or.inr (Or.inl h8))))) (fun h8 => (Or.inr (Or.inr (Or.inr (Or.inr h8))))))) h9), (fun f9 h9 => h9.elim), (fun h9 => (fun h8 => (Or.inl h8)) h9)⟩)
      have hW_73 : Wd ad S_66 := hW_61.fm hf_68 (by intro _ _ h9; exact h9) (by intro p9 hp9; simp only [wqL, List.mem_cons, List.not_mem_nil, or_false] at hp9; rcases hp9 with rfl | rfl <;> intro h9 <;> skip <;> exact absurd h9 (wn hW_61 (by decide) (by decide) (by decide)))
      have hx_74 : aI S_66 (ad 11) = D := by
        have e0_9 : (aI S_66 (ad 11)) = (aI S_54 (ad 11)) := funext fun j9 => hf_68.ai (wm_11 (S := S_54) hW_61) (fun q9 => (wn (S := S_54) hW_61 (i := 11) (j := 7) (by decide) (by decide) (by decide)) q9) j9
        first | (rw [e0_9]; exact hx_62) | rw [e0_9]
      refine j_aload_n C dX6_come_116 rfl 3 rfl ?_
      refine j_iconst (v := 0) C dX6_come_117 (by decide) ?_
      show J _ _ _ _ _ 118 _
      refine j_bipush (v := 8) C dX6_come_118 (by decide) ?_
      refine j_aload_n C dX6_come_120 rfl 3 rfl ?_
      refine j_geti (f := 609) (v := nI (((tb + 12) + 12) % 8)) C flX6_69 dX6_come_121 (wm_5 (S := S_66) hW_73) (wk_5 (S := S_66) hW_73) (by decide) (by decide) rfl e_64 ?_
      refine j_isub (v := nI (8 - (((tb + 12) + 12) % 8))) C dX6_come_124 (pk_sub (a := 8) (b := (((tb + 12) + 12) % 8)) (by omega)) ?_
      refine j_bipush (v := 7) C dX6_come_125 (by decide) ?_
      refine j_iand (v := nI ((8 - (((tb + 12) + 12) % 8)) % 8)) C dX6_come_127 (pk_andN (by omega) 3 (by decide)) ?_
      refine j_callV (ci := 6) C [.int 0, .int (nI ((8 - (((tb + 12) + 12) % 8)) % 8))] [] mlX6_80 mcX6_putBits (c_pb S_66 ad hW_73 0 ((8 - (((tb + 12) + 12) % 8)) % 8) ((tb + 12) + 12) e_63 e_64 (by omega) (by omega)) (wm_5 (S := S_66) hW_73) (wk_5 (S := S_66) hW_73) rfl (M.rm (by decide) (by decide) (Nat.le_of_ble_eq_true rfl) (Nat.le_of_ble_eq_true rfl)) rfl rfl (Nat.le_of_ble_eq_true rfl) dX6_come_128 (fun r_77 S_78 hp_79 => ?_)
      obtain ⟨rfl, hf_80, e_75, e_76⟩ := hp_79
      refine J.eq (st' := []) rfl rfl rfl ?_
      have hv_81 : hI S_78 602 (ad 5) = 0 := hf_80.fi (wm_5 (S := S_66) hW_73) (fun h9 => h9.elim (fun q9 => absurd q9.1 (by decide)) (fun h9 => h9.elim (fun q9 => absurd q9.1 (by decide)) (fun q9 => absurd q9.1 (by decide)))) hv_69
      have hv_82 : hI S_78 603 (ad 5) = 0 := hf_80.fi (wm_5 (S := S_66) hW_73) (fun h9 => h9.elim (fun q9 => absurd q9.1 (by decide)) (fun h9 => h9.elim (fun q9 => absurd q9.1 (by decide)) (fun q9 => absurd q9.1 (by decide)))) hv_70
      have hv_83 : hI S_78 607 (ad 5) = nI (0 + 4) := hf_80.fi (wm_5 (S := S_66) hW_73) (fun h9 => h9.elim (fun q9 => absurd q9.1 (by decide)) (fun h9 => h9.elim (fun q9 => absurd q9.1 (by decide)) (fun q9 => absurd q9.1 (by decide)))) hv_71
      have hf_84 : Fm (fun f9 b9 => (f9 = 601 ∧ b9 = (ad 5)) ∨ (f9 = 602 ∧ b9 = (ad 5)) ∨ (f9 = 607 ∧ b9 = (ad 5)) ∨ (f9 = 608 ∧ b9 = (ad 5)) ∨ (f9 = 609 ∧ b9 = (ad 5))) (fun _ _ => False) (fun b9 => b9 = (ad 7) ∨ b9 = (ad 8) ∨ b9 = (ad 9)) S S_78 := hf_72.then hf_80 (fun a9 ha9 => ⟨(fun f9 h9 => (fun h9 => h9.elim (fun h8 => (Or.inl h8)) (fun h9 => h9.elim (fun h8 => (Or.inr (Or.inr (Or.inr (Or.inl h8))))) (fun h8 => (Or.inr (Or.inr (Or.inr (Or.inr h8))))))) h9), (fun f9 h9 => h9.elim), (fun h9 => (fun h8 => (Or.inl h8)) h9)⟩)
      have hW_85 : Wd ad S_78 := hW_73.fm hf_80 (by intro _ _ h9; exact h9) (by intro p9 hp9; simp only [wqL, List.mem_cons, List.not_mem_nil, or_false] at hp9; rcases hp9 with rfl | rfl <;> intro h9 <;> skip <;> exact absurd h9 (wn hW_73 (by decide) (by decide) (by decide)))
      have hx_86 : aI S_78 (ad 11) = D := by
        have e0_9 : (aI S_78 (ad 11)) = (aI S_66 (ad 11)) := funext fun j9 => hf_80.ai (wm_11 (S := S_66) hW_73) (fun q9 => (wn (S := S_66) hW_73 (i := 11) (j := 7) (by decide) (by decide) (by decide)) q9) j9
        first | (rw [e0_9]; exact hx_74) | rw [e0_9]
      refine j_aload_n C dX6_come_131 rfl 3 rfl ?_
      show J _ _ _ _ _ 132 _
      refine j_geti (f := 601) (v := nI ((((tb + 12) + 12) + ((8 - (((tb + 12) + 12) % 8)) % 8)) / 8)) C flX6_28 dX6_come_132 (wm_5 (S := S_78) hW_85) (wk_5 (S := S_78) hW_85) (by decide) (by decide) rfl e_75 ?_
      refine j_iload_n C dX6_come_135 rfl 2 rfl ?_
      refine j_isub (v := nI (((((tb + 12) + 12) + ((8 - (((tb + 12) + 12) % 8)) % 8)) / 8) - ((0 + 4) + 4))) C dX6_come_136 (pk_sub (a := ((((tb + 12) + 12) + ((8 - (((tb + 12) + 12) % 8)) % 8)) / 8)) (b := ((0 + 4) + 4)) (by omega)) ?_
      refine j_istore (lv' := [(5, .int (nI (((((tb + 12) + 12) + ((8 - (((tb + 12) + 12) % 8)) % 8)) / 8) - ((0 + 4) + 4)))), (4, .ref (ad 11)), (3, .int (nI ((0 + 4) + 4))), (0, .ref (ad 5)), (1, .int 200), (2, .int 240)]) C dX6_come_137 (by rw [hn9]; decide) rfl ?_
      refine j_iload C dX6_come_139 0 rfl ?_
      refine j_iconst (v := 1) C dX6_come_141 (by decide) ?_
      refine j_iand (v := nI ((((((tb + 12) + 12) + ((8 - (((tb + 12) + 12) % 8)) % 8)) / 8) - ((0 + 4) + 4)) % 2)) C dX6_come_142 (pk_andN (by omega) 1 (by decide)) ?_
      refine j_if_eq (tgt := 151) C dX6_come_143 (by decide) (fun c_143 => ?_) (fun c_143 => ?_)
      · skip
        refine j_aload_n C dX6_come_151 rfl 3 rfl ?_
        show J _ _ _ _ _ 152 _
        refine j_iload_n C dX6_come_152 rfl 4 rfl ?_
        refine j_iload_n C dX6_come_153 rfl 5 rfl ?_
        refine j_iload_n C dX6_come_154 rfl 2 rfl ?_
        refine j_iload C dX6_come_155 0 rfl ?_
        refine j_callV (ci := 6) C [.int 200, .int 240, .int (nI ((0 + 4) + 4)), .int (nI (((((tb + 12) + 12) + ((8 - (((tb + 12) + 12) % 8)) % 8)) / 8) - ((0 + 4) + 4)))] [] mlX6_87 mcX6_writeDirectory (c_X6_writeDirectory S_78 ad hW_85 200 240 (nI ((0 + 4) + 4)) (nI (((((tb + 12) + 12) + ((8 - (((tb + 12) + 12) % 8)) % 8)) / 8) - ((0 + 4) + 4))) ((((tb + 12) + 12) + ((8 - (((tb + 12) + 12) % 8)) % 8)) / 8) e_75 (0 + 4) hv_83 (by omega) (by omega)) (wm_5 (S := S_78) hW_85) (wk_5 (S := S_78) hW_85) rfl (M.rm (by decide) (by decide) (Nat.le_of_ble_eq_true rfl) (Nat.le_of_ble_eq_true rfl)) rfl rfl (Nat.le_of_ble_eq_true rfl) dX6_come_157 (fun r_87 S_88 hp_89 => ?_)
        obtain ⟨rfl, hf_90⟩ := hp_89
        refine J.eq (st' := []) rfl rfl rfl ?_
        have hv_91 : hI S_88 602 (ad 5) = 0 := hf_90.fi (wm_5 (S := S_78) hW_85) (fun h9 => h9.elim (fun q9 => absurd q9.1 (by decide)) (fun q9 => absurd q9.1 (by decide))) hv_81
        have hv_92 : hI S_88 603 (ad 5) = 0 := hf_90.fi (wm_5 (S := S_78) hW_85) (fun h9 => h9.elim (fun q9 => absurd q9.1 (by decide)) (fun q9 => absurd q9.1 (by decide))) hv_82
        have hv_93 : hI S_88 609 (ad 5) = nI ((((tb + 12) + 12) + ((8 - (((tb + 12) + 12) % 8)) % 8)) % 8) := hf_90.fi (wm_5 (S := S_78) hW_85) (fun h9 => h9.elim (fun q9 => absurd q9.1 (by decide)) (fun q9 => absurd q9.1 (by decide))) e_76
        have hf_94 : Fm (fun f9 b9 => (f9 = 601 ∧ b9 = (ad 5)) ∨ (f9 = 602 ∧ b9 = (ad 5)) ∨ (f9 = 607 ∧ b9 = (ad 5)) ∨ (f9 = 608 ∧ b9 = (ad 5)) ∨ (f9 = 609 ∧ b9 = (ad 5))) (fun _ _ => False) (fun b9 => b9 = (ad 7) ∨ b9 = (ad 8) ∨ b9 = (ad 9)) S S_88 := hf_84.then hf_90 (fun a9 ha9 => ⟨(fun f9 h9 => (fun h9 => h9.elim (fun h8 => (Or.inl h8)) (fun h8 => (Or.inr (Or.inr (Or.inl h8))))) h9), (fun f9 h9 => h9.elim), (fun h9 => (fun h8 => (Or.inl h8)) h9)⟩)
        have hW_95 : Wd ad S_88 := hW_85.fm hf_90 (by intro _ _ h9; exact h9) (by intro p9 hp9; simp only [wqL, List.mem_cons, List.not_mem_nil, or_false] at hp9; rcases hp9 with rfl | rfl <;> intro h9 <;> skip <;> exact absurd h9 (wn hW_85 (by decide) (by decide) (by decide)))
        have hx_96 : aI S_88 (ad 11) = D := by
          have e0_9 : (aI S_88 (ad 11)) = (aI S_78 (ad 11)) := funext fun j9 => hf_90.ai (wm_11 (S := S_78) hW_85) (fun q9 => (wn (S := S_78) hW_85 (i := 11) (j := 7) (by decide) (by decide) (by decide)) q9) j9
          first | (rw [e0_9]; exact hx_86) | rw [e0_9]
        refine j_aload_n C dX6_come_160 rfl 3 rfl ?_
        refine j_getr (f := 604) (v := (ad 8)) C flX6_16 dX6_come_161 (wm_5 (S := S_88) hW_95) (wk_5 (S := S_88) hW_95) (by decide) rfl (wr_604_5 (S := S_88) hW_95) ?_
        refine j_aload_n C dX6_come_164 rfl 3 rfl ?_
        show J _ _ _ _ _ 165 _
        refine j_geti (f := 602) (v := 0) C flX6_32 dX6_come_165 (wm_5 (S := S_88) hW_95) (wk_5 (S := S_88) hW_95) (by decide) (by decide) rfl hv_91 ?_
        refine j_iload_n C dX6_come_168 rfl 4 rfl ?_
        refine j_iast (j := 0) C dX6_come_169 (wm_8 (S := S_88) hW_95) (wk_8 (S := S_88) hW_95) (inr_of (n := 12) (wl_8 (S := S_88) hW_95) (vp_lit (by decide))) (by decide) ?_
        refine j_aload_n C dX6_come_170 rfl 3 rfl ?_
        refine j_getr (f := 605) (v := (ad 9)) C flX6_20 dX6_come_171 (wm_5 (S := S_88) hW_95) (wk_5 (S := S_88) hW_95) (by decide) rfl (rxR_tI (S := S_88) (wr_605_5 (S := S_88) hW_95)) ?_
        refine j_aload_n C dX6_come_174 rfl 3 rfl ?_
        refine j_geti (f := 602) (v := 0) C flX6_32 dX6_come_175 (wm_5 (S := S_88) hW_95) (wk_5 (S := S_88) hW_95) (by decide) (by decide) rfl (rxI_tI (S := S_88) hv_91) ?_
        refine j_iload_n C dX6_come_178 rfl 5 rfl ?_
        show J _ _ _ _ _ 179 _
        refine j_iast (j := 0) C dX6_come_179 (wm_9 (S := S_88) hW_95) (wk_9 (S := S_88) hW_95) (inr_of (n := 12) (wl_9 (S := S_88) hW_95) (vp_lit (by decide))) (by decide) ?_
        refine j_aload_n C dX6_come_180 rfl 3 rfl ?_
        refine j_dup C dX6_come_181 rfl ?_
        refine j_geti (f := 602) (v := 0) C flX6_32 dX6_come_182 (wm_5 (S := S_88) hW_95) (wk_5 (S := S_88) hW_95) (by decide) (by decide) rfl (rxI_tI (S := (tI S_88 (ad 8) 0 (200 : Int32))) (rxI_tI (S := S_88) hv_91)) ?_
        refine j_iconst (v := 1) C dX6_come_185 (by decide) ?_
        refine j_iadd (v := 1) C dX6_come_186 (by decide) ?_
        refine j_puti (f := 602) C flX6_32 (by decide) rfl rfl dX6_come_187 (wm_5 (S := S_88) hW_95) (wk_5 (S := S_88) hW_95) rfl ?_
        exact j_vret C M dX6_come_190 (Nat.le_of_ble_eq_true rfl) (Nat.le_of_ble_eq_true rfl) ⟨rfl, (((hf_94.tI _ _ (fun _ => (Or.inr (Or.inl rfl)))).tI _ _ (fun _ => (Or.inr (Or.inr rfl)))).sI _ (fun _ => (Or.inr (Or.inl ⟨rfl, rfl⟩)))), (rd_sI (S := (tI (tI S_88 (ad 8) 0 (200 : Int32)) (ad 9) 0 (240 : Int32))) (g := 602) (a := (ad 5)) (v := 1)), (show aI (tI (tI S_88 (ad 8) 0 (200 : Int32)) (ad 9) 0 (240 : Int32)) (ad 8) 0 = 200 from (rd_tIa (S := (tI S_88 (ad 8) 0 (200 : Int32))) (wn (S := S_88) hW_95 (i := 8) (j := 9) (by decide) (by decide) (by decide)) (by rw [aI_tI, if_pos ⟨rfl, rfl⟩]))), (show aI (tI (tI S_88 (ad 8) 0 (200 : Int32)) (ad 9) 0 (240 : Int32)) (ad 9) 0 = 240 from (by rw [aI_tI, if_pos ⟨rfl, rfl⟩]))⟩
      · skip
        refine j_aload_n C dX6_come_146 rfl 3 rfl ?_
        show J _ _ _ _ _ 147 _
        refine j_iconst (v := 0) C dX6_come_147 (by decide) ?_
        refine j_callV (ci := 6) C [.int 0] [] mlX6_83 mcX6_putByte (c_X6_putByte S_78 ad hW_85 0 ((((tb + 12) + 12) + ((8 - (((tb + 12) + 12) % 8)) % 8)) / 8) e_75 (by omega)) (wm_5 (S := S_78) hW_85) (wk_5 (S := S_78) hW_85) rfl (M.rm (by decide) (by decide) (Nat.le_of_ble_eq_true rfl) (Nat.le_of_ble_eq_true rfl)) rfl rfl (Nat.le_of_ble_eq_true rfl) dX6_come_148 (fun r_98 S_99 hp_100 => ?_)
        obtain ⟨rfl, hf_101, e_97⟩ := hp_100
        refine J.eq (st' := []) rfl rfl rfl ?_
        have hv_102 : hI S_99 602 (ad 5) = 0 := hf_101.fi (wm_5 (S := S_78) hW_85) (fun q9 => absurd q9.1 (by decide)) hv_81
        have hv_103 : hI S_99 603 (ad 5) = 0 := hf_101.fi (wm_5 (S := S_78) hW_85) (fun q9 => absurd q9.1 (by decide)) hv_82
        have hv_104 : hI S_99 607 (ad 5) = nI (0 + 4) := hf_101.fi (wm_5 (S := S_78) hW_85) (fun q9 => absurd q9.1 (by decide)) hv_83
        have hv_105 : hI S_99 609 (ad 5) = nI ((((tb + 12) + 12) + ((8 - (((tb + 12) + 12) % 8)) % 8)) % 8) := hf_101.fi (wm_5 (S := S_78) hW_85) (fun q9 => absurd q9.1 (by decide)) e_76
        have hf_106 : Fm (fun f9 b9 => (f9 = 601 ∧ b9 = (ad 5)) ∨ (f9 = 602 ∧ b9 = (ad 5)) ∨ (f9 = 607 ∧ b9 = (ad 5)) ∨ (f9 = 608 ∧ b9 = (ad 5)) ∨ (f9 = 609 ∧ b9 = (ad 5))) (fun _ _ => False) (fun b9 => b9 = (ad 7) ∨ b9 = (ad 8) ∨ b9 = (ad 9)) S S_99 := hf_84.then hf_101 (fun a9 ha9 => ⟨(fun f9 h9 => (fun h8 => (Or.inl h8)) h9), (fun f9 h9 => h9.elim), (fun h9 => (fun h8 => (Or.inl h8)) h9)⟩)
        have hW_107 : Wd ad S_99 := hW_85.fm hf_101 (by intro _ _ h9; exact h9) (by intro p9 hp9; simp only [wqL, List.mem_cons, List.not_mem_nil, or_false] at hp9; rcases hp9 with rfl | rfl <;> intro h9 <;> skip <;> exact absurd h9 (wn hW_85 (by decide) (by decide) (by decide)))
        have hx_108 : aI S_99 (ad 11) = D := by
          have e0_9 : (aI S_99 (ad 11)) = (aI S_78 (ad 11)) := funext fun j9 => hf_101.ai (wm_11 (S := S_78) hW_85) (fun q9 => (wn (S := S_78) hW_85 (i := 11) (j := 7) (by decide) (by decide) (by decide)) q9) j9
          first | (rw [e0_9]; exact hx_86) | rw [e0_9]
        refine j_aload_n C dX6_come_151 rfl 3 rfl ?_
        refine j_iload_n C dX6_come_152 rfl 4 rfl ?_
        refine j_iload_n C dX6_come_153 rfl 5 rfl ?_
        refine j_iload_n C dX6_come_154 rfl 2 rfl ?_
        refine j_iload C dX6_come_155 0 rfl ?_
        refine j_callV (ci := 6) C [.int 200, .int 240, .int (nI ((0 + 4) + 4)), .int (nI (((((tb + 12) + 12) + ((8 - (((tb + 12) + 12) % 8)) % 8)) / 8) - ((0 + 4) + 4)))] [] mlX6_87 mcX6_writeDirectory (c_X6_writeDirectory S_99 ad hW_107 200 240 (nI ((0 + 4) + 4)) (nI (((((tb + 12) + 12) + ((8 - (((tb + 12) + 12) % 8)) % 8)) / 8) - ((0 + 4) + 4))) (((((tb + 12) + 12) + ((8 - (((tb + 12) + 12) % 8)) % 8)) / 8) + 1) e_97 (0 + 4) hv_104 (by omega) (by omega)) (wm_5 (S := S_99) hW_107) (wk_5 (S := S_99) hW_107) rfl (M.rm (by decide) (by decide) (Nat.le_of_ble_eq_true rfl) (Nat.le_of_ble_eq_true rfl)) rfl rfl (Nat.le_of_ble_eq_true rfl) dX6_come_157 (fun r_109 S_110 hp_111 => ?_)
        obtain ⟨rfl, hf_112⟩ := hp_111
        refine J.eq (st' := []) rfl rfl rfl ?_
        have hv_113 : hI S_110 602 (ad 5) = 0 := hf_112.fi (wm_5 (S := S_99) hW_107) (fun h9 => h9.elim (fun q9 => absurd q9.1 (by decide)) (fun q9 => absurd q9.1 (by decide))) hv_102
        have hv_114 : hI S_110 603 (ad 5) = 0 := hf_112.fi (wm_5 (S := S_99) hW_107) (fun h9 => h9.elim (fun q9 => absurd q9.1 (by decide)) (fun q9 => absurd q9.1 (by decide))) hv_103
        have hv_115 : hI S_110 609 (ad 5) = nI ((((tb + 12) + 12) + ((8 - (((tb + 12) + 12) % 8)) % 8)) % 8) := hf_112.fi (wm_5 (S := S_99) hW_107) (fun h9 => h9.elim (fun q9 => absurd q9.1 (by decide)) (fun q9 => absurd q9.1 (by decide))) hv_105
        have hf_116 : Fm (fun f9 b9 => (f9 = 601 ∧ b9 = (ad 5)) ∨ (f9 = 602 ∧ b9 = (ad 5)) ∨ (f9 = 607 ∧ b9 = (ad 5)) ∨ (f9 = 608 ∧ b9 = (ad 5)) ∨ (f9 = 609 ∧ b9 = (ad 5))) (fun _ _ => False) (fun b9 => b9 = (ad 7) ∨ b9 = (ad 8) ∨ b9 = (ad 9)) S S_110 := hf_106.then hf_112 (fun a9 ha9 => ⟨(fun f9 h9 => (fun h9 => h9.elim (fun h8 => (Or.inl h8)) (fun h8 => (Or.inr (Or.inr (Or.inl h8))))) h9), (fun f9 h9 => h9.elim), (fun h9 => (fun h8 => (Or.inl h8)) h9)⟩)
        have hW_117 : Wd ad S_110 := hW_107.fm hf_112 (by intro _ _ h9; exact h9) (by intro p9 hp9; simp only [wqL, List.mem_cons, List.not_mem_nil, or_false] at hp9; rcases hp9 with rfl | rfl <;> intro h9 <;> skip <;> exact absurd h9 (wn hW_107 (by decide) (by decide) (by decide)))
        have hx_118 : aI S_110 (ad 11) = D := by
          have e0_9 : (aI S_110 (ad 11)) = (aI S_99 (ad 11)) := funext fun j9 => hf_112.ai (wm_11 (S := S_99) hW_107) (fun q9 => (wn (S := S_99) hW_107 (i := 11) (j := 7) (by decide) (by decide) (by decide)) q9) j9
          first | (rw [e0_9]; exact hx_108) | rw [e0_9]
        show J _ _ _ _ _ 160 _
        refine j_aload_n C dX6_come_160 rfl 3 rfl ?_
        refine j_getr (f := 604) (v := (ad 8)) C flX6_16 dX6_come_161 (wm_5 (S := S_110) hW_117) (wk_5 (S := S_110) hW_117) (by decide) rfl (wr_604_5 (S := S_110) hW_117) ?_
        refine j_aload_n C dX6_come_164 rfl 3 rfl ?_
        refine j_geti (f := 602) (v := 0) C flX6_32 dX6_come_165 (wm_5 (S := S_110) hW_117) (wk_5 (S := S_110) hW_117) (by decide) (by decide) rfl hv_113 ?_
        refine j_iload_n C dX6_come_168 rfl 4 rfl ?_
        refine j_iast (j := 0) C dX6_come_169 (wm_8 (S := S_110) hW_117) (wk_8 (S := S_110) hW_117) (inr_of (n := 12) (wl_8 (S := S_110) hW_117) (vp_lit (by decide))) (by decide) ?_
        refine j_aload_n C dX6_come_170 rfl 3 rfl ?_
        refine j_getr (f := 605) (v := (ad 9)) C flX6_20 dX6_come_171 (wm_5 (S := S_110) hW_117) (wk_5 (S := S_110) hW_117) (by decide) rfl (rxR_tI (S := S_110) (wr_605_5 (S := S_110) hW_117)) ?_
        show J _ _ _ _ _ 174 _
        refine j_aload_n C dX6_come_174 rfl 3 rfl ?_
        refine j_geti (f := 602) (v := 0) C flX6_32 dX6_come_175 (wm_5 (S := S_110) hW_117) (wk_5 (S := S_110) hW_117) (by decide) (by decide) rfl (rxI_tI (S := S_110) hv_113) ?_
        refine j_iload_n C dX6_come_178 rfl 5 rfl ?_
        refine j_iast (j := 0) C dX6_come_179 (wm_9 (S := S_110) hW_117) (wk_9 (S := S_110) hW_117) (inr_of (n := 12) (wl_9 (S := S_110) hW_117) (vp_lit (by decide))) (by decide) ?_
        refine j_aload_n C dX6_come_180 rfl 3 rfl ?_
        refine j_dup C dX6_come_181 rfl ?_
        refine j_geti (f := 602) (v := 0) C flX6_32 dX6_come_182 (wm_5 (S := S_110) hW_117) (wk_5 (S := S_110) hW_117) (by decide) (by decide) rfl (rxI_tI (S := (tI S_110 (ad 8) 0 (200 : Int32))) (rxI_tI (S := S_110) hv_113)) ?_
        refine j_iconst (v := 1) C dX6_come_185 (by decide) ?_
        show J _ _ _ _ _ 186 _
        refine j_iadd (v := 1) C dX6_come_186 (by decide) ?_
        refine j_puti (f := 602) C flX6_32 (by decide) rfl rfl dX6_come_187 (wm_5 (S := S_110) hW_117) (wk_5 (S := S_110) hW_117) rfl ?_
        exact j_vret C M dX6_come_190 (Nat.le_of_ble_eq_true rfl) (Nat.le_of_ble_eq_true rfl) ⟨rfl, (((hf_116.tI _ _ (fun _ => (Or.inr (Or.inl rfl)))).tI _ _ (fun _ => (Or.inr (Or.inr rfl)))).sI _ (fun _ => (Or.inr (Or.inl ⟨rfl, rfl⟩)))), (rd_sI (S := (tI (tI S_110 (ad 8) 0 (200 : Int32)) (ad 9) 0 (240 : Int32))) (g := 602) (a := (ad 5)) (v := 1)), (show aI (tI (tI S_110 (ad 8) 0 (200 : Int32)) (ad 9) 0 (240 : Int32)) (ad 8) 0 = 200 from (rd_tIa (S := (tI S_110 (ad 8) 0 (200 : Int32))) (wn (S := S_110) hW_117 (i := 8) (j := 9) (by decide) (by decide) (by decide)) (by rw [aI_tI, if_pos ⟨rfl, rfl⟩]))), (show aI (tI (tI S_110 (ad 8) 0 (200 : Int32)) (ad 9) 0 (240 : Int32)) (ad 9) 0 = 240 from (by rw [aI_tI, if_pos ⟨rfl, rfl⟩]))⟩
    | succ m9 ih_42 =>
      intro y9 S_40  hi_44 hl_41 hinv
      have hv_119 : hI S_40 602 (ad 5) = 0 := hl_41.fi (wm_5 (S := S_28) hW_37) (fun h9 => h9.elim (fun q9 => absurd q9.1 (by decide)) (fun h9 => h9.elim (fun q9 => absurd q9.1 (by decide)) (fun q9 => absurd q9.1 (by decide)))) hv_31
      have hv_120 : hI S_40 603 (ad 5) = 0 := hl_41.fi (wm_5 (S := S_28) hW_37) (fun h9 => h9.elim (fun q9 => absurd q9.1 (by decide)) (fun h9 => h9.elim (fun q9 => absurd q9.1 (by decide)) (fun q9 => absurd q9.1 (by decide)))) hv_32
      have hv_121 : hI S_40 607 (ad 5) = nI (0 + 4) := hl_41.fi (wm_5 (S := S_28) hW_37) (fun h9 => h9.elim (fun q9 => absurd q9.1 (by decide)) (fun h9 => h9.elim (fun q9 => absurd q9.1 (by decide)) (fun q9 => absurd q9.1 (by decide)))) hv_33
      have hf_122 : Fm (fun f9 b9 => (f9 = 601 ∧ b9 = (ad 5)) ∨ (f9 = 602 ∧ b9 = (ad 5)) ∨ (f9 = 607 ∧ b9 = (ad 5)) ∨ (f9 = 608 ∧ b9 = (ad 5)) ∨ (f9 = 609 ∧ b9 = (ad 5))) (fun _ _ => False) (fun b9 => b9 = (ad 7) ∨ b9 = (ad 8) ∨ b9 = (ad 9)) S S_40 := hf_36.then hl_41 (fun a9 ha9 => ⟨(fun f9 h9 => (fun h9 => h9.elim (fun h8 => (Or.inl h8)) (fun h9 => h9.elim (fun h8 => (Or.inr (Or.inr (Or.inr (Or.inl h8))))) (fun h8 => (Or.inr (Or.inr (Or.inr (Or.inr h8))))))) h9), (fun f9 h9 => h9.elim), (fun h9 => (fun h8 => (Or.inl h8)) h9)⟩)
      have hW_123 : Wd ad S_40 := hW_37.fm hl_41 (by intro _ _ h9; exact h9) (by intro p9 hp9; simp only [wqL, List.mem_cons, List.not_mem_nil, or_false] at hp9; rcases hp9 with rfl | rfl <;> intro h9 <;> skip <;> exact absurd h9 (wn hW_37 (by decide) (by decide) (by decide)))
      have hx_124 : aI S_40 (ad 11) = D := by
        have e0_9 : (aI S_40 (ad 11)) = (aI S_28 (ad 11)) := funext fun j9 => hl_41.ai (wm_11 (S := S_28) hW_37) (fun q9 => (wn (S := S_28) hW_37 (i := 11) (j := 7) (by decide) (by decide) (by decide)) q9) j9
        first | (rw [e0_9]; exact hx_38) | rw [e0_9]
      obtain ⟨tb, hlb, hub, ht601, ht609⟩ := hinv
      have huu := UU_le (y := y9) (by omega)
      refine j_iload C dX6_come_74 0 rfl ?_
      refine j_iload_n C dX6_come_76 rfl 5 rfl ?_
      refine j_ic_ge (tgt := 102) C dX6_come_77 (by decide) (fun c_77 => absurd c_77 (nI_ge (b := 240) (by omega) (by decide))) (fun c_77 => ?_)
      refine j_aload_n C dX6_come_80 rfl 3 rfl ?_
      refine j_geti (f := 603) (v := 0) C flX6_35 dX6_come_81 (wm_5 (S := S_40) hW_123) (wk_5 (S := S_40) hW_123) (by decide) (by decide) rfl hv_120 ?_
      refine j_if_ne (tgt := 102) C dX6_come_84 (by decide) (fun c9 => absurd c9 (by decide)) (fun c9 => ?_)
      refine j_aload_n C dX6_come_87 rfl 3 rfl ?_
      show J _ _ _ _ _ 88 _
      refine j_aload C dX6_come_88 1 rfl ?_
      refine j_iload C dX6_come_90 0 rfl ?_
      refine j_iload_n C dX6_come_92 rfl 4 rfl ?_
      refine j_callV (ci := 6) C [.ref (ad 11), .int (nI y9), .int 200] [] mlX6_76 mcX6_writeRow (c_row S_40 ad hW_123 D y9 tb ht601 ht609 hx_124 (by omega) (by omega)) (wm_5 (S := S_40) hW_123) (wk_5 (S := S_40) hW_123) rfl (M.rm (by decide) (by decide) (Nat.le_of_ble_eq_true rfl) (Nat.le_of_ble_eq_true rfl)) rfl rfl (Nat.le_of_ble_eq_true rfl) dX6_come_93 (fun r_131 S_132 hp_133 => ?_)
      obtain ⟨tb_125, ⟨b_126, b_127, b_128⟩, rfl, _, hf_134, e_129, e_130, _⟩ := hp_133
      refine J.eq (st' := []) rfl rfl rfl ?_
      have hv_135 : hI S_132 602 (ad 5) = 0 := hf_134.fi (wm_5 (S := S_40) hW_123) (fun h9 => h9.elim (fun q9 => absurd q9.1 (by decide)) (fun h9 => h9.elim (fun q9 => absurd q9.1 (by decide)) (fun q9 => absurd q9.1 (by decide)))) hv_119
      have hv_136 : hI S_132 603 (ad 5) = 0 := hf_134.fi (wm_5 (S := S_40) hW_123) (fun h9 => h9.elim (fun q9 => absurd q9.1 (by decide)) (fun h9 => h9.elim (fun q9 => absurd q9.1 (by decide)) (fun q9 => absurd q9.1 (by decide)))) hv_120
      have hv_137 : hI S_132 607 (ad 5) = nI (0 + 4) := hf_134.fi (wm_5 (S := S_40) hW_123) (fun h9 => h9.elim (fun q9 => absurd q9.1 (by decide)) (fun h9 => h9.elim (fun q9 => absurd q9.1 (by decide)) (fun q9 => absurd q9.1 (by decide)))) hv_121
      have hf_138 : Fm (fun f9 b9 => (f9 = 601 ∧ b9 = (ad 5)) ∨ (f9 = 602 ∧ b9 = (ad 5)) ∨ (f9 = 607 ∧ b9 = (ad 5)) ∨ (f9 = 608 ∧ b9 = (ad 5)) ∨ (f9 = 609 ∧ b9 = (ad 5))) (fun _ _ => False) (fun b9 => b9 = (ad 7) ∨ b9 = (ad 8) ∨ b9 = (ad 9)) S S_132 := hf_122.then hf_134 (fun a9 ha9 => ⟨(fun f9 h9 => (fun h9 => h9.elim (fun h8 => (Or.inl h8)) (fun h9 => h9.elim (fun h8 => (Or.inr (Or.inr (Or.inr (Or.inl h8))))) (fun h8 => (Or.inr (Or.inr (Or.inr (Or.inr h8))))))) h9), (fun f9 h9 => h9.elim), (fun h9 => (fun h8 => (Or.inl h8)) h9)⟩)
      have hf_139 : Fm (fun f9 b9 => (f9 = 601 ∧ b9 = (ad 5)) ∨ (f9 = 608 ∧ b9 = (ad 5)) ∨ (f9 = 609 ∧ b9 = (ad 5))) (fun _ _ => False) (fun b9 => b9 = (ad 7)) S_28 S_132 := hl_41.then hf_134 (fun a9 ha9 => ⟨(fun f9 h9 => (fun h9 => h9.elim (fun h8 => (Or.inl h8)) (fun h9 => h9.elim (fun h8 => (Or.inr (Or.inl h8))) (fun h8 => (Or.inr (Or.inr h8))))) h9), (fun f9 h9 => h9.elim), (fun h9 => (fun h8 => h8) h9)⟩)
      have hW_140 : Wd ad S_132 := hW_123.fm hf_134 (by intro _ _ h9; exact h9) (by intro p9 hp9; simp only [wqL, List.mem_cons, List.not_mem_nil, or_false] at hp9; rcases hp9 with rfl | rfl <;> intro h9 <;> skip <;> exact absurd h9 (wn hW_123 (by decide) (by decide) (by decide)))
      have hx_141 : aI S_132 (ad 11) = D := by
        have e0_9 : (aI S_132 (ad 11)) = (aI S_40 (ad 11)) := funext fun j9 => hf_134.ai (wm_11 (S := S_40) hW_123) (fun q9 => (wn (S := S_40) hW_123 (i := 11) (j := 7) (by decide) (by decide) (by decide)) q9) j9
        first | (rw [e0_9]; exact hx_124) | rw [e0_9]
      refine j_iinc (q := 0) (v := nI (y9 + 1)) (lv' := [(5, .int (nI (y9 + 1))), (4, .ref (ad 11)), (3, .int (nI ((0 + 4) + 4))), (0, .ref (ad 5)), (1, .int 200), (2, .int 240)]) C dX6_come_96 rfl (nI_add y9 1) (by rw [hn9]; decide) rfl ?_
      refine j_goto (tgt := 74) C dX6_come_99 (by decide) ?_
      refine J.sub [0, 1, 2, 3, 4, 5] (lv' := [(5, .int (nI (y9 + 1))), (4, .ref (ad 11)), (3, .int (nI ((0 + 4) + 4))), (0, .ref (ad 5)), (1, .int 200), (2, .int 240)]) (by rfl) ?_
      exact ih_42 (y9 + 1) _  (by omega) hf_139 (⟨tb_125, by omega, UU_next hwh (by omega) hub b_127 b_128, e_129, e_130⟩)
  refine J.sub [0, 1, 2, 3, 4, 5] (lv' := [(5, .int (nI 0)), (4, .ref (ad 11)), (3, .int (nI ((0 + 4) + 4))), (0, .ref (ad 5)), (1, .int 200), (2, .int 240)]) (by rfl) ?_
  exact loop_43 240 0 _  (by omega) Fm.refl (⟨64, Nat.le_refl _, by decide, hv_30, hv_35⟩)
