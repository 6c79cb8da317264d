theorem pg_white {D : Nat → Int32} {P : Nat → Nat → Bool} (F : Nat → Int32) (h : CVP D P) (hw : ∀ y, 96 ≤ y → y < 240 → ∀ px, px < 200 → P px y = false) : ∀ y, 96 ≤ y → y < 240 → whi (dotW (pgF F D 240 0) (y * 20)) := fun y h1 h2 px hpx => by
  rw [pg_dot F D h2 (by omega), h y (by omega) px (by omega)]
  exact hw y h1 h2 px hpx
/-- the page that came: its dots of 224 columns and 240 rows -/
def PGP (D : Nat → Int32) (P : Nat → Nat → Bool) : Prop := ∀ y, y < 240 → ∀ px, px < 224 → dotW D (y * 20) px = P px y
theorem pg_pgp {D : Nat → Int32} {P : Nat → Nat → Bool} (F : Nat → Int32) (h : CVP D P) : PGP (pgF F D 240 0) P := fun y hy px hpx => by
  rw [pg_dot F D hy hpx]
  exact h y (by omega) px (by omega)
theorem clear_cvp {F : Nat → Int32} : CVP (fillN F 20000 0) (fun _ _ => false) := fun y hy px hpx => by
  unfold dotW fillN
  rw [if_pos (by omega)]
  exact b_0 _

theorem dX8_has_0 : decode cX8_has 0 = .ok (.iload_n 1, 1) := by decide +kernel
theorem dX8_has_1 : decode cX8_has 1 = .ok (.ifCond .lt 22, 3) := by decide +kernel
theorem dX8_has_4 : decode cX8_has 4 = .ok (.iload_n 1, 1) := by decide +kernel
theorem dX8_has_5 : decode cX8_has 5 = .ok (.bipush 16, 2) := by decide +kernel
theorem dX8_has_7 : decode cX8_has 7 = .ok (.if_icmp .ge 16, 3) := by decide +kernel
theorem dX8_has_10 : decode cX8_has 10 = .ok (.aload_n 0, 1) := by decide +kernel
theorem dX8_has_11 : decode cX8_has 11 = .ok (.getfield 9, 3) := by decide +kernel
theorem dX8_has_14 : decode cX8_has 14 = .ok (.iload_n 1, 1) := by decide +kernel
theorem dX8_has_15 : decode cX8_has 15 = .ok (.iaload, 1) := by decide +kernel
theorem dX8_has_16 : decode cX8_has 16 = .ok (.ifCond .eq 7, 3) := by decide +kernel
theorem dX8_has_19 : decode cX8_has 19 = .ok (.iconst 1, 1) := by decide +kernel
theorem dX8_has_20 : decode cX8_has 20 = .ok (.goto 4, 3) := by decide +kernel
theorem dX8_has_23 : decode cX8_has 23 = .ok (.iconst 0, 1) := by decide +kernel
theorem dX8_has_24 : decode cX8_has 24 = .ok (.ireturn, 1) := by decide +kernel

set_option maxRecDepth 100000 in
set_option maxHeartbeats 4000000 in
theorem c_hasm1 (S : Hp) (ad : Nat → Nat) (hW : Wd ad S) : Ct 1 yX8_has cX8_has 2 (some .boolean) 0 0 [.ref (ad 22), .int (-1)] S (fun r S' => r = some (.int 0) ∧ S' = S) := by
  refine ct_of (by decide) (Nat.le_of_ble_eq_true rfl) fun x hn9 C M hm9 => ?_
  have C : CB x RX8 cX8_has := C
  refine J.eq (lv' := [(0, .ref (ad 22)), (1, .int (-1))]) rfl rfl rfl ?_
  refine j_iload_n C dX8_has_0 rfl 1 rfl ?_
  refine j_if_lt (tgt := 23) C dX8_has_1 (by decide) (fun c9 => ?_) (fun c9 => absurd (by decide) c9)
  refine j_iconst (v := 0) C dX8_has_23 (by decide) ?_
  exact j_zret C M rfl dX8_has_24 (by decide) (by decide) ⟨rfl, rfl⟩

set_option maxRecDepth 100000 in
set_option maxHeartbeats 4000000 in
theorem c_ej1 (S : Hp) (ad : Nat → Nat) (hW : Wd ad S) (mk : Nat) (gn : Nat) (hI_915_ad6 : hI S 915 (ad 6) = 0) (hI_2_ad12 : hI S 2 (ad 12) = nI mk) (hI_120_ad26 : hI S 120 (ad 26) = (-1)) (hI_106_ad26 : hI S 106 (ad 26) = 1) (hI_916_ad6 : hI S 916 (ad 6) = nI gn) (hI_5_ad12 : hI S 5 (ad 12) = 0) (hI_603_ad5 : hI S 603 (ad 5) = 0) (hI_700_ad27 : hI S 700 (ad 27) = 0) (hI_701_ad27 : hI S 701 (ad 27) = 0) (hI_601_ad5 : hI S 601 (ad 5) = 0) (hI_602_ad5 : hI S 602 (ad 5) = 0) (P : Nat → Nat → Bool) (hcv : CVP (aI S (ad 13)) P) (hm0 : 0 < mk) (hmk : mk < 5000) (hg : gn ≤ 60000) (hwP : ∀ y, 96 ≤ y → y < 240 → ∀ px, px < 200 → P px y = false) : Ct 7 yX9_eject cX9_eject 3 none 0 0 [.ref (ad 6)] S (fun r S' => r = none ∧ Fm (fun f9 b9 => (f9 = 601 ∧ b9 = (ad 5)) ∨ (f9 = 602 ∧ b9 = (ad 5)) ∨ (f9 = 607 ∧ b9 = (ad 5)) ∨ (f9 = 608 ∧ b9 = (ad 5)) ∨ (f9 = 609 ∧ b9 = (ad 5)) ∨ (f9 = 2 ∧ b9 = (ad 12))) (fun _ _ => False) (fun b9 => b9 = (ad 7) ∨ b9 = (ad 8) ∨ b9 = (ad 9) ∨ b9 = (ad 11) ∨ b9 = (ad 13)) S S' ∧ hI S' 2 (ad 12) = 0 ∧ hI S' 602 (ad 5) = 1 ∧ aI S' (ad 8) 0 = 200 ∧ aI S' (ad 9) 0 = 240 ∧ PGP (aI S' (ad 11)) P ∧ CVP (aI S' (ad 13)) (fun _ _ => false)) := by
  refine ct_of (by decide) (Nat.le_of_ble_eq_true rfl) fun x hn9 C M hm9 => ?_
  have C : CB x RX9 cX9_eject := C
  refine J.eq (lv' := [(0, .ref (ad 6))]) rfl rfl rfl ?_
  refine j_aload_n C dX9_eject_0 rfl 0 rfl ?_
  refine j_geti (f := 915) (v := 0) C flX9_111 dX9_eject_1 (wm_6 (S := S) hW) (wk_6 (S := S) hW) (by decide) (by decide) rfl hI_915_ad6 ?_
  refine j_if_ne (tgt := 17) C dX9_eject_4 (by decide) (fun c9 => absurd c9 (by decide)) (fun c9 => ?_)
  refine j_aload_n C dX9_eject_7 rfl 0 rfl ?_
  refine j_getr (f := 901) (v := (ad 12)) C flX9_12 dX9_eject_8 (wm_6 (S := S) hW) (wk_6 (S := S) hW) (by decide) rfl (wr_901_6 (S := S) hW) ?_
  refine j_geti (f := 2) (v := nI mk) C flX9_505 dX9_eject_11 (wm_12 (S := S) hW) (wk_12 (S := S) hW) (by decide) (by decide) rfl hI_2_ad12 ?_
  refine j_if_ne (tgt := 18) C dX9_eject_14 (by decide) (fun c_14 => ?_) (fun c_14 => absurd c_14 (nI_ne0 (by omega) (by omega)))
  refine j_aload_n C dX9_eject_18 rfl 0 rfl ?_
  show J _ _ _ _ _ 19 _
  refine j_getr (f := 906) (v := (ad 22)) C flX9_43 dX9_eject_19 (wm_6 (S := S) hW) (wk_6 (S := S) hW) (by decide) rfl (wr_906_6 (S := S) hW) ?_
  refine j_aload_n C dX9_eject_22 rfl 0 rfl ?_
  refine j_getr (f := 909) (v := (ad 26)) C flX9_57 dX9_eject_23 (wm_6 (S := S) hW) (wk_6 (S := S) hW) (by decide) rfl (wr_909_6 (S := S) hW) ?_
  refine j_geti (f := 120) (v := (-1)) C flX9_480 dX9_eject_26 (wm_26 (S := S) hW) (wk_26 (S := S) hW) (by decide) (by decide) rfl hI_120_ad26 ?_
  refine j_callV (ci := 8) C [.int (-1)] [] mlX9_192 mcX8_has (c_hasm1 S ad hW) (wm_22 (S := S) hW) (wk_22 (S := S) hW) rfl (M.rm (by decide) (by decide) (Nat.le_of_ble_eq_true rfl) (Nat.le_of_ble_eq_true rfl)) rfl rfl (Nat.le_of_ble_eq_true rfl) dX9_eject_29 (fun r_1 S_2 hp_3 => ?_)
  obtain ⟨rfl, e_4⟩ := hp_3
  refine J.eq (S' := S) (st' := [.int 0]) (lv' := [(0, .ref (ad 6))]) e_4 rfl rfl ?_
  refine j_if_eq (tgt := 113) C dX9_eject_32 (by decide) (fun c9 => ?_) (fun c9 => absurd (by decide) c9)
  refine j_iconst (v := 0) C dX9_eject_113 (by decide) ?_
  refine j_istore_n (lv' := [(1, .int 0), (0, .ref (ad 6))]) C dX9_eject_114 rfl (by rw [hn9]; decide) rfl ?_
  show J _ _ _ _ _ 115 _
  refine j_iload_n C dX9_eject_115 rfl 0 rfl ?_
  refine j_aload_n C dX9_eject_116 rfl 1 rfl ?_
  refine j_getr (f := 909) (v := (ad 26)) C flX9_57 dX9_eject_117 (wm_6 (S := S) hW) (wk_6 (S := S) hW) (by decide) rfl (wr_909_6 (S := S) hW) ?_
  refine j_geti (f := 106) (v := 1) C flX9_419 dX9_eject_120 (wm_26 (S := S) hW) (wk_26 (S := S) hW) (by decide) (by decide) rfl hI_106_ad26 ?_
  refine j_ic_ge (tgt := 177) C dX9_eject_123 (by decide) (fun c9 => absurd c9 (by decide)) (fun c9 => ?_)
  refine j_aload_n C dX9_eject_126 rfl 1 rfl ?_
  refine j_callV (ci := 9) C [] [] mlX9_118 mcX9_isMuch (c_X9_isMuch S ad hW gn hI_916_ad6 (by omega) hI_5_ad12 hI_603_ad5) (wm_6 (S := S) hW) (wk_6 (S := S) hW) rfl (M.rm (by decide) (by decide) (Nat.le_of_ble_eq_true rfl) (Nat.le_of_ble_eq_true rfl)) rfl rfl (Nat.le_of_ble_eq_true rfl) dX9_eject_127 (fun r_5 S_6 hp_7 => ?_)
  obtain ⟨rfl, e_8⟩ := hp_7
  refine J.eq (S' := S) (st' := [.int 0]) (lv' := [(1, .int 0), (0, .ref (ad 6))]) e_8 rfl rfl ?_
  refine j_if_ne (tgt := 177) C dX9_eject_130 (by decide) (fun c9 => absurd c9 (by decide)) (fun c9 => ?_)
  show J _ _ _ _ _ 133 _
  refine j_aload_n C dX9_eject_133 rfl 1 rfl ?_
  refine j_getr (f := 909) (v := (ad 26)) C flX9_57 dX9_eject_134 (wm_6 (S := S) hW) (wk_6 (S := S) hW) (by decide) rfl (wr_909_6 (S := S) hW) ?_
  refine j_getr (f := 100) (v := (ad 27)) C flX9_129 dX9_eject_137 (wm_26 (S := S) hW) (wk_26 (S := S) hW) (by decide) rfl (wr_100_26 (S := S) hW) ?_
  refine j_astore_n (lv' := [(2, .ref (ad 27)), (1, .int 0), (0, .ref (ad 6))]) C dX9_eject_140 rfl (by rw [hn9]; decide) rfl ?_
  refine j_aload_n C dX9_eject_141 rfl 2 rfl ?_
  refine j_getr (f := 901) (v := (ad 12)) C flX9_12 dX9_eject_142 (wm_6 (S := S) hW) (wk_6 (S := S) hW) (by decide) rfl (wr_901_6 (S := S) hW) ?_
  refine j_aload_n C dX9_eject_145 rfl 2 rfl ?_
  refine j_getr (f := 900) (v := (ad 5)) C flX9_77 dX9_eject_146 (wm_6 (S := S) hW) (wk_6 (S := S) hW) (by decide) rfl (wr_900_6 (S := S) hW) ?_
  show J _ _ _ _ _ 149 _
  refine j_callV (ci := 6) C [] [.ref (ad 12)] mlX9_508 mcX6_nextPage (c_X6_nextPage S ad hW hI_602_ad5) (wm_5 (S := S) hW) (wk_5 (S := S) hW) rfl (M.rm (by decide) (by decide) (Nat.le_of_ble_eq_true rfl) (Nat.le_of_ble_eq_true rfl)) rfl rfl (Nat.le_of_ble_eq_true rfl) dX9_eject_149 (fun r_9 S_10 hp_11 => ?_)
  obtain ⟨rfl, e_12⟩ := hp_11
  refine J.eq (S' := S) (st' := [.ref (ad 11), .ref (ad 12)]) (lv' := [(2, .ref (ad 27)), (1, .int 0), (0, .ref (ad 6))]) e_12 rfl rfl ?_
  refine j_aload_n C dX9_eject_152 rfl 0 rfl ?_
  refine j_callV (ci := 0) C [.ref (ad 11), .ref (ad 27)] [] mlX9_511 mcX0_copyTo (c_X0_copyTo S ad hW hI_700_ad27 hI_701_ad27 (aI S (ad 13)) rfl) (wm_12 (S := S) hW) (wk_12 (S := S) hW) rfl (M.rm (by decide) (by decide) (Nat.le_of_ble_eq_true rfl) (Nat.le_of_ble_eq_true rfl)) rfl rfl (Nat.le_of_ble_eq_true rfl) dX9_eject_153 (fun r_14 S_15 hp_16 => ?_)
  obtain ⟨rfl, hf_17, x_13⟩ := hp_16
  refine J.eq (st' := []) rfl rfl rfl ?_
  have hv_18 : hI S_15 106 (ad 26) = 1 := hf_17.fi (wm_26 (S := S) hW) (fun h9 => h9) hI_106_ad26
  have hv_19 : hI S_15 120 (ad 26) = (-1) := hf_17.fi (wm_26 (S := S) hW) (fun h9 => h9) hI_120_ad26
  have hv_20 : hI S_15 2 (ad 12) = nI mk := hf_17.fi (wm_12 (S := S) hW) (fun h9 => h9) hI_2_ad12
  have hv_21 : hI S_15 5 (ad 12) = 0 := hf_17.fi (wm_12 (S := S) hW) (fun h9 => h9) hI_5_ad12
  have hv_22 : hI S_15 601 (ad 5) = 0 := hf_17.fi (wm_5 (S := S) hW) (fun h9 => h9) hI_601_ad5
  have hv_23 : hI S_15 602 (ad 5) = 0 := hf_17.fi (wm_5 (S := S) hW) (fun h9 => h9) hI_602_ad5
  have hv_24 : hI S_15 603 (ad 5) = 0 := hf_17.fi (wm_5 (S := S) hW) (fun h9 => h9) hI_603_ad5
  have hv_25 : hI S_15 700 (ad 27) = 0 := hf_17.fi (wm_27 (S := S) hW) (fun h9 => h9) hI_700_ad27
  have hv_26 : hI S_15 701 (ad 27) = 0 := hf_17.fi (wm_27 (S := S) hW) (fun h9 => h9) hI_701_ad27
  have hv_27 : hI S_15 915 (ad 6) = 0 := hf_17.fi (wm_6 (S := S) hW) (fun h9 => h9) hI_915_ad6
  have hv_28 : hI S_15 916 (ad 6) = nI gn := hf_17.fi (wm_6 (S := S) hW) (fun h9 => h9) hI_916_ad6
  have hf_29 : Fm (fun f9 b9 => (f9 = 601 ∧ b9 = (ad 5)) ∨ (f9 = 602 ∧ b9 = (ad 5)) ∨ (f9 = 607 ∧ b9 = (ad 5)) ∨ (f9 = 608 ∧ b9 = (ad 5)) ∨ (f9 = 609 ∧ b9 = (ad 5)) ∨ (f9 = 2 ∧ b9 = (ad 12))) (fun _ _ => False) (fun b9 => b9 = (ad 7) ∨ b9 = (ad 8) ∨ b9 = (ad 9) ∨ b9 = (ad 11) ∨ b9 = (ad 13)) S S_15 := (Fm.refl (WI := (fun f9 b9 => (f9 = 601 ∧ b9 = (ad 5)) ∨ (f9 = 602 ∧ b9 = (ad 5)) ∨ (f9 = 607 ∧ b9 = (ad 5)) ∨ (f9 = 608 ∧ b9 = (ad 5)) ∨ (f9 = 609 ∧ b9 = (ad 5)) ∨ (f9 = 2 ∧ b9 = (ad 12)))) (WR := (fun _ _ => False)) (WA := (fun b9 => b9 = (ad 7) ∨ b9 = (ad 8) ∨ b9 = (ad 9) ∨ b9 = (ad 11) ∨ b9 = (ad 13)))).then hf_17 (fun a9 ha9 => ⟨(fun f9 h9 => h9.elim), (fun f9 h9 => h9.elim), (fun h9 => (fun h8 => (Or.inr (Or.inr (Or.inr (Or.inl h8))))) h9)⟩)
  have hW_30 : Wd ad S_15 := hW.fm hf_17 (by intro _ _ h9; exact h9) (by intro p9 hp9; simp only [wqL, List.mem_cons, List.not_mem_nil, or_false] at hp9; rcases hp9 with rfl | rfl <;> intro h9 <;> skip <;> exact absurd h9 (wn hW (by decide) (by decide) (by decide)))
  have hx_31 : CVP (aI S_15 (ad 13)) P := by
    have e0_9 : (aI S_15 (ad 13)) = (aI S (ad 13)) := funext fun j9 => hf_17.ai (wm_13 (S := S) hW) (fun q9 => (wn (S := S) hW (i := 13) (j := 11) (by decide) (by decide) (by decide)) q9) j9
    first | (rw [e0_9]; exact hcv) | rw [e0_9]
  have hx_32 : aI S_15 (ad 13) = aI S (ad 13) := by
    have e0_9 : (aI S_15 (ad 13)) = (aI S (ad 13)) := funext fun j9 => hf_17.ai (wm_13 (S := S) hW) (fun q9 => (wn (S := S) hW (i := 13) (j := 11) (by decide) (by decide) (by decide)) q9) j9
    first | (rw [e0_9]; exact rfl) | rw [e0_9]
  refine j_aload_n C dX9_eject_156 rfl 2 rfl ?_
  refine j_getr (f := 900) (v := (ad 5)) C flX9_77 dX9_eject_157 (wm_6 (S := S_15) hW_30) (wk_6 (S := S_15) hW_30) (by decide) rfl (wr_900_6 (S := S_15) hW_30) ?_
  refine j_aload_n C dX9_eject_160 rfl 0 rfl ?_
  refine j_callV (ci := 7) C [] [.ref (ad 5)] mlX9_515 mcX7_pageWide (c_X7_pageWide S_15 (ad 27) (wm_27 (S := S_15) hW_30) (wk_27 (S := S_15) hW_30) hv_25 hv_26) (wm_27 (S := S_15) hW_30) (wk_27 (S := S_15) hW_30) rfl (M.rm (by decide) (by decide) (Nat.le_of_ble_eq_true rfl) (Nat.le_of_ble_eq_true rfl)) rfl rfl (Nat.le_of_ble_eq_true rfl) dX9_eject_161 (fun r_33 S_34 hp_35 => ?_)
  obtain ⟨rfl, e_36⟩ := hp_35
  refine J.eq (S' := S_15) (st' := [.int 200, .ref (ad 5)]) (lv' := [(2, .ref (ad 27)), (1, .int 0), (0, .ref (ad 6))]) e_36 rfl rfl ?_
  refine j_aload_n C dX9_eject_164 rfl 0 rfl ?_
  show J _ _ _ _ _ 165 _
  refine j_callV (ci := 7) C [] [.int 200, .ref (ad 5)] mlX9_518 mcX7_pageHigh (c_X7_pageHigh S_15 (ad 27) (wm_27 (S := S_15) hW_30) (wk_27 (S := S_15) hW_30) hv_25 hv_26) (wm_27 (S := S_15) hW_30) (wk_27 (S := S_15) hW_30) rfl (M.rm (by decide) (by decide) (Nat.le_of_ble_eq_true rfl) (Nat.le_of_ble_eq_true rfl)) rfl rfl (Nat.le_of_ble_eq_true rfl) dX9_eject_165 (fun r_37 S_38 hp_39 => ?_)
  obtain ⟨rfl, e_40⟩ := hp_39
  refine J.eq (S' := S_15) (st' := [.int 240, .int 200, .ref (ad 5)]) (lv' := [(2, .ref (ad 27)), (1, .int 0), (0, .ref (ad 6))]) e_40 rfl rfl ?_
  refine j_callV (ci := 6) C [.int 200, .int 240] [] mlX9_521 mcX6_come (c_X6_come S_15 ad hW_30 hv_22 hv_23 hv_24 (pgF (fillN (aI S (ad 11)) 16000 0) (aI S (ad 13)) 240 0) x_13 (pg_white _ hcv hwP)) (wm_5 (S := S_15) hW_30) (wk_5 (S := S_15) hW_30) rfl (M.rm (by decide) (by decide) (Nat.le_of_ble_eq_true rfl) (Nat.le_of_ble_eq_true rfl)) rfl rfl (Nat.le_of_ble_eq_true rfl) dX9_eject_168 (fun r_44 S_45 hp_46 => ?_)
  obtain ⟨rfl, hf_47, e_41, x_42, x_43⟩ := hp_46
  refine J.eq (st' := []) rfl rfl rfl ?_
  have hv_48 : hI S_45 106 (ad 26) = 1 := hf_47.fi (wm_26 (S := S_15) hW_30) (fun h9 => h9.elim (fun q9 => absurd q9.1 (by decide)) (fun h9 => h9.elim (fun q9 => absurd q9.1 (by decide)) (fun h9 => h9.elim (fun q9 => absurd q9.1 (by decide)) (fun h9 => h9.elim (fun q9 => absurd q9.1 (by decide)) (fun q9 => absurd q9.1 (by decide)))))) hv_18
  have hv_49 : hI S_45 120 (ad 26) = (-1) := hf_47.fi (wm_26 (S := S_15) hW_30) (fun h9 => h9.elim (fun q9 => absurd q9.1 (by decide)) (fun h9 => h9.elim (fun q9 => absurd q9.1 (by decide)) (fun h9 => h9.elim (fun q9 => absurd q9.1 (by decide)) (fun h9 => h9.elim (fun q9 => absurd q9.1 (by decide)) (fun q9 => absurd q9.1 (by decide)))))) hv_19
  have hv_50 : hI S_45 2 (ad 12) = nI mk := hf_47.fi (wm_12 (S := S_15) hW_30) (fun h9 => h9.elim (fun q9 => absurd q9.1 (by decide)) (fun h9 => h9.elim (fun q9 => absurd q9.1 (by decide)) (fun h9 => h9.elim (fun q9 => absurd q9.1 (by decide)) (fun h9 => h9.elim (fun q9 => absurd q9.1 (by decide)) (fun q9 => absurd q9.1 (by decide)))))) hv_20
  have hv_51 : hI S_45 5 (ad 12) = 0 := hf_47.fi (wm_12 (S := S_15) hW_30) (fun h9 => h9.elim (fun q9 => absurd q9.1 (by decide)) (fun h9 => h9.elim (fun q9 => absurd q9.1 (by decide)) (fun h9 => h9.elim (fun q9 => absurd q9.1 (by decide)) (fun h9 => h9.elim (fun q9 => absurd q9.1 (by decide)) (fun q9 => absurd q9.1 (by decide)))))) hv_21
  have hv_52 : hI S_45 603 (ad 5) = 0 := hf_47.fi (wm_5 (S := S_15) hW_30) (fun h9 => h9.elim (fun q9 => absurd q9.1 (by decide)) (fun h9 => h9.elim (fun q9 => absurd q9.1 (by decide)) (fun h9 => h9.elim (fun q9 => absurd q9.1 (by decide)) (fun h9 => h9.elim (fun q9 => absurd q9.1 (by decide)) (fun q9 => absurd q9.1 (by decide)))))) hv_24
  have hv_53 : hI S_45 700 (ad 27) = 0 := hf_47.fi (wm_27 (S := S_15) hW_30) (fun h9 => h9.elim (fun q9 => absurd q9.1 (by decide)) (fun h9 => h9.elim (fun q9 => absurd q9.1 (by decide)) (fun h9 => h9.elim (fun q9 => absurd q9.1 (by decide)) (fun h9 => h9.elim (fun q9 => absurd q9.1 (by decide)) (fun q9 => absurd q9.1 (by decide)))))) hv_25
  have hv_54 : hI S_45 701 (ad 27) = 0 := hf_47.fi (wm_27 (S := S_15) hW_30) (fun h9 => h9.elim (fun q9 => absurd q9.1 (by decide)) (fun h9 => h9.elim (fun q9 => absurd q9.1 (by decide)) (fun h9 => h9.elim (fun q9 => absurd q9.1 (by decide)) (fun h9 => h9.elim (fun q9 => absurd q9.1 (by decide)) (fun q9 => absurd q9.1 (by decide)))))) hv_26
  have hv_55 : hI S_45 915 (ad 6) = 0 := hf_47.fi (wm_6 (S := S_15) hW_30) (fun h9 => h9.elim (fun q9 => absurd q9.1 (by decide)) (fun h9 => h9.elim (fun q9 => absurd q9.1 (by decide)) (fun h9 => h9.elim (fun q9 => absurd q9.1 (by decide)) (fun h9 => h9.elim (fun q9 => absurd q9.1 (by decide)) (fun q9 => absurd q9.1 (by decide)))))) hv_27
  have hv_56 : hI S_45 916 (ad 6) = nI gn := hf_47.fi (wm_6 (S := S_15) hW_30) (fun h9 => h9.elim (fun q9 => absurd q9.1 (by decide)) (fun h9 => h9.elim (fun q9 => absurd q9.1 (by decide)) (fun h9 => h9.elim (fun q9 => absurd q9.1 (by decide)) (fun h9 => h9.elim (fun q9 => absurd q9.1 (by decide)) (fun q9 => absurd q9.1 (by decide)))))) hv_28
  have hf_57 : Fm (fun f9 b9 => (f9 = 601 ∧ b9 = (ad 5)) ∨ (f9 = 602 ∧ b9 = (ad 5)) ∨ (f9 = 607 ∧ b9 = (ad 5)) ∨ (f9 = 608 ∧ b9 = (ad 5)) ∨ (f9 = 609 ∧ b9 = (ad 5)) ∨ (f9 = 2 ∧ b9 = (ad 12))) (fun _ _ => False) (fun b9 => b9 = (ad 7) ∨ b9 = (ad 8) ∨ b9 = (ad 9) ∨ b9 = (ad 11) ∨ b9 = (ad 13)) S S_45 := hf_29.then hf_47 (fun a9 ha9 => ⟨(fun f9 h9 => (fun h9 => h9.elim (fun h8 => (Or.inl h8)) (fun h9 => h9.elim (fun h8 => (Or.inr (Or.inl h8))) (fun h9 => h9.elim (fun h8 => (Or.inr (Or.inr (Or.inl h8)))) (fun h9 => h9.elim (fun h8 => (Or.inr (Or.inr (Or.inr (Or.inl h8))))) (fun h8 => (Or.inr (Or.inr (Or.inr (Or.inr (Or.inl h8)))))))))) h9), (fun f9 h9 => h9.elim), (fun h9 => (fun h9 => h9.elim (fun h8 => (Or.inl h8)) (fun h9 => h9.elim (fun h8 => (Or.inr (Or.inl h8))) (fun h8 => (Or.inr (Or.inr (Or.inl h8)))))) h9)⟩)
  have hW_58 : Wd ad S_45 := hW_30.fm hf_47 (by intro _ _ h9; exact h9) (by intro p9 hp9; simp only [wqL, List.mem_cons, List.not_mem_nil, or_false] at hp9; rcases hp9 with rfl | rfl <;> intro h9 <;> rcases h9 with h9 | h9 | h9 <;> exact absurd h9 (wn hW_30 (by decide) (by decide) (by decide)))
  have hx_59 : CVP (aI S_45 (ad 13)) P := by
    have e0_9 : (aI S_45 (ad 13)) = (aI S_15 (ad 13)) := funext fun j9 => hf_47.ai (wm_13 (S := S_15) hW_30) (fun h9 => h9.elim (fun q9 => (wn (S := S_15) hW_30 (i := 13) (j := 7) (by decide) (by decide) (by decide)) q9) (fun h9 => h9.elim (fun q9 => (wn (S := S_15) hW_30 (i := 13) (j := 8) (by decide) (by decide) (by decide)) q9) (fun q9 => (wn (S := S_15) hW_30 (i := 13) (j := 9) (by decide) (by decide) (by decide)) q9))) j9
    first | (rw [e0_9]; exact hx_31) | rw [e0_9]
  have hx_60 : aI S_45 (ad 13) = aI S (ad 13) := by
    have e0_9 : (aI S_45 (ad 13)) = (aI S_15 (ad 13)) := funext fun j9 => hf_47.ai (wm_13 (S := S_15) hW_30) (fun h9 => h9.elim (fun q9 => (wn (S := S_15) hW_30 (i := 13) (j := 7) (by decide) (by decide) (by decide)) q9) (fun h9 => h9.elim (fun q9 => (wn (S := S_15) hW_30 (i := 13) (j := 8) (by decide) (by decide) (by decide)) q9) (fun q9 => (wn (S := S_15) hW_30 (i := 13) (j := 9) (by decide) (by decide) (by decide)) q9))) j9
    first | (rw [e0_9]; exact hx_32) | rw [e0_9]
  have hx_61 : aI S_45 (ad 11) = (pgF (fillN (aI S (ad 11)) 16000 0) (aI S (ad 13)) 240 0) := by
    have e0_9 : (aI S_45 (ad 11)) = (aI S_15 (ad 11)) := funext fun j9 => hf_47.ai (wm_11 (S := S_15) hW_30) (fun h9 => h9.elim (fun q9 => (wn (S := S_15) hW_30 (i := 11) (j := 7) (by decide) (by decide) (by decide)) q9) (fun h9 => h9.elim (fun q9 => (wn (S := S_15) hW_30 (i := 11) (j := 8) (by decide) (by decide) (by decide)) q9) (fun q9 => (wn (S := S_15) hW_30 (i := 11) (j := 9) (by decide) (by decide) (by decide)) q9))) j9
    first | (rw [e0_9]; exact x_13) | rw [e0_9]
  refine j_iinc (q := 1) (v := 1) (lv' := [(1, .int 1), (2, .ref (ad 27)), (0, .ref (ad 6))]) C dX9_eject_171 rfl (by decide) (by rw [hn9]; decide) rfl ?_
  refine j_goto (tgt := 115) C dX9_eject_174 (by decide) ?_
  refine j_iload_n C dX9_eject_115 rfl 0 rfl ?_
  refine j_aload_n C dX9_eject_116 rfl 2 rfl ?_
  refine j_getr (f := 909) (v := (ad 26)) C flX9_57 dX9_eject_117 (wm_6 (S := S_45) hW_58) (wk_6 (S := S_45) hW_58) (by decide) rfl (wr_909_6 (S := S_45) hW_58) ?_
  refine j_geti (f := 106) (v := 1) C flX9_419 dX9_eject_120 (wm_26 (S := S_45) hW_58) (wk_26 (S := S_45) hW_58) (by decide) (by decide) rfl hv_48 ?_
  show J _ _ _ _ _ 123 _
  refine j_ic_ge (tgt := 177) C dX9_eject_123 (by decide) (fun c9 => ?_) (fun c9 => absurd (by decide) c9)
  refine j_aload_n C dX9_eject_177 rfl 2 rfl ?_
  refine j_getr (f := 901) (v := (ad 12)) C flX9_12 dX9_eject_178 (wm_6 (S := S_45) hW_58) (wk_6 (S := S_45) hW_58) (by decide) rfl (wr_901_6 (S := S_45) hW_58) ?_
  refine j_callV (ci := 0) C [] [] mlX9_105 mcX0_clear (c_X0_clear S_45 ad hW_58) (wm_12 (S := S_45) hW_58) (wk_12 (S := S_45) hW_58) rfl (M.rm (by decide) (by decide) (Nat.le_of_ble_eq_true rfl) (Nat.le_of_ble_eq_true rfl)) rfl rfl (Nat.le_of_ble_eq_true rfl) dX9_eject_181 (fun r_62 S_63 hp_64 => ?_)
  obtain ⟨rfl, e_65⟩ := hp_64
  refine J.eq (S' := (rI (sI S_45 2 (ad 12) 0) (ad 13) (fillN (aI (sI S_45 2 (ad 12) 0) (ad 13)) 20000 0))) (st' := []) (lv' := [(1, .int 1), (2, .ref (ad 27)), (0, .ref (ad 6))]) e_65 rfl rfl ?_
  exact j_vret C M dX9_eject_184 (Nat.le_of_ble_eq_true rfl) (Nat.le_of_ble_eq_true rfl) ⟨rfl, ((hf_57.sI _ (fun _ => (Or.inr (Or.inr (Or.inr (Or.inr (Or.inr ⟨rfl, rfl⟩))))))).rI _ (fun _ => (Or.inr (Or.inr (Or.inr (Or.inr rfl)))))), (rxI_rI (S := (sI S_45 2 (ad 12) 0)) (rd_sI (S := S_45) (g := 2) (a := (ad 12)) (v := 0))), (rxI_rI (S := (sI S_45 2 (ad 12) 0)) (rd_sIf (S := S_45) (g := 2) (a := (ad 12)) (v := 0) (by decide) e_41)), (by rw [show aI (rI (sI S_45 2 (ad 12) 0) (ad 13) (fillN (aI (sI S_45 2 (ad 12) 0) (ad 13)) 20000 0)) (ad 8) = aI S_45 (ad 8) from ((ar_rI (S := (sI S_45 2 (ad 12) 0)) (wn (S := S_45) hW_58 (i := 8) (j := 13) (by decide) (by decide) (by decide))).trans (arI_sI (S := S_45)))]; exact x_42), (by rw [show aI (rI (sI S_45 2 (ad 12) 0) (ad 13) (fillN (aI (sI S_45 2 (ad 12) 0) (ad 13)) 20000 0)) (ad 9) = aI S_45 (ad 9) from ((ar_rI (S := (sI S_45 2 (ad 12) 0)) (wn (S := S_45) hW_58 (i := 9) (j := 13) (by decide) (by decide) (by decide))).trans (arI_sI (S := S_45)))]; exact x_43), (by rw [show aI (rI (sI S_45 2 (ad 12) 0) (ad 13) (fillN (aI (sI S_45 2 (ad 12) 0) (ad 13)) 20000 0)) (ad 11) = (pgF (fillN (aI S (ad 11)) 16000 0) (aI S (ad 13)) 240 0) from (by rw [show aI (rI (sI S_45 2 (ad 12) 0) (ad 13) (fillN (aI (sI S_45 2 (ad 12) 0) (ad 13)) 20000 0)) (ad 11) = aI S_45 (ad 11) from ((ar_rI (S := (sI S_45 2 (ad 12) 0)) (wn (S := S_45) hW_58 (i := 11) (j := 13) (by decide) (by decide) (by decide))).trans (arI_sI (S := S_45)))]; exact hx_61)]; exact pg_pgp _ hcv), (show CVP (aI (rI (sI S_45 2 (ad 12) 0) (ad 13) (fillN (aI (sI S_45 2 (ad 12) 0) (ad 13)) 20000 0)) (ad 13)) (fun _ _ => false) from by rw [show aI (rI (sI S_45 2 (ad 12) 0) (ad 13) (fillN (aI (sI S_45 2 (ad 12) 0) (ad 13)) 20000 0)) (ad 13) = (fillN (aI (sI S_45 2 (ad 12) 0) (ad 13)) 20000 0) from funext fun j9 => rd_rIs]; exact clear_cvp)⟩
