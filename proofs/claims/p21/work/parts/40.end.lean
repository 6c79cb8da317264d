set_option maxRecDepth 100000 in
set_option maxHeartbeats 4000000 in
theorem law_fin1 {x : JX} {b L : Nat} {xs : Nat → Int32} (C : CB x RL cL_law) (M : LM x b) (X : LX x b L xs) (hn9 : x_n x = 21) (ad : Nat → Nat) (ga ma kq nq : Nat) (hkq : kq ≤ 600000) (hnq : nq ≤ 7302250) (hga : ∀ i, i < 37 → ga ≠ ad i) (hma : ∀ i, i < 37 → ma ≠ ad i) (hgm : ga ≠ ma) (B : Nat → Nat) (hb : ∀ j, B j < 128) (S : Hp) (T : Nat) (bs : List Bx) (hL9 : L ≤ 260) (hbs : ∀ b ∈ bs, okB b) (hBs : Has B 0 (jobL bs)) (hnb : 5 + (boxsL bs).length = T) (hmb : bs.length ≤ 120) (hT : T ≤ 3500) (hzB : ∀ j, T ≤ j → B j = 0) (hz : 0 < bs.length) (h9 : LI ad ga ma B T (boxsO (fun _ _ => false) bs) S) : J x kq nq S [(0, .ref b), (1, .ref (ad 0)), (2, .ref ga), (3, .ref ma), (4, .int (nI bs.length)), (5, .int (nI (2 * bs.length)))] 462 [] := by
  obtain ⟨hW, ⟨m_ga, k_ga, l_ga⟩, ⟨m_ma, k_ma, l_ma⟩, hi1101, hi1105, hi209, hs, hgs, hmp, z_sa, z_fss, z_tss, z_mss⟩ := h9
  refine j_aload_n C dL_law_462 rfl 1 rfl ?_
  refine j_aload_n C dL_law_463 rfl 2 rfl ?_
  refine j_iconst (v := 0) C dL_law_464 (by decide) ?_
  refine j_callS C [.ref (ad 0), .ref ga, .int 0] [] mlL_48 mcL_close (c_L_close S ad hW ga m_ga k_ga l_ga hga B T hi1101 hs hgs hb hi1105 z_sa hzB (by omega)) (M.rm (by decide) (by decide) (by omega) (by omega)) rfl rfl (Nat.le_of_ble_eq_true rfl) dL_law_465 (fun r_6 S_7 hp_8 => ?_)
  obtain ⟨rfl, hf_9, e_1, x_2, x_3, x_4, x_5⟩ := hp_8
  refine J.eq (st' := [.int 1]) rfl rfl rfl ?_
  have hz_10 : ∀ j, aI S_7 (ad 17) j = 0 := fun j9 => (hf_9.ai (wm_17 (S := S) hW) (fun h9 => h9.elim (fun q9 => (wn (S := S) hW (i := 17) (j := 1) (by decide) (by decide) (by decide)) q9) (fun h9 => h9.elim (fun q9 => (Ne.symm (hga 17 (by decide))) q9) (fun h9 => h9.elim (fun q9 => (wn (S := S) hW (i := 17) (j := 2) (by decide) (by decide) (by decide)) q9) (fun h9 => h9.elim (fun q9 => (wn (S := S) hW (i := 17) (j := 3) (by decide) (by decide) (by decide)) q9) (fun q9 => (wn (S := S) hW (i := 17) (j := 4) (by decide) (by decide) (by decide)) q9))))) j9).trans (z_fss j9)
  have hz_11 : ∀ j, aI S_7 (ad 21) j = 0 := fun j9 => (hf_9.ai (wm_21 (S := S) hW) (fun h9 => h9.elim (fun q9 => (wn (S := S) hW (i := 21) (j := 1) (by decide) (by decide) (by decide)) q9) (fun h9 => h9.elim (fun q9 => (Ne.symm (hga 21 (by decide))) q9) (fun h9 => h9.elim (fun q9 => (wn (S := S) hW (i := 21) (j := 2) (by decide) (by decide) (by decide)) q9) (fun h9 => h9.elim (fun q9 => (wn (S := S) hW (i := 21) (j := 3) (by decide) (by decide) (by decide)) q9) (fun q9 => (wn (S := S) hW (i := 21) (j := 4) (by decide) (by decide) (by decide)) q9))))) j9).trans (z_tss j9)
  have hz_12 : ∀ j, aI S_7 (ad 23) j = 0 := fun j9 => (hf_9.ai (wm_23 (S := S) hW) (fun h9 => h9.elim (fun q9 => (wn (S := S) hW (i := 23) (j := 1) (by decide) (by decide) (by decide)) q9) (fun h9 => h9.elim (fun q9 => (Ne.symm (hga 23 (by decide))) q9) (fun h9 => h9.elim (fun q9 => (wn (S := S) hW (i := 23) (j := 2) (by decide) (by decide) (by decide)) q9) (fun h9 => h9.elim (fun q9 => (wn (S := S) hW (i := 23) (j := 3) (by decide) (by decide) (by decide)) q9) (fun q9 => (wn (S := S) hW (i := 23) (j := 4) (by decide) (by decide) (by decide)) q9))))) j9).trans (z_mss j9)
  have hm_13 : ga ∈ hL S_7 := hf_9.mem m_ga
  have hk_14 : Kd S_7 ga 14 := hf_9.kd m_ga k_ga
  have hn_15 : Ln S_7 ga 7 := hf_9.ln m_ga l_ga
  have hm_16 : ma ∈ hL S_7 := hf_9.mem m_ma
  have hk_17 : Kd S_7 ma 14 := hf_9.kd m_ma k_ma
  have hn_18 : Ln S_7 ma 4096 := hf_9.ln m_ma l_ma
  have hv_19 : hI S_7 209 (ad 15) = 0 := hf_9.fi (wm_15 (S := S) hW) (fun h9 => h9.elim (fun q9 => absurd q9.1 (by decide)) (fun q9 => absurd q9.1 (by decide))) hi209
  have hW_20 : Wd ad S_7 := hW.fm hf_9 (by intro _ _ h9; exact h9) (by intro p9 hp9; simp only [wqL, List.mem_cons, List.not_mem_nil, or_false] at hp9; rcases hp9 with rfl | rfl <;> intro h9 <;> rcases h9 with h9 | h9 | h9 | h9 | h9 <;> (first | exact absurd h9 (wn hW (by decide) (by decide) (by decide)) | exact absurd h9.symm (hga _ (by decide))))
  have hx_21 : MP (aI S_7 ma) (boxsO (fun _ _ => false) bs) := by
    have e0_9 : (aI S_7 ma) = (aI S ma) := funext fun j9 => hf_9.ai m_ma (fun h9 => h9.elim (fun q9 => (hma 1 (by decide)) q9) (fun h9 => h9.elim (fun q9 => (Ne.symm hgm) q9) (fun h9 => h9.elim (fun q9 => (hma 2 (by decide)) q9) (fun h9 => h9.elim (fun q9 => (hma 3 (by decide)) q9) (fun q9 => (hma 4 (by decide)) q9))))) j9
    first | (rw [e0_9]; exact hmp) | rw [e0_9]
  refine j_pop C dL_law_468 rfl ?_
  refine j_aload_n C dL_law_469 rfl 1 rfl ?_
  refine j_iconst (v := 1) C dL_law_470 (by decide) ?_
  refine j_aload_n C dL_law_471 rfl 0 rfl ?_
  show J _ _ _ _ _ 472 _
  refine j_iconst (v := 0) C dL_law_472 (by decide) ?_
  refine j_callSL C X [.ref b, .int 0] [.int 1, .ref (ad 0)] mlL_35 mcL_cell (c_cell S_7 b L xs 0 hL9 (by omega)) (M.rm (by decide) (by decide) (by omega) (by omega)) rfl rfl (Nat.le_of_ble_eq_true rfl) dL_law_473 (fun r_22 S_23 hp_24 => ?_)
  obtain ⟨rfl, e_25⟩ := hp_24
  refine J.eq (S' := S_7) (st' := [.int (cellN xs L 0), .int 1, .ref (ad 0)]) e_25 rfl rfl ?_
  refine j_bipush (v := 24) C dL_law_476 (by decide) ?_
  refine j_ishr (v := ((cellN xs L 0) >>> ((24 : Int32) &&& 31))) C dL_law_478 rfl ?_
  refine j_bipush (v := 127) C dL_law_479 (by decide) ?_
  refine j_iand (v := nI (wN ((cellN xs L 0) >>> ((24 : Int32) &&& 31)) % 128)) C dL_law_481 (and_127 _) ?_
  refine j_iadd (v := nI (1 + (wN ((cellN xs L 0) >>> ((24 : Int32) &&& 31)) % 128))) C dL_law_482 (nI_add 1 (wN ((cellN xs L 0) >>> ((24 : Int32) &&& 31)) % 128)) ?_
  refine j_callV (ci := 11) C [.int (nI (1 + (wN ((cellN xs L 0) >>> ((24 : Int32) &&& 31)) % 128)))] [] mlL_52 mcX11_print (c_print1 S_7 ad hW_20 (1 + (wN ((cellN xs L 0) >>> ((24 : Int32) &&& 31)) % 128)) B T e_1 x_2 x_3 x_4 x_5 hv_19 hz_10 hz_11 hz_12 bs hbs hBs hnb hmb (by omega) (by omega) hz) (wm_0 (S := S_7) hW_20) (wk_0 (S := S_7) hW_20) rfl (M.rm (by decide) (by decide) (by omega) (by omega)) rfl rfl (Nat.le_of_ble_eq_true rfl) dL_law_483 (fun r_31 S_32 hp_33 => ?_)
  obtain ⟨rfl, hf_34, e_26, e_27, x_28, x_29, x_30⟩ := hp_33
  refine J.eq (st' := [.int 1]) rfl rfl rfl ?_
  have hz_35 : ∀ j, aI S_32 (ad 17) j = 0 := fun j9 => (hf_34.ai (wm_17 (S := S_7) hW_20) (fun h9 => h9.elim (fun q9 => (wn (S := S_7) hW_20 (i := 17) (j := 25) (by decide) (by decide) (by decide)) q9) (fun h9 => h9.elim (fun q9 => (wn (S := S_7) hW_20 (i := 17) (j := 14) (by decide) (by decide) (by decide)) q9) (fun h9 => h9.elim (fun q9 => (wn (S := S_7) hW_20 (i := 17) (j := 13) (by decide) (by decide) (by decide)) q9) (fun h9 => h9.elim (fun q9 => (wn (S := S_7) hW_20 (i := 17) (j := 7) (by decide) (by decide) (by decide)) q9) (fun h9 => h9.elim (fun q9 => (wn (S := S_7) hW_20 (i := 17) (j := 8) (by decide) (by decide) (by decide)) q9) (fun h9 => h9.elim (fun q9 => (wn (S := S_7) hW_20 (i := 17) (j := 9) (by decide) (by decide) (by decide)) q9) (fun h9 => h9.elim (fun q9 => (wn (S := S_7) hW_20 (i := 17) (j := 11) (by decide) (by decide) (by decide)) q9) (fun h9 => h9.elim (fun q9 => (wn (S := S_7) hW_20 (i := 17) (j := 29) (by decide) (by decide) (by decide)) q9) (fun h9 => h9.elim (fun q9 => (wn (S := S_7) hW_20 (i := 17) (j := 31) (by decide) (by decide) (by decide)) q9) (fun h9 => h9.elim (fun q9 => (wn (S := S_7) hW_20 (i := 17) (j := 32) (by decide) (by decide) (by decide)) q9) (fun h9 => h9.elim (fun q9 => (wn (S := S_7) hW_20 (i := 17) (j := 33) (by decide) (by decide) (by decide)) q9) (fun h9 => h9.elim (fun q9 => (wn (S := S_7) hW_20 (i := 17) (j := 36) (by decide) (by decide) (by decide)) q9) (fun q9 => (wn (S := S_7) hW_20 (i := 17) (j := 19) (by decide) (by decide) (by decide)) q9))))))))))))) j9).trans (hz_10 j9)
  have hz_36 : ∀ j, aI S_32 (ad 21) j = 0 := fun j9 => (hf_34.ai (wm_21 (S := S_7) hW_20) (fun h9 => h9.elim (fun q9 => (wn (S := S_7) hW_20 (i := 21) (j := 25) (by decide) (by decide) (by decide)) q9) (fun h9 => h9.elim (fun q9 => (wn (S := S_7) hW_20 (i := 21) (j := 14) (by decide) (by decide) (by decide)) q9) (fun h9 => h9.elim (fun q9 => (wn (S := S_7) hW_20 (i := 21) (j := 13) (by decide) (by decide) (by decide)) q9) (fun h9 => h9.elim (fun q9 => (wn (S := S_7) hW_20 (i := 21) (j := 7) (by decide) (by decide) (by decide)) q9) (fun h9 => h9.elim (fun q9 => (wn (S := S_7) hW_20 (i := 21) (j := 8) (by decide) (by decide) (by decide)) q9) (fun h9 => h9.elim (fun q9 => (wn (S := S_7) hW_20 (i := 21) (j := 9) (by decide) (by decide) (by decide)) q9) (fun h9 => h9.elim (fun q9 => (wn (S := S_7) hW_20 (i := 21) (j := 11) (by decide) (by decide) (by decide)) q9) (fun h9 => h9.elim (fun q9 => (wn (S := S_7) hW_20 (i := 21) (j := 29) (by decide) (by decide) (by decide)) q9) (fun h9 => h9.elim (fun q9 => (wn (S := S_7) hW_20 (i := 21) (j := 31) (by decide) (by decide) (by decide)) q9) (fun h9 => h9.elim (fun q9 => (wn (S := S_7) hW_20 (i := 21) (j := 32) (by decide) (by decide) (by decide)) q9) (fun h9 => h9.elim (fun q9 => (wn (S := S_7) hW_20 (i := 21) (j := 33) (by decide) (by decide) (by decide)) q9) (fun h9 => h9.elim (fun q9 => (wn (S := S_7) hW_20 (i := 21) (j := 36) (by decide) (by decide) (by decide)) q9) (fun q9 => (wn (S := S_7) hW_20 (i := 21) (j := 19) (by decide) (by decide) (by decide)) q9))))))))))))) j9).trans (hz_11 j9)
  have hz_37 : ∀ j, aI S_32 (ad 23) j = 0 := fun j9 => (hf_34.ai (wm_23 (S := S_7) hW_20) (fun h9 => h9.elim (fun q9 => (wn (S := S_7) hW_20 (i := 23) (j := 25) (by decide) (by decide) (by decide)) q9) (fun h9 => h9.elim (fun q9 => (wn (S := S_7) hW_20 (i := 23) (j := 14) (by decide) (by decide) (by decide)) q9) (fun h9 => h9.elim (fun q9 => (wn (S := S_7) hW_20 (i := 23) (j := 13) (by decide) (by decide) (by decide)) q9) (fun h9 => h9.elim (fun q9 => (wn (S := S_7) hW_20 (i := 23) (j := 7) (by decide) (by decide) (by decide)) q9) (fun h9 => h9.elim (fun q9 => (wn (S := S_7) hW_20 (i := 23) (j := 8) (by decide) (by decide) (by decide)) q9) (fun h9 => h9.elim (fun q9 => (wn (S := S_7) hW_20 (i := 23) (j := 9) (by decide) (by decide) (by decide)) q9) (fun h9 => h9.elim (fun q9 => (wn (S := S_7) hW_20 (i := 23) (j := 11) (by decide) (by decide) (by decide)) q9) (fun h9 => h9.elim (fun q9 => (wn (S := S_7) hW_20 (i := 23) (j := 29) (by decide) (by decide) (by decide)) q9) (fun h9 => h9.elim (fun q9 => (wn (S := S_7) hW_20 (i := 23) (j := 31) (by decide) (by decide) (by decide)) q9) (fun h9 => h9.elim (fun q9 => (wn (S := S_7) hW_20 (i := 23) (j := 32) (by decide) (by decide) (by decide)) q9) (fun h9 => h9.elim (fun q9 => (wn (S := S_7) hW_20 (i := 23) (j := 33) (by decide) (by decide) (by decide)) q9) (fun h9 => h9.elim (fun q9 => (wn (S := S_7) hW_20 (i := 23) (j := 36) (by decide) (by decide) (by decide)) q9) (fun q9 => (wn (S := S_7) hW_20 (i := 23) (j := 19) (by decide) (by decide) (by decide)) q9))))))))))))) j9).trans (hz_12 j9)
  have hm_38 : ga ∈ hL S_32 := hf_34.mem hm_13
  have hk_39 : Kd S_32 ga 14 := hf_34.kd hm_13 hk_14
  have hn_40 : Ln S_32 ga 7 := hf_34.ln hm_13 hn_15
  have hm_41 : ma ∈ hL S_32 := hf_34.mem hm_16
  have hk_42 : Kd S_32 ma 14 := hf_34.kd hm_16 hk_17
  have hn_43 : Ln S_32 ma 4096 := hf_34.ln hm_16 hn_18
  have hW_44 : Wd ad S_32 := hW_20.fm hf_34 (by intro p9 hp9 h9; rcases h9 with ⟨e1, e2⟩ | ⟨e1, e2⟩ | ⟨e1, e2⟩ <;> exact wp_dyn p9 hp9 (by rw [e1]; decide)) (by intro p9 hp9; simp only [wqL, List.mem_cons, List.not_mem_nil, or_false] at hp9; rcases hp9 with rfl | rfl <;> intro h9 <;> rcases h9 with h9 | h9 | h9 | h9 | h9 | h9 | h9 | h9 | h9 | h9 | h9 | h9 | h9 <;> exact absurd h9 (wn hW_20 (by decide) (by decide) (by decide)))
  have hx_45 : MP (aI S_32 ma) (boxsO (fun _ _ => false) bs) := by
    have e0_9 : (aI S_32 ma) = (aI S_7 ma) := funext fun j9 => hf_34.ai hm_16 (fun h9 => h9.elim (fun q9 => (hma 25 (by decide)) q9) (fun h9 => h9.elim (fun q9 => (hma 14 (by decide)) q9) (fun h9 => h9.elim (fun q9 => (hma 13 (by decide)) q9) (fun h9 => h9.elim (fun q9 => (hma 7 (by decide)) q9) (fun h9 => h9.elim (fun q9 => (hma 8 (by decide)) q9) (fun h9 => h9.elim (fun q9 => (hma 9 (by decide)) q9) (fun h9 => h9.elim (fun q9 => (hma 11 (by decide)) q9) (fun h9 => h9.elim (fun q9 => (hma 29 (by decide)) q9) (fun h9 => h9.elim (fun q9 => (hma 31 (by decide)) q9) (fun h9 => h9.elim (fun q9 => (hma 32 (by decide)) q9) (fun h9 => h9.elim (fun q9 => (hma 33 (by decide)) q9) (fun h9 => h9.elim (fun q9 => (hma 36 (by decide)) q9) (fun q9 => (hma 19 (by decide)) q9))))))))))))) j9
    first | (rw [e0_9]; exact hx_21) | rw [e0_9]
  have hx_46 : STR (aI S_32 (ad 2)) B T := by
    have e0_9 : (aI S_32 (ad 2)) = (aI S_7 (ad 2)) := funext fun j9 => hf_34.ai (wm_2 (S := S_7) hW_20) (fun h9 => h9.elim (fun q9 => (wn (S := S_7) hW_20 (i := 2) (j := 25) (by decide) (by decide) (by decide)) q9) (fun h9 => h9.elim (fun q9 => (wn (S := S_7) hW_20 (i := 2) (j := 14) (by decide) (by decide) (by decide)) q9) (fun h9 => h9.elim (fun q9 => (wn (S := S_7) hW_20 (i := 2) (j := 13) (by decide) (by decide) (by decide)) q9) (fun h9 => h9.elim (fun q9 => (wn (S := S_7) hW_20 (i := 2) (j := 7) (by decide) (by decide) (by decide)) q9) (fun h9 => h9.elim (fun q9 => (wn (S := S_7) hW_20 (i := 2) (j := 8) (by decide) (by decide) (by decide)) q9) (fun h9 => h9.elim (fun q9 => (wn (S := S_7) hW_20 (i := 2) (j := 9) (by decide) (by decide) (by decide)) q9) (fun h9 => h9.elim (fun q9 => (wn (S := S_7) hW_20 (i := 2) (j := 11) (by decide) (by decide) (by decide)) q9) (fun h9 => h9.elim (fun q9 => (wn (S := S_7) hW_20 (i := 2) (j := 29) (by decide) (by decide) (by decide)) q9) (fun h9 => h9.elim (fun q9 => (wn (S := S_7) hW_20 (i := 2) (j := 31) (by decide) (by decide) (by decide)) q9) (fun h9 => h9.elim (fun q9 => (wn (S := S_7) hW_20 (i := 2) (j := 32) (by decide) (by decide) (by decide)) q9) (fun h9 => h9.elim (fun q9 => (wn (S := S_7) hW_20 (i := 2) (j := 33) (by decide) (by decide) (by decide)) q9) (fun h9 => h9.elim (fun q9 => (wn (S := S_7) hW_20 (i := 2) (j := 36) (by decide) (by decide) (by decide)) q9) (fun q9 => (wn (S := S_7) hW_20 (i := 2) (j := 19) (by decide) (by decide) (by decide)) q9))))))))))))) j9
    first | (rw [e0_9]; exact x_2) | rw [e0_9]
  have hx_47 : aI S_32 (ad 3) 0 = 0 := by
    have e0_9 : (aI S_32 (ad 3)) = (aI S_7 (ad 3)) := funext fun j9 => hf_34.ai (wm_3 (S := S_7) hW_20) (fun h9 => h9.elim (fun q9 => (wn (S := S_7) hW_20 (i := 3) (j := 25) (by decide) (by decide) (by decide)) q9) (fun h9 => h9.elim (fun q9 => (wn (S := S_7) hW_20 (i := 3) (j := 14) (by decide) (by decide) (by decide)) q9) (fun h9 => h9.elim (fun q9 => (wn (S := S_7) hW_20 (i := 3) (j := 13) (by decide) (by decide) (by decide)) q9) (fun h9 => h9.elim (fun q9 => (wn (S := S_7) hW_20 (i := 3) (j := 7) (by decide) (by decide) (by decide)) q9) (fun h9 => h9.elim (fun q9 => (wn (S := S_7) hW_20 (i := 3) (j := 8) (by decide) (by decide) (by decide)) q9) (fun h9 => h9.elim (fun q9 => (wn (S := S_7) hW_20 (i := 3) (j := 9) (by decide) (by decide) (by decide)) q9) (fun h9 => h9.elim (fun q9 => (wn (S := S_7) hW_20 (i := 3) (j := 11) (by decide) (by decide) (by decide)) q9) (fun h9 => h9.elim (fun q9 => (wn (S := S_7) hW_20 (i := 3) (j := 29) (by decide) (by decide) (by decide)) q9) (fun h9 => h9.elim (fun q9 => (wn (S := S_7) hW_20 (i := 3) (j := 31) (by decide) (by decide) (by decide)) q9) (fun h9 => h9.elim (fun q9 => (wn (S := S_7) hW_20 (i := 3) (j := 32) (by decide) (by decide) (by decide)) q9) (fun h9 => h9.elim (fun q9 => (wn (S := S_7) hW_20 (i := 3) (j := 33) (by decide) (by decide) (by decide)) q9) (fun h9 => h9.elim (fun q9 => (wn (S := S_7) hW_20 (i := 3) (j := 36) (by decide) (by decide) (by decide)) q9) (fun q9 => (wn (S := S_7) hW_20 (i := 3) (j := 19) (by decide) (by decide) (by decide)) q9))))))))))))) j9
    first | (rw [e0_9]; exact x_3) | rw [e0_9]
  have hx_48 : aI S_32 (ad 4) 0 = 0 := by
    have e0_9 : (aI S_32 (ad 4)) = (aI S_7 (ad 4)) := funext fun j9 => hf_34.ai (wm_4 (S := S_7) hW_20) (fun h9 => h9.elim (fun q9 => (wn (S := S_7) hW_20 (i := 4) (j := 25) (by decide) (by decide) (by decide)) q9) (fun h9 => h9.elim (fun q9 => (wn (S := S_7) hW_20 (i := 4) (j := 14) (by decide) (by decide) (by decide)) q9) (fun h9 => h9.elim (fun q9 => (wn (S := S_7) hW_20 (i := 4) (j := 13) (by decide) (by decide) (by decide)) q9) (fun h9 => h9.elim (fun q9 => (wn (S := S_7) hW_20 (i := 4) (j := 7) (by decide) (by decide) (by decide)) q9) (fun h9 => h9.elim (fun q9 => (wn (S := S_7) hW_20 (i := 4) (j := 8) (by decide) (by decide) (by decide)) q9) (fun h9 => h9.elim (fun q9 => (wn (S := S_7) hW_20 (i := 4) (j := 9) (by decide) (by decide) (by decide)) q9) (fun h9 => h9.elim (fun q9 => (wn (S := S_7) hW_20 (i := 4) (j := 11) (by decide) (by decide) (by decide)) q9) (fun h9 => h9.elim (fun q9 => (wn (S := S_7) hW_20 (i := 4) (j := 29) (by decide) (by decide) (by decide)) q9) (fun h9 => h9.elim (fun q9 => (wn (S := S_7) hW_20 (i := 4) (j := 31) (by decide) (by decide) (by decide)) q9) (fun h9 => h9.elim (fun q9 => (wn (S := S_7) hW_20 (i := 4) (j := 32) (by decide) (by decide) (by decide)) q9) (fun h9 => h9.elim (fun q9 => (wn (S := S_7) hW_20 (i := 4) (j := 33) (by decide) (by decide) (by decide)) q9) (fun h9 => h9.elim (fun q9 => (wn (S := S_7) hW_20 (i := 4) (j := 36) (by decide) (by decide) (by decide)) q9) (fun q9 => (wn (S := S_7) hW_20 (i := 4) (j := 19) (by decide) (by decide) (by decide)) q9))))))))))))) j9
    first | (rw [e0_9]; exact x_4) | rw [e0_9]
  have hx_49 : aI S_32 (ad 4) 1 = nI T := by
    have e0_9 : (aI S_32 (ad 4)) = (aI S_7 (ad 4)) := funext fun j9 => hf_34.ai (wm_4 (S := S_7) hW_20) (fun h9 => h9.elim (fun q9 => (wn (S := S_7) hW_20 (i := 4) (j := 25) (by decide) (by decide) (by decide)) q9) (fun h9 => h9.elim (fun q9 => (wn (S := S_7) hW_20 (i := 4) (j := 14) (by decide) (by decide) (by decide)) q9) (fun h9 => h9.elim (fun q9 => (wn (S := S_7) hW_20 (i := 4) (j := 13) (by decide) (by decide) (by decide)) q9) (fun h9 => h9.elim (fun q9 => (wn (S := S_7) hW_20 (i := 4) (j := 7) (by decide) (by decide) (by decide)) q9) (fun h9 => h9.elim (fun q9 => (wn (S := S_7) hW_20 (i := 4) (j := 8) (by decide) (by decide) (by decide)) q9) (fun h9 => h9.elim (fun q9 => (wn (S := S_7) hW_20 (i := 4) (j := 9) (by decide) (by decide) (by decide)) q9) (fun h9 => h9.elim (fun q9 => (wn (S := S_7) hW_20 (i := 4) (j := 11) (by decide) (by decide) (by decide)) q9) (fun h9 => h9.elim (fun q9 => (wn (S := S_7) hW_20 (i := 4) (j := 29) (by decide) (by decide) (by decide)) q9) (fun h9 => h9.elim (fun q9 => (wn (S := S_7) hW_20 (i := 4) (j := 31) (by decide) (by decide) (by decide)) q9) (fun h9 => h9.elim (fun q9 => (wn (S := S_7) hW_20 (i := 4) (j := 32) (by decide) (by decide) (by decide)) q9) (fun h9 => h9.elim (fun q9 => (wn (S := S_7) hW_20 (i := 4) (j := 33) (by decide) (by decide) (by decide)) q9) (fun h9 => h9.elim (fun q9 => (wn (S := S_7) hW_20 (i := 4) (j := 36) (by decide) (by decide) (by decide)) q9) (fun q9 => (wn (S := S_7) hW_20 (i := 4) (j := 19) (by decide) (by decide) (by decide)) q9))))))))))))) j9
    first | (rw [e0_9]; exact x_5) | rw [e0_9]
  show J _ _ _ _ _ 486 _
  refine j_istore (lv' := [(5, .int 1), (0, .ref b), (1, .ref (ad 0)), (2, .ref ga), (3, .ref ma), (4, .int (nI bs.length))]) C dL_law_486 (by rw [hn9]; decide) rfl ?_
  refine j_iload C dL_law_488 0 rfl ?_
  refine j_iload C dL_law_490 5 rfl ?_
  refine j_if_le (tgt := 499) C dL_law_492 (by decide) (fun c_492 => absurd c_492 (nI_nle (by omega) (by omega))) (fun c_492 => ?_)
  refine j_iconst (v := 1) C dL_law_495 (by decide) ?_
  refine j_goto (tgt := 500) C dL_law_496 (by decide) ?_
  refine j_ic_ne (tgt := 514) C dL_law_500 (by decide) (fun c9 => absurd c9 (by decide)) (fun c9 => ?_)
  refine j_aload_n C dL_law_503 rfl 2 rfl ?_
  show J _ _ _ _ _ 504 _
  refine j_bipush (v := 6) C dL_law_504 (by decide) ?_
  refine j_callV (ci := 11) C [.int 6] [] mlL_55 mcX11_held (c_X11_held S_32 ad hW_44 (nI bs.length) e_27) (wm_0 (S := S_32) hW_44) (wk_0 (S := S_32) hW_44) rfl (M.rm (by decide) (by decide) (by omega) (by omega)) rfl rfl (Nat.le_of_ble_eq_true rfl) dL_law_506 (fun r_50 S_51 hp_52 => ?_)
  obtain ⟨rfl, e_53⟩ := hp_52
  refine J.eq (S' := S_32) (st' := [.int (nI bs.length)]) (lv' := [(5, .int 1), (0, .ref b), (1, .ref (ad 0)), (2, .ref ga), (3, .ref ma), (4, .int (nI bs.length))]) e_53 rfl rfl ?_
  refine j_iload C dL_law_509 5 rfl ?_
  refine j_ic_eq (tgt := 516) C dL_law_511 (by decide) (fun c_511 => ?_) (fun c_511 => absurd rfl c_511)
  refine j_iconst (v := 0) C dL_law_516 (by decide) ?_
  refine j_istore (lv' := [(6, .int 0), (5, .int 1), (0, .ref b), (1, .ref (ad 0)), (2, .ref ga), (3, .ref ma), (4, .int (nI bs.length))]) C dL_law_517 (by rw [hn9]; decide) rfl ?_
  have loop_55 : ∀ (m9 j : Nat), j + m9 = 64 → J x (kq + 0 + 0 + 0 + 0) (nq + 0 + 0 + 0 + 0) S_32 [(6, .int (nI j)), (5, .int 1), (0, .ref b), (1, .ref (ad 0)), (2, .ref ga), (3, .ref ma), (4, .int (nI bs.length))] 519 [] := by
    intro m9
    induction m9 with
    | zero =>
      intro j  hi_56 
      refine j_iload C dL_law_519 0 rfl ?_
      refine j_bipush (v := 64) C dL_law_521 (by decide) ?_
      refine j_ic_ge (tgt := 578) C dL_law_523 (by decide) (fun c_523 => ?_) (fun c_523 => absurd (nI_le (a := 64) (by omega) (by omega)) c_523)
      show J _ _ _ _ _ 578 _
      refine j_iconst (v := 1) C dL_law_578 (by decide) ?_
      exact j_lawret C M (by omega) (by omega) dL_law_579
    | succ m9 ih_54 =>
      intro j  hi_56 
      refine j_iload C dL_law_519 0 rfl ?_
      refine j_bipush (v := 64) C dL_law_521 (by decide) ?_
      refine j_ic_ge (tgt := 578) C dL_law_523 (by decide) (fun c_523 => absurd c_523 (nI_ge (b := 64) (by omega) (by decide))) (fun c_523 => ?_)
      refine j_iload C dL_law_526 1 rfl ?_
      refine j_iconst (v := 1) C dL_law_528 (by decide) ?_
      refine j_ic_ne (tgt := 578) C dL_law_529 (by decide) (fun c9 => absurd c9 (by decide)) (fun c9 => ?_)
      refine j_iconst (v := 0) C dL_law_532 (by decide) ?_
      refine j_istore (lv' := [(7, .int 0), (6, .int (nI j)), (5, .int 1), (0, .ref b), (1, .ref (ad 0)), (2, .ref ga), (3, .ref ma), (4, .int (nI bs.length))]) C dL_law_533 (by rw [hn9]; decide) rfl ?_
      show J _ _ _ _ _ 535 _
      have loop_58 : ∀ (m9 ii : Nat), ii + m9 = 64 → J x (kq + 0 + 0 + 0 + 0) (nq + 0 + 0 + 0 + 0) S_32 [(7, .int (nI ii)), (6, .int (nI j)), (5, .int 1), (0, .ref b), (1, .ref (ad 0)), (2, .ref ga), (3, .ref ma), (4, .int (nI bs.length))] 535 [] := by
        intro m9
        induction m9 with
        | zero =>
          intro ii  hi_59 
          refine j_iload C dL_law_535 0 rfl ?_
          refine j_bipush (v := 64) C dL_law_537 (by decide) ?_
          refine j_ic_ge (tgt := 572) C dL_law_539 (by decide) (fun c_539 => ?_) (fun c_539 => absurd (nI_le (a := 64) (by omega) (by omega)) c_539)
          refine j_iinc (q := 1) (v := nI (j + 1)) (lv' := [(6, .int (nI (j + 1))), (7, .int (nI ii)), (5, .int 1), (0, .ref b), (1, .ref (ad 0)), (2, .ref ga), (3, .ref ma), (4, .int (nI bs.length))]) C dL_law_572 rfl (nI_add j 1) (by rw [hn9]; decide) rfl ?_
          refine j_goto (tgt := 519) C dL_law_575 (by decide) ?_
          refine J.sub [0, 2, 3, 4, 5, 6, 7] (lv' := [(6, .int (nI (j + 1))), (5, .int 1), (0, .ref b), (1, .ref (ad 0)), (2, .ref ga), (3, .ref ma), (4, .int (nI bs.length))]) (by rfl) ?_
          exact J.eq rfl rfl rfl (ih_54 (j + 1)  (by omega) )
        | succ m9 ih_57 =>
          intro ii  hi_59 
          refine j_iload C dL_law_535 0 rfl ?_
          refine j_bipush (v := 64) C dL_law_537 (by decide) ?_
          refine j_ic_ge (tgt := 572) C dL_law_539 (by decide) (fun c_539 => absurd c_539 (nI_ge (b := 64) (by omega) (by decide))) (fun c_539 => ?_)
          refine j_aload_n C dL_law_542 rfl 4 rfl ?_
          refine j_iconst (v := 0) C dL_law_543 (by decide) ?_
          show J _ _ _ _ _ 544 _
          refine j_iload C dL_law_544 0 rfl ?_
          refine j_iload C dL_law_546 1 rfl ?_
          refine j_callV (ci := 11) C [.int 0, .int (nI ii), .int (nI j)] [] mlL_58 mcX11_dot (c_X11_dot S_32 ad hW_44 ii j (boxsO (fun _ _ => false) bs) e_26 x_28 x_29 x_30 (by omega) (by omega)) (wm_0 (S := S_32) hW_44) (wk_0 (S := S_32) hW_44) rfl (M.rm (by decide) (by decide) (by omega) (by omega)) rfl rfl (Nat.le_of_ble_eq_true rfl) dL_law_548 (fun r_60 S_61 hp_62 => ?_)
          obtain ⟨rfl, e_63⟩ := hp_62
          refine J.eq (S' := S_32) (st' := [.int (cI ((boxsO (fun _ _ => false) bs) ii j))]) (lv' := [(7, .int (nI ii)), (6, .int (nI j)), (5, .int 1), (0, .ref b), (1, .ref (ad 0)), (2, .ref ga), (3, .ref ma), (4, .int (nI bs.length))]) e_63 rfl rfl ?_
          refine j_aload_n C dL_law_551 rfl 6 rfl ?_
          refine j_bipush (v := 64) C dL_law_552 (by decide) ?_
          refine j_iload C dL_law_554 1 rfl ?_
          refine j_imul (v := nI (64 * j)) C dL_law_556 (pk_mul 64 j) ?_
          refine j_iload C dL_law_557 0 rfl ?_
          show J _ _ _ _ _ 559 _
          refine j_iadd (v := nI ((64 * j) + ii)) C dL_law_559 (nI_add (64 * j) ii) ?_
          refine j_iald (j := ((64 * j) + ii)) (v := cI (boxsO (fun _ _ => false) bs ii j)) C dL_law_560 hm_41 hk_42 (inr_of (n := 4096) hn_43 (vp_in_nI (by omega) (by omega))) (nI_clamp (by omega)) (hx_45 j ii (by omega) (by omega)) ?_
          refine j_ic_eq (tgt := 566) C dL_law_561 (by decide) (fun c_561 => ?_) (fun c_561 => absurd rfl c_561)
          refine j_iinc (q := 0) (v := nI (ii + 1)) (lv' := [(7, .int (nI (ii + 1))), (6, .int (nI j)), (5, .int 1), (0, .ref b), (1, .ref (ad 0)), (2, .ref ga), (3, .ref ma), (4, .int (nI bs.length))]) C dL_law_566 rfl (nI_add ii 1) (by rw [hn9]; decide) rfl ?_
          refine j_goto (tgt := 535) C dL_law_569 (by decide) ?_
          refine J.sub [0, 1, 2, 3, 4, 5, 6, 7] (lv' := [(7, .int (nI (ii + 1))), (6, .int (nI j)), (5, .int 1), (0, .ref b), (1, .ref (ad 0)), (2, .ref ga), (3, .ref ma), (4, .int (nI bs.length))]) (by rfl) ?_
          exact J.eq rfl rfl rfl (ih_57 (ii + 1)  (by omega) )
      refine J.sub [0, 1, 2, 3, 4, 5, 6, 7] (lv' := [(7, .int (nI 0)), (6, .int (nI j)), (5, .int 1), (0, .ref b), (1, .ref (ad 0)), (2, .ref ga), (3, .ref ma), (4, .int (nI bs.length))]) (by rfl) ?_
      exact J.eq rfl rfl rfl (loop_58 (64 - 0) 0  (by omega) )
  refine J.sub [0, 1, 2, 3, 4, 5, 6] (lv' := [(6, .int (nI 0)), (5, .int 1), (0, .ref b), (1, .ref (ad 0)), (2, .ref ga), (3, .ref ma), (4, .int (nI bs.length))]) (by rfl) ?_
  exact J.eq rfl rfl rfl (loop_55 (64 - 0) 0  (by omega) )

set_option maxRecDepth 100000 in
set_option maxHeartbeats 4000000 in
theorem law_fin0 {x : JX} {b L : Nat} {xs : Nat → Int32} (C : CB x RL cL_law) (M : LM x b) (X : LX x b L xs) (hn9 : x_n x = 21) (ad : Nat → Nat) (ga ma kq nq : Nat) (hkq : kq ≤ 600000) (hnq : nq ≤ 7302250) (hga : ∀ i, i < 37 → ga ≠ ad i) (hma : ∀ i, i < 37 → ma ≠ ad i) (hgm : ga ≠ ma) (B : Nat → Nat) (hb : ∀ j, B j < 128) (S : Hp) (T : Nat) (bs : List Bx) (hL9 : L ≤ 260) (hbs : ∀ b ∈ bs, okB b) (hBs : Has B 0 (jobL bs)) (hnb : 5 + (boxsL bs).length = T) (hmb : bs.length ≤ 120) (hT : T ≤ 3500) (hzB : ∀ j, T ≤ j → B j = 0) (hz : bs.length = 0) (h9 : LI ad ga ma B T (boxsO (fun _ _ => false) bs) S) : J x kq nq S [(0, .ref b), (1, .ref (ad 0)), (2, .ref ga), (3, .ref ma), (4, .int (nI bs.length)), (5, .int (nI (2 * bs.length)))] 462 [] := by
  obtain ⟨hW, ⟨m_ga, k_ga, l_ga⟩, ⟨m_ma, k_ma, l_ma⟩, hi1101, hi1105, hi209, hs, hgs, hmp, z_sa, z_fss, z_tss, z_mss⟩ := h9
  refine j_aload_n C dL_law_462 rfl 1 rfl ?_
  refine j_aload_n C dL_law_463 rfl 2 rfl ?_
  refine j_iconst (v := 0) C dL_law_464 (by decide) ?_
  refine j_callS C [.ref (ad 0), .ref ga, .int 0] [] mlL_48 mcL_close (c_L_close S ad hW ga m_ga k_ga l_ga hga B T hi1101 hs hgs hb hi1105 z_sa hzB (by omega)) (M.rm (by decide) (by decide) (by omega) (by omega)) rfl rfl (Nat.le_of_ble_eq_true rfl) dL_law_465 (fun r_6 S_7 hp_8 => ?_)
  obtain ⟨rfl, hf_9, e_1, x_2, x_3, x_4, x_5⟩ := hp_8
  refine J.eq (st' := [.int 1]) rfl rfl rfl ?_
  have hz_10 : ∀ j, aI S_7 (ad 17) j = 0 := fun j9 => (hf_9.ai (wm_17 (S := S) hW) (fun h9 => h9.elim (fun q9 => (wn (S := S) hW (i := 17) (j := 1) (by decide) (by decide) (by decide)) q9) (fun h9 => h9.elim (fun q9 => (Ne.symm (hga 17 (by decide))) q9) (fun h9 => h9.elim (fun q9 => (wn (S := S) hW (i := 17) (j := 2) (by decide) (by decide) (by decide)) q9) (fun h9 => h9.elim (fun q9 => (wn (S := S) hW (i := 17) (j := 3) (by decide) (by decide) (by decide)) q9) (fun q9 => (wn (S := S) hW (i := 17) (j := 4) (by decide) (by decide) (by decide)) q9))))) j9).trans (z_fss j9)
  have hz_11 : ∀ j, aI S_7 (ad 21) j = 0 := fun j9 => (hf_9.ai (wm_21 (S := S) hW) (fun h9 => h9.elim (fun q9 => (wn (S := S) hW (i := 21) (j := 1) (by decide) (by decide) (by decide)) q9) (fun h9 => h9.elim (fun q9 => (Ne.symm (hga 21 (by decide))) q9) (fun h9 => h9.elim (fun q9 => (wn (S := S) hW (i := 21) (j := 2) (by decide) (by decide) (by decide)) q9) (fun h9 => h9.elim (fun q9 => (wn (S := S) hW (i := 21) (j := 3) (by decide) (by decide) (by decide)) q9) (fun q9 => (wn (S := S) hW (i := 21) (j := 4) (by decide) (by decide) (by decide)) q9))))) j9).trans (z_tss j9)
  have hz_12 : ∀ j, aI S_7 (ad 23) j = 0 := fun j9 => (hf_9.ai (wm_23 (S := S) hW) (fun h9 => h9.elim (fun q9 => (wn (S := S) hW (i := 23) (j := 1) (by decide) (by decide) (by decide)) q9) (fun h9 => h9.elim (fun q9 => (Ne.symm (hga 23 (by decide))) q9) (fun h9 => h9.elim (fun q9 => (wn (S := S) hW (i := 23) (j := 2) (by decide) (by decide) (by decide)) q9) (fun h9 => h9.elim (fun q9 => (wn (S := S) hW (i := 23) (j := 3) (by decide) (by decide) (by decide)) q9) (fun q9 => (wn (S := S) hW (i := 23) (j := 4) (by decide) (by decide) (by decide)) q9))))) j9).trans (z_mss j9)
  have hm_13 : ga ∈ hL S_7 := hf_9.mem m_ga
  have hk_14 : Kd S_7 ga 14 := hf_9.kd m_ga k_ga
  have hn_15 : Ln S_7 ga 7 := hf_9.ln m_ga l_ga
  have hm_16 : ma ∈ hL S_7 := hf_9.mem m_ma
  have hk_17 : Kd S_7 ma 14 := hf_9.kd m_ma k_ma
  have hn_18 : Ln S_7 ma 4096 := hf_9.ln m_ma l_ma
  have hv_19 : hI S_7 209 (ad 15) = 0 := hf_9.fi (wm_15 (S := S) hW) (fun h9 => h9.elim (fun q9 => absurd q9.1 (by decide)) (fun q9 => absurd q9.1 (by decide))) hi209
  have hW_20 : Wd ad S_7 := hW.fm hf_9 (by intro _ _ h9; exact h9) (by intro p9 hp9; simp only [wqL, List.mem_cons, List.not_mem_nil, or_false] at hp9; rcases hp9 with rfl | rfl <;> intro h9 <;> rcases h9 with h9 | h9 | h9 | h9 | h9 <;> (first | exact absurd h9 (wn hW (by decide) (by decide) (by decide)) | exact absurd h9.symm (hga _ (by decide))))
  have hx_21 : MP (aI S_7 ma) (boxsO (fun _ _ => false) bs) := by
    have e0_9 : (aI S_7 ma) = (aI S ma) := funext fun j9 => hf_9.ai m_ma (fun h9 => h9.elim (fun q9 => (hma 1 (by decide)) q9) (fun h9 => h9.elim (fun q9 => (Ne.symm hgm) q9) (fun h9 => h9.elim (fun q9 => (hma 2 (by decide)) q9) (fun h9 => h9.elim (fun q9 => (hma 3 (by decide)) q9) (fun q9 => (hma 4 (by decide)) q9))))) j9
    first | (rw [e0_9]; exact hmp) | rw [e0_9]
  refine j_pop C dL_law_468 rfl ?_
  refine j_aload_n C dL_law_469 rfl 1 rfl ?_
  refine j_iconst (v := 1) C dL_law_470 (by decide) ?_
  refine j_aload_n C dL_law_471 rfl 0 rfl ?_
  show J _ _ _ _ _ 472 _
  refine j_iconst (v := 0) C dL_law_472 (by decide) ?_
  refine j_callSL C X [.ref b, .int 0] [.int 1, .ref (ad 0)] mlL_35 mcL_cell (c_cell S_7 b L xs 0 hL9 (by omega)) (M.rm (by decide) (by decide) (by omega) (by omega)) rfl rfl (Nat.le_of_ble_eq_true rfl) dL_law_473 (fun r_22 S_23 hp_24 => ?_)
  obtain ⟨rfl, e_25⟩ := hp_24
  refine J.eq (S' := S_7) (st' := [.int (cellN xs L 0), .int 1, .ref (ad 0)]) e_25 rfl rfl ?_
  refine j_bipush (v := 24) C dL_law_476 (by decide) ?_
  refine j_ishr (v := ((cellN xs L 0) >>> ((24 : Int32) &&& 31))) C dL_law_478 rfl ?_
  refine j_bipush (v := 127) C dL_law_479 (by decide) ?_
  refine j_iand (v := nI (wN ((cellN xs L 0) >>> ((24 : Int32) &&& 31)) % 128)) C dL_law_481 (and_127 _) ?_
  refine j_iadd (v := nI (1 + (wN ((cellN xs L 0) >>> ((24 : Int32) &&& 31)) % 128))) C dL_law_482 (nI_add 1 (wN ((cellN xs L 0) >>> ((24 : Int32) &&& 31)) % 128)) ?_
  refine j_callV (ci := 11) C [.int (nI (1 + (wN ((cellN xs L 0) >>> ((24 : Int32) &&& 31)) % 128)))] [] mlL_52 mcX11_print (c_print0 S_7 ad hW_20 (1 + (wN ((cellN xs L 0) >>> ((24 : Int32) &&& 31)) % 128)) B T e_1 x_2 x_3 x_4 x_5 hv_19 hz_10 hz_11 hz_12 bs hbs hBs hnb hmb (by omega) (by omega) hz) (wm_0 (S := S_7) hW_20) (wk_0 (S := S_7) hW_20) rfl (M.rm (by decide) (by decide) (by omega) (by omega)) rfl rfl (Nat.le_of_ble_eq_true rfl) dL_law_483 (fun r_28 S_29 hp_30 => ?_)
  obtain ⟨rfl, hf_31, e_26, e_27⟩ := hp_30
  refine J.eq (st' := [.int 0]) rfl rfl rfl ?_
  have hz_32 : ∀ j, aI S_29 (ad 17) j = 0 := fun j9 => (hf_31.ai (wm_17 (S := S_7) hW_20) (fun h9 => h9.elim (fun q9 => (wn (S := S_7) hW_20 (i := 17) (j := 25) (by decide) (by decide) (by decide)) q9) (fun h9 => h9.elim (fun q9 => (wn (S := S_7) hW_20 (i := 17) (j := 14) (by decide) (by decide) (by decide)) q9) (fun h9 => h9.elim (fun q9 => (wn (S := S_7) hW_20 (i := 17) (j := 13) (by decide) (by decide) (by decide)) q9) (fun h9 => h9.elim (fun q9 => (wn (S := S_7) hW_20 (i := 17) (j := 7) (by decide) (by decide) (by decide)) q9) (fun h9 => h9.elim (fun q9 => (wn (S := S_7) hW_20 (i := 17) (j := 8) (by decide) (by decide) (by decide)) q9) (fun h9 => h9.elim (fun q9 => (wn (S := S_7) hW_20 (i := 17) (j := 9) (by decide) (by decide) (by decide)) q9) (fun h9 => h9.elim (fun q9 => (wn (S := S_7) hW_20 (i := 17) (j := 11) (by decide) (by decide) (by decide)) q9) (fun h9 => h9.elim (fun q9 => (wn (S := S_7) hW_20 (i := 17) (j := 29) (by decide) (by decide) (by decide)) q9) (fun h9 => h9.elim (fun q9 => (wn (S := S_7) hW_20 (i := 17) (j := 31) (by decide) (by decide) (by decide)) q9) (fun h9 => h9.elim (fun q9 => (wn (S := S_7) hW_20 (i := 17) (j := 32) (by decide) (by decide) (by decide)) q9) (fun h9 => h9.elim (fun q9 => (wn (S := S_7) hW_20 (i := 17) (j := 33) (by decide) (by decide) (by decide)) q9) (fun h9 => h9.elim (fun q9 => (wn (S := S_7) hW_20 (i := 17) (j := 36) (by decide) (by decide) (by decide)) q9) (fun q9 => (wn (S := S_7) hW_20 (i := 17) (j := 19) (by decide) (by decide) (by decide)) q9))))))))))))) j9).trans (hz_10 j9)
  have hz_33 : ∀ j, aI S_29 (ad 21) j = 0 := fun j9 => (hf_31.ai (wm_21 (S := S_7) hW_20) (fun h9 => h9.elim (fun q9 => (wn (S := S_7) hW_20 (i := 21) (j := 25) (by decide) (by decide) (by decide)) q9) (fun h9 => h9.elim (fun q9 => (wn (S := S_7) hW_20 (i := 21) (j := 14) (by decide) (by decide) (by decide)) q9) (fun h9 => h9.elim (fun q9 => (wn (S := S_7) hW_20 (i := 21) (j := 13) (by decide) (by decide) (by decide)) q9) (fun h9 => h9.elim (fun q9 => (wn (S := S_7) hW_20 (i := 21) (j := 7) (by decide) (by decide) (by decide)) q9) (fun h9 => h9.elim (fun q9 => (wn (S := S_7) hW_20 (i := 21) (j := 8) (by decide) (by decide) (by decide)) q9) (fun h9 => h9.elim (fun q9 => (wn (S := S_7) hW_20 (i := 21) (j := 9) (by decide) (by decide) (by decide)) q9) (fun h9 => h9.elim (fun q9 => (wn (S := S_7) hW_20 (i := 21) (j := 11) (by decide) (by decide) (by decide)) q9) (fun h9 => h9.elim (fun q9 => (wn (S := S_7) hW_20 (i := 21) (j := 29) (by decide) (by decide) (by decide)) q9) (fun h9 => h9.elim (fun q9 => (wn (S := S_7) hW_20 (i := 21) (j := 31) (by decide) (by decide) (by decide)) q9) (fun h9 => h9.elim (fun q9 => (wn (S := S_7) hW_20 (i := 21) (j := 32) (by decide) (by decide) (by decide)) q9) (fun h9 => h9.elim (fun q9 => (wn (S := S_7) hW_20 (i := 21) (j := 33) (by decide) (by decide) (by decide)) q9) (fun h9 => h9.elim (fun q9 => (wn (S := S_7) hW_20 (i := 21) (j := 36) (by decide) (by decide) (by decide)) q9) (fun q9 => (wn (S := S_7) hW_20 (i := 21) (j := 19) (by decide) (by decide) (by decide)) q9))))))))))))) j9).trans (hz_11 j9)
  have hz_34 : ∀ j, aI S_29 (ad 23) j = 0 := fun j9 => (hf_31.ai (wm_23 (S := S_7) hW_20) (fun h9 => h9.elim (fun q9 => (wn (S := S_7) hW_20 (i := 23) (j := 25) (by decide) (by decide) (by decide)) q9) (fun h9 => h9.elim (fun q9 => (wn (S := S_7) hW_20 (i := 23) (j := 14) (by decide) (by decide) (by decide)) q9) (fun h9 => h9.elim (fun q9 => (wn (S := S_7) hW_20 (i := 23) (j := 13) (by decide) (by decide) (by decide)) q9) (fun h9 => h9.elim (fun q9 => (wn (S := S_7) hW_20 (i := 23) (j := 7) (by decide) (by decide) (by decide)) q9) (fun h9 => h9.elim (fun q9 => (wn (S := S_7) hW_20 (i := 23) (j := 8) (by decide) (by decide) (by decide)) q9) (fun h9 => h9.elim (fun q9 => (wn (S := S_7) hW_20 (i := 23) (j := 9) (by decide) (by decide) (by decide)) q9) (fun h9 => h9.elim (fun q9 => (wn (S := S_7) hW_20 (i := 23) (j := 11) (by decide) (by decide) (by decide)) q9) (fun h9 => h9.elim (fun q9 => (wn (S := S_7) hW_20 (i := 23) (j := 29) (by decide) (by decide) (by decide)) q9) (fun h9 => h9.elim (fun q9 => (wn (S := S_7) hW_20 (i := 23) (j := 31) (by decide) (by decide) (by decide)) q9) (fun h9 => h9.elim (fun q9 => (wn (S := S_7) hW_20 (i := 23) (j := 32) (by decide) (by decide) (by decide)) q9) (fun h9 => h9.elim (fun q9 => (wn (S := S_7) hW_20 (i := 23) (j := 33) (by decide) (by decide) (by decide)) q9) (fun h9 => h9.elim (fun q9 => (wn (S := S_7) hW_20 (i := 23) (j := 36) (by decide) (by decide) (by decide)) q9) (fun q9 => (wn (S := S_7) hW_20 (i := 23) (j := 19) (by decide) (by decide) (by decide)) q9))))))))))))) j9).trans (hz_12 j9)
  have hm_35 : ga ∈ hL S_29 := hf_31.mem hm_13
  have hk_36 : Kd S_29 ga 14 := hf_31.kd hm_13 hk_14
  have hn_37 : Ln S_29 ga 7 := hf_31.ln hm_13 hn_15
  have hm_38 : ma ∈ hL S_29 := hf_31.mem hm_16
  have hk_39 : Kd S_29 ma 14 := hf_31.kd hm_16 hk_17
  have hn_40 : Ln S_29 ma 4096 := hf_31.ln hm_16 hn_18
  have hW_41 : Wd ad S_29 := hW_20.fm hf_31 (by intro p9 hp9 h9; rcases h9 with ⟨e1, e2⟩ | ⟨e1, e2⟩ | ⟨e1, e2⟩ <;> exact wp_dyn p9 hp9 (by rw [e1]; decide)) (by intro p9 hp9; simp only [wqL, List.mem_cons, List.not_mem_nil, or_false] at hp9; rcases hp9 with rfl | rfl <;> intro h9 <;> rcases h9 with h9 | h9 | h9 | h9 | h9 | h9 | h9 | h9 | h9 | h9 | h9 | h9 | h9 <;> exact absurd h9 (wn hW_20 (by decide) (by decide) (by decide)))
  have hx_42 : MP (aI S_29 ma) (boxsO (fun _ _ => false) bs) := by
    have e0_9 : (aI S_29 ma) = (aI S_7 ma) := funext fun j9 => hf_31.ai hm_16 (fun h9 => h9.elim (fun q9 => (hma 25 (by decide)) q9) (fun h9 => h9.elim (fun q9 => (hma 14 (by decide)) q9) (fun h9 => h9.elim (fun q9 => (hma 13 (by decide)) q9) (fun h9 => h9.elim (fun q9 => (hma 7 (by decide)) q9) (fun h9 => h9.elim (fun q9 => (hma 8 (by decide)) q9) (fun h9 => h9.elim (fun q9 => (hma 9 (by decide)) q9) (fun h9 => h9.elim (fun q9 => (hma 11 (by decide)) q9) (fun h9 => h9.elim (fun q9 => (hma 29 (by decide)) q9) (fun h9 => h9.elim (fun q9 => (hma 31 (by decide)) q9) (fun h9 => h9.elim (fun q9 => (hma 32 (by decide)) q9) (fun h9 => h9.elim (fun q9 => (hma 33 (by decide)) q9) (fun h9 => h9.elim (fun q9 => (hma 36 (by decide)) q9) (fun q9 => (hma 19 (by decide)) q9))))))))))))) j9
    first | (rw [e0_9]; exact hx_21) | rw [e0_9]
  have hx_43 : STR (aI S_29 (ad 2)) B T := by
    have e0_9 : (aI S_29 (ad 2)) = (aI S_7 (ad 2)) := funext fun j9 => hf_31.ai (wm_2 (S := S_7) hW_20) (fun h9 => h9.elim (fun q9 => (wn (S := S_7) hW_20 (i := 2) (j := 25) (by decide) (by decide) (by decide)) q9) (fun h9 => h9.elim (fun q9 => (wn (S := S_7) hW_20 (i := 2) (j := 14) (by decide) (by decide) (by decide)) q9) (fun h9 => h9.elim (fun q9 => (wn (S := S_7) hW_20 (i := 2) (j := 13) (by decide) (by decide) (by decide)) q9) (fun h9 => h9.elim (fun q9 => (wn (S := S_7) hW_20 (i := 2) (j := 7) (by decide) (by decide) (by decide)) q9) (fun h9 => h9.elim (fun q9 => (wn (S := S_7) hW_20 (i := 2) (j := 8) (by decide) (by decide) (by decide)) q9) (fun h9 => h9.elim (fun q9 => (wn (S := S_7) hW_20 (i := 2) (j := 9) (by decide) (by decide) (by decide)) q9) (fun h9 => h9.elim (fun q9 => (wn (S := S_7) hW_20 (i := 2) (j := 11) (by decide) (by decide) (by decide)) q9) (fun h9 => h9.elim (fun q9 => (wn (S := S_7) hW_20 (i := 2) (j := 29) (by decide) (by decide) (by decide)) q9) (fun h9 => h9.elim (fun q9 => (wn (S := S_7) hW_20 (i := 2) (j := 31) (by decide) (by decide) (by decide)) q9) (fun h9 => h9.elim (fun q9 => (wn (S := S_7) hW_20 (i := 2) (j := 32) (by decide) (by decide) (by decide)) q9) (fun h9 => h9.elim (fun q9 => (wn (S := S_7) hW_20 (i := 2) (j := 33) (by decide) (by decide) (by decide)) q9) (fun h9 => h9.elim (fun q9 => (wn (S := S_7) hW_20 (i := 2) (j := 36) (by decide) (by decide) (by decide)) q9) (fun q9 => (wn (S := S_7) hW_20 (i := 2) (j := 19) (by decide) (by decide) (by decide)) q9))))))))))))) j9
    first | (rw [e0_9]; exact x_2) | rw [e0_9]
  have hx_44 : aI S_29 (ad 3) 0 = 0 := by
    have e0_9 : (aI S_29 (ad 3)) = (aI S_7 (ad 3)) := funext fun j9 => hf_31.ai (wm_3 (S := S_7) hW_20) (fun h9 => h9.elim (fun q9 => (wn (S := S_7) hW_20 (i := 3) (j := 25) (by decide) (by decide) (by decide)) q9) (fun h9 => h9.elim (fun q9 => (wn (S := S_7) hW_20 (i := 3) (j := 14) (by decide) (by decide) (by decide)) q9) (fun h9 => h9.elim (fun q9 => (wn (S := S_7) hW_20 (i := 3) (j := 13) (by decide) (by decide) (by decide)) q9) (fun h9 => h9.elim (fun q9 => (wn (S := S_7) hW_20 (i := 3) (j := 7) (by decide) (by decide) (by decide)) q9) (fun h9 => h9.elim (fun q9 => (wn (S := S_7) hW_20 (i := 3) (j := 8) (by decide) (by decide) (by decide)) q9) (fun h9 => h9.elim (fun q9 => (wn (S := S_7) hW_20 (i := 3) (j := 9) (by decide) (by decide) (by decide)) q9) (fun h9 => h9.elim (fun q9 => (wn (S := S_7) hW_20 (i := 3) (j := 11) (by decide) (by decide) (by decide)) q9) (fun h9 => h9.elim (fun q9 => (wn (S := S_7) hW_20 (i := 3) (j := 29) (by decide) (by decide) (by decide)) q9) (fun h9 => h9.elim (fun q9 => (wn (S := S_7) hW_20 (i := 3) (j := 31) (by decide) (by decide) (by decide)) q9) (fun h9 => h9.elim (fun q9 => (wn (S := S_7) hW_20 (i := 3) (j := 32) (by decide) (by decide) (by decide)) q9) (fun h9 => h9.elim (fun q9 => (wn (S := S_7) hW_20 (i := 3) (j := 33) (by decide) (by decide) (by decide)) q9) (fun h9 => h9.elim (fun q9 => (wn (S := S_7) hW_20 (i := 3) (j := 36) (by decide) (by decide) (by decide)) q9) (fun q9 => (wn (S := S_7) hW_20 (i := 3) (j := 19) (by decide) (by decide) (by decide)) q9))))))))))))) j9
    first | (rw [e0_9]; exact x_3) | rw [e0_9]
  have hx_45 : aI S_29 (ad 4) 0 = 0 := by
    have e0_9 : (aI S_29 (ad 4)) = (aI S_7 (ad 4)) := funext fun j9 => hf_31.ai (wm_4 (S := S_7) hW_20) (fun h9 => h9.elim (fun q9 => (wn (S := S_7) hW_20 (i := 4) (j := 25) (by decide) (by decide) (by decide)) q9) (fun h9 => h9.elim (fun q9 => (wn (S := S_7) hW_20 (i := 4) (j := 14) (by decide) (by decide) (by decide)) q9) (fun h9 => h9.elim (fun q9 => (wn (S := S_7) hW_20 (i := 4) (j := 13) (by decide) (by decide) (by decide)) q9) (fun h9 => h9.elim (fun q9 => (wn (S := S_7) hW_20 (i := 4) (j := 7) (by decide) (by decide) (by decide)) q9) (fun h9 => h9.elim (fun q9 => (wn (S := S_7) hW_20 (i := 4) (j := 8) (by decide) (by decide) (by decide)) q9) (fun h9 => h9.elim (fun q9 => (wn (S := S_7) hW_20 (i := 4) (j := 9) (by decide) (by decide) (by decide)) q9) (fun h9 => h9.elim (fun q9 => (wn (S := S_7) hW_20 (i := 4) (j := 11) (by decide) (by decide) (by decide)) q9) (fun h9 => h9.elim (fun q9 => (wn (S := S_7) hW_20 (i := 4) (j := 29) (by decide) (by decide) (by decide)) q9) (fun h9 => h9.elim (fun q9 => (wn (S := S_7) hW_20 (i := 4) (j := 31) (by decide) (by decide) (by decide)) q9) (fun h9 => h9.elim (fun q9 => (wn (S := S_7) hW_20 (i := 4) (j := 32) (by decide) (by decide) (by decide)) q9) (fun h9 => h9.elim (fun q9 => (wn (S := S_7) hW_20 (i := 4) (j := 33) (by decide) (by decide) (by decide)) q9) (fun h9 => h9.elim (fun q9 => (wn (S := S_7) hW_20 (i := 4) (j := 36) (by decide) (by decide) (by decide)) q9) (fun q9 => (wn (S := S_7) hW_20 (i := 4) (j := 19) (by decide) (by decide) (by decide)) q9))))))))))))) j9
    first | (rw [e0_9]; exact x_4) | rw [e0_9]
  have hx_46 : aI S_29 (ad 4) 1 = nI T := by
    have e0_9 : (aI S_29 (ad 4)) = (aI S_7 (ad 4)) := funext fun j9 => hf_31.ai (wm_4 (S := S_7) hW_20) (fun h9 => h9.elim (fun q9 => (wn (S := S_7) hW_20 (i := 4) (j := 25) (by decide) (by decide) (by decide)) q9) (fun h9 => h9.elim (fun q9 => (wn (S := S_7) hW_20 (i := 4) (j := 14) (by decide) (by decide) (by decide)) q9) (fun h9 => h9.elim (fun q9 => (wn (S := S_7) hW_20 (i := 4) (j := 13) (by decide) (by decide) (by decide)) q9) (fun h9 => h9.elim (fun q9 => (wn (S := S_7) hW_20 (i := 4) (j := 7) (by decide) (by decide) (by decide)) q9) (fun h9 => h9.elim (fun q9 => (wn (S := S_7) hW_20 (i := 4) (j := 8) (by decide) (by decide) (by decide)) q9) (fun h9 => h9.elim (fun q9 => (wn (S := S_7) hW_20 (i := 4) (j := 9) (by decide) (by decide) (by decide)) q9) (fun h9 => h9.elim (fun q9 => (wn (S := S_7) hW_20 (i := 4) (j := 11) (by decide) (by decide) (by decide)) q9) (fun h9 => h9.elim (fun q9 => (wn (S := S_7) hW_20 (i := 4) (j := 29) (by decide) (by decide) (by decide)) q9) (fun h9 => h9.elim (fun q9 => (wn (S := S_7) hW_20 (i := 4) (j := 31) (by decide) (by decide) (by decide)) q9) (fun h9 => h9.elim (fun q9 => (wn (S := S_7) hW_20 (i := 4) (j := 32) (by decide) (by decide) (by decide)) q9) (fun h9 => h9.elim (fun q9 => (wn (S := S_7) hW_20 (i := 4) (j := 33) (by decide) (by decide) (by decide)) q9) (fun h9 => h9.elim (fun q9 => (wn (S := S_7) hW_20 (i := 4) (j := 36) (by decide) (by decide) (by decide)) q9) (fun q9 => (wn (S := S_7) hW_20 (i := 4) (j := 19) (by decide) (by decide) (by decide)) q9))))))))))))) j9
    first | (rw [e0_9]; exact x_5) | rw [e0_9]
  show J _ _ _ _ _ 486 _
  refine j_istore (lv' := [(5, .int 0), (0, .ref b), (1, .ref (ad 0)), (2, .ref ga), (3, .ref ma), (4, .int (nI bs.length))]) C dL_law_486 (by rw [hn9]; decide) rfl ?_
  refine j_iload C dL_law_488 0 rfl ?_
  refine j_iload C dL_law_490 5 rfl ?_
  refine j_if_le (tgt := 499) C dL_law_492 (by decide) (fun c_492 => ?_) (fun c_492 => absurd (show nI bs.length ≤ 0 by rw [hz]; decide) c_492)
  refine j_iconst (v := 0) C dL_law_499 (by decide) ?_
  refine j_ic_ne (tgt := 514) C dL_law_500 (by decide) (fun c9 => absurd c9 (by decide)) (fun c9 => ?_)
  refine j_aload_n C dL_law_503 rfl 2 rfl ?_
  refine j_bipush (v := 6) C dL_law_504 (by decide) ?_
  show J _ _ _ _ _ 506 _
  refine j_callV (ci := 11) C [.int 6] [] mlL_55 mcX11_held (c_X11_held S_29 ad hW_41 (nI bs.length) e_27) (wm_0 (S := S_29) hW_41) (wk_0 (S := S_29) hW_41) rfl (M.rm (by decide) (by decide) (by omega) (by omega)) rfl rfl (Nat.le_of_ble_eq_true rfl) dL_law_506 (fun r_47 S_48 hp_49 => ?_)
  obtain ⟨rfl, e_50⟩ := hp_49
  refine J.eq (S' := S_29) (st' := [.int (nI bs.length)]) (lv' := [(5, .int 0), (0, .ref b), (1, .ref (ad 0)), (2, .ref ga), (3, .ref ma), (4, .int (nI bs.length))]) e_50 rfl rfl ?_
  refine j_iload C dL_law_509 5 rfl ?_
  refine j_ic_eq (tgt := 516) C dL_law_511 (by decide) (fun c_511 => ?_) (fun c_511 => absurd rfl c_511)
  refine j_iconst (v := 0) C dL_law_516 (by decide) ?_
  refine j_istore (lv' := [(6, .int 0), (5, .int 0), (0, .ref b), (1, .ref (ad 0)), (2, .ref ga), (3, .ref ma), (4, .int (nI bs.length))]) C dL_law_517 (by rw [hn9]; decide) rfl ?_
  refine j_iload C dL_law_519 0 rfl ?_
  refine j_bipush (v := 64) C dL_law_521 (by decide) ?_
  refine j_ic_ge (tgt := 578) C dL_law_523 (by decide) (fun c9 => absurd c9 (by decide)) (fun c9 => ?_)
  show J _ _ _ _ _ 526 _
  refine j_iload C dL_law_526 1 rfl ?_
  refine j_iconst (v := 1) C dL_law_528 (by decide) ?_
  refine j_ic_ne (tgt := 578) C dL_law_529 (by decide) (fun c9 => ?_) (fun c9 => absurd c9 (by decide))
  refine j_iconst (v := 1) C dL_law_578 (by decide) ?_
  exact j_lawret C M (by omega) (by omega) dL_law_579

set_option maxRecDepth 100000 in
set_option maxHeartbeats 4000000 in
theorem lt_x {x : JX} {b L : Nat} {xs : Nat → Int32} (C : CB x RL cL_law) (M : LM x b) (X : LX x b L xs) (hn9 : x_n x = 21) (ad : Nat → Nat) (ga ma kq nq : Nat) (hkq : kq ≤ 600000) (hnq : nq ≤ 7302250) (hga : ∀ i, i < 37 → ga ≠ ad i) (hma : ∀ i, i < 37 → ma ≠ ad i) (hgm : ga ≠ ma) (B : Nat → Nat) (hb : ∀ j, B j < 128) (S : Hp) (i : Nat) (hL9 : L ≤ 260) (hx : L ≤ 2 * i ∨ 120 ≤ i) (hi : i ≤ 200) (K : J x kq nq S [(0, .ref b), (1, .ref (ad 0)), (2, .ref ga), (3, .ref ma), (4, .int (nI i)), (5, .int (nI (2 * i)))] 462 []) : J x kq nq S [(0, .ref b), (1, .ref (ad 0)), (2, .ref ga), (3, .ref ma), (4, .int (nI i)), (5, .int (nI (2 * i)))] 33 [] := by
  refine j_iload C dL_law_33 5 rfl ?_
  refine j_aload_n C dL_law_35 rfl 0 rfl ?_
  refine j_slen (v := nI L) C X dL_law_36 rfl ?_
  refine j_ic_ge (tgt := 462) C dL_law_37 (by decide) (fun c_37 => ?_) (fun c_37 => ?_)
  · skip
    refine J.sub [0, 1, 2, 3, 4, 5] (lv' := [(0, .ref b), (1, .ref (ad 0)), (2, .ref ga), (3, .ref ma), (4, .int (nI i)), (5, .int (nI (2 * i)))]) (by rfl) ?_
    exact K
  · skip
    refine j_iload C dL_law_40 4 rfl ?_
    refine j_bipush (v := 120) C dL_law_42 (by decide) ?_
    refine j_ic_ge (tgt := 462) C dL_law_44 (by decide) (fun c_44 => ?_) (fun c_44 => absurd (nI_le (a := 120) (by have h9 : ¬ L ≤ 2 * i := fun q => c_37 (nI_le q (by omega)); omega) (by omega)) c_44)
    refine J.sub [0, 1, 2, 3, 4, 5] (lv' := [(0, .ref b), (1, .ref (ad 0)), (2, .ref ga), (3, .ref ma), (4, .int (nI i)), (5, .int (nI (2 * i)))]) (by rfl) ?_
    exact K

set_option maxRecDepth 100000 in
set_option maxHeartbeats 4000000 in
theorem lt_d {x : JX} {b L : Nat} {xs : Nat → Int32} (C : CB x RL cL_law) (M : LM x b) (X : LX x b L xs) (hn9 : x_n x = 21) (ad : Nat → Nat) (ga ma kq nq : Nat) (hkq : kq ≤ 600000) (hnq : nq ≤ 7302250) (hga : ∀ i, i < 37 → ga ≠ ad i) (hma : ∀ i, i < 37 → ma ≠ ad i) (hgm : ga ≠ ma) (B : Nat → Nat) (hb : ∀ j, B j < 128) (S : Hp) (i : Nat) (K : J x kq nq S [(0, .ref b), (1, .ref (ad 0)), (2, .ref ga), (3, .ref ma), (4, .int (nI (i + 1))), (5, .int (nI (2 * (i + 1))))] 33 []) : J x kq nq S [(0, .ref b), (1, .ref (ad 0)), (2, .ref ga), (3, .ref ma), (4, .int (nI (i + 1))), (5, .int (nI (2 * i)))] 456 [] := by
  refine j_iinc (q := 5) (v := nI ((2 * i) + 2)) (lv' := [(5, .int (nI ((2 * i) + 2))), (0, .ref b), (1, .ref (ad 0)), (2, .ref ga), (3, .ref ma), (4, .int (nI (i + 1)))]) C dL_law_456 rfl (nI_add (2 * i) 2) (by rw [hn9]; decide) rfl ?_
  refine j_goto (tgt := 33) C dL_law_459 (by decide) ?_
  refine J.sub [1, 2, 3, 4, 5, 0] (lv' := [(0, .ref b), (1, .ref (ad 0)), (2, .ref ga), (3, .ref ma), (4, .int (nI (i + 1))), (5, .int (nI (2 * (i + 1))))]) (by rfl) ?_
  exact K

set_option maxRecDepth 100000 in
set_option maxHeartbeats 4000000 in
theorem lt_zero {x : JX} {b L : Nat} {xs : Nat → Int32} (C : CB x RL cL_law) (M : LM x b) (X : LX x b L xs) (hn9 : x_n x = 21) (ad : Nat → Nat) (ga ma kq nq : Nat) (hkq : kq ≤ 600000) (hnq : nq ≤ 7302250) (hga : ∀ i, i < 37 → ga ≠ ad i) (hma : ∀ i, i < 37 → ma ≠ ad i) (hgm : ga ≠ ma) (B : Nat → Nat) (hb : ∀ j, B j < 128) (S : Hp) (T : Nat) (P : Nat → Nat → Bool) (hT : T ≤ 100) (hB : Has B T [27, 38, 108, 48, 65]) (h9 : LI ad ga ma B T P S) (K : ∀ S' : Hp, LI ad ga ma B (T + 5) P S' → J x kq nq S' [(0, .ref b), (1, .ref (ad 0)), (2, .ref ga), (3, .ref ma), (4, .int (nI 0)), (5, .int (nI (2 * 0)))] 33 []) : J x kq nq S [(0, .ref b), (1, .ref (ad 0)), (2, .ref ga), (3, .ref ma), (4, .int 0)] 22 [] := by
  obtain ⟨hW, ⟨m_ga, k_ga, l_ga⟩, ⟨m_ma, k_ma, l_ma⟩, hi1101, hi1105, hi209, hs, hgs, hmp, z_sa, z_fss, z_tss, z_mss⟩ := h9
  refine j_aload_n C dL_law_22 rfl 1 rfl ?_
  refine j_aload_n C dL_law_23 rfl 2 rfl ?_
  refine j_ldc2 (v := 279985268251) C dL_law_24 kcL_29 ?_
  refine j_callS C [.ref (ad 0), .ref ga, .long 279985268251] [] mlL_31 mcL_say (c_say279985268251 S ad hW ga m_ga k_ga l_ga hga B T hi1101 hs hgs hb (hB 0 _ rfl) (hB 1 _ rfl) (hB 2 _ rfl) (hB 3 _ rfl) (hB 4 _ rfl) (by omega)) (M.rm (by decide) (by decide) (by omega) (by omega)) rfl rfl (Nat.le_of_ble_eq_true rfl) dL_law_27 (fun r_4 S_5 hp_6 => ?_)
  obtain ⟨rfl, hf_7, e_1, x_2, x_3⟩ := hp_6
  refine J.eq (st' := []) rfl rfl rfl ?_
  have hz_8 : ∀ j, aI S_5 (ad 17) j = 0 := fun j9 => (hf_7.ai (wm_17 (S := S) hW) (fun h9 => h9.elim (fun q9 => (wn (S := S) hW (i := 17) (j := 1) (by decide) (by decide) (by decide)) q9) (fun q9 => (Ne.symm (hga 17 (by decide))) q9)) j9).trans (z_fss j9)
  have hz_9 : ∀ j, aI S_5 (ad 21) j = 0 := fun j9 => (hf_7.ai (wm_21 (S := S) hW) (fun h9 => h9.elim (fun q9 => (wn (S := S) hW (i := 21) (j := 1) (by decide) (by decide) (by decide)) q9) (fun q9 => (Ne.symm (hga 21 (by decide))) q9)) j9).trans (z_tss j9)
  have hz_10 : ∀ j, aI S_5 (ad 23) j = 0 := fun j9 => (hf_7.ai (wm_23 (S := S) hW) (fun h9 => h9.elim (fun q9 => (wn (S := S) hW (i := 23) (j := 1) (by decide) (by decide) (by decide)) q9) (fun q9 => (Ne.symm (hga 23 (by decide))) q9)) j9).trans (z_mss j9)
  have hz_11 : ∀ j, aI S_5 (ad 4) j = 0 := fun j9 => (hf_7.ai (wm_4 (S := S) hW) (fun h9 => h9.elim (fun q9 => (wn (S := S) hW (i := 4) (j := 1) (by decide) (by decide) (by decide)) q9) (fun q9 => (Ne.symm (hga 4 (by decide))) q9)) j9).trans (z_sa j9)
  have hm_12 : ga ∈ hL S_5 := hf_7.mem m_ga
  have hk_13 : Kd S_5 ga 14 := hf_7.kd m_ga k_ga
  have hn_14 : Ln S_5 ga 7 := hf_7.ln m_ga l_ga
  have hm_15 : ma ∈ hL S_5 := hf_7.mem m_ma
  have hk_16 : Kd S_5 ma 14 := hf_7.kd m_ma k_ma
  have hn_17 : Ln S_5 ma 4096 := hf_7.ln m_ma l_ma
  have hv_18 : hI S_5 1105 (ad 0) = 0 := hf_7.fi (wm_0 (S := S) hW) (fun q9 => absurd q9.1 (by decide)) hi1105
  have hv_19 : hI S_5 209 (ad 15) = 0 := hf_7.fi (wm_15 (S := S) hW) (fun q9 => absurd q9.1 (by decide)) hi209
  have hW_20 : Wd ad S_5 := hW.fm hf_7 (by intro _ _ h9; exact h9) (by intro p9 hp9; simp only [wqL, List.mem_cons, List.not_mem_nil, or_false] at hp9; rcases hp9 with rfl | rfl <;> intro h9 <;> rcases h9 with h9 | h9 <;> (first | exact absurd h9 (wn hW (by decide) (by decide) (by decide)) | exact absurd h9.symm (hga _ (by decide))))
  have hx_21 : MP (aI S_5 ma) P := by
    have e0_9 : (aI S_5 ma) = (aI S ma) := funext fun j9 => hf_7.ai m_ma (fun h9 => h9.elim (fun q9 => (hma 1 (by decide)) q9) (fun q9 => (Ne.symm hgm) q9)) j9
    first | (rw [e0_9]; exact hmp) | rw [e0_9]
  refine j_iconst (v := 0) C dL_law_30 (by decide) ?_
  refine j_istore (lv' := [(5, .int 0), (0, .ref b), (1, .ref (ad 0)), (2, .ref ga), (3, .ref ma), (4, .int 0)]) C dL_law_31 (by rw [hn9]; decide) rfl ?_
  refine J.sub [1, 2, 3, 4, 5, 0] (lv' := [(0, .ref b), (1, .ref (ad 0)), (2, .ref ga), (3, .ref ma), (4, .int (nI 0)), (5, .int (nI (2 * 0)))]) (by rfl) ?_
  exact K S_5 ⟨hW_20, ⟨hm_12, hk_13, hn_14⟩, ⟨hm_15, hk_16, hn_17⟩, e_1, hv_18, hv_19, x_2, x_3, hx_21, hz_11, hz_8, hz_9, hz_10⟩

theorem NB_in {L i : Nat} (h : i < NB L) (hL9 : L ≤ 260) : 2 * i < L ∧ i < 120 := by
  unfold NB at h
  split at h <;> omega
theorem NB_out {L : Nat} (hL9 : L ≤ 260) : (L ≤ 2 * NB L ∨ 120 ≤ NB L) ∧ NB L ≤ 120 := by
  unfold NB
  split <;> omega
set_option maxRecDepth 100000 in
set_option maxHeartbeats 4000000 in
theorem law_loop {x : JX} {b L : Nat} {xs : Nat → Int32} (C : CB x RL cL_law) (M : LM x b) (X : LX x b L xs) (hn9 : x_n x = 21) (ad : Nat → Nat) (ga ma kq nq : Nat) (hkq : kq ≤ 600000) (hnq : nq ≤ 7302250) (hga : ∀ i, i < 37 → ga ≠ ad i) (hma : ∀ i, i < 37 → ma ≠ ad i) (hgm : ga ≠ ma) (hL9 : L ≤ 260) : ∀ (m i : Nat) (S : Hp), i + m = NB L → LI ad ga ma (jobB (boxes xs L)) (TB (boxes xs L) i) (boxsO (fun _ _ => false) ((boxes xs L).take i)) S → J x kq nq S [(0, .ref b), (1, .ref (ad 0)), (2, .ref ga), (3, .ref ma), (4, .int (nI i)), (5, .int (nI (2 * i)))] 33 [] := by
  have hbs := boxes_ok xs L
  have hb := jobB_small hbs
  have hlen := boxes_len xs L
  obtain ⟨ho1, ho2⟩ := NB_out hL9
  intro m
  induction m with
  | zero =>
    intro i S hi h9
    have e : i = (boxes xs L).length := by omega
    refine lt_x C M X hn9 ad ga ma kq nq hkq hnq hga hma hgm _ hb S i hL9 (by omega) (by omega) ?_
    subst e
    rw [List.take_length, TB_all] at h9
    rcases Nat.eq_zero_or_pos (boxes xs L).length with hz | hz
    · exact law_fin0 C M X hn9 ad ga ma kq nq hkq hnq hga hma hgm _ hb S _ _ hL9 hbs (jobB_has _) rfl (by omega) (by rw [← TB_all]; exact TB_le (by omega) _) (fun j hj => jobB_end _ hj) hz h9
    · exact law_fin1 C M X hn9 ad ga ma kq nq hkq hnq hga hma hgm _ hb S _ _ hL9 hbs (jobB_has _) rfl (by omega) (by rw [← TB_all]; exact TB_le (by omega) _) (fun j hj => jobB_end _ hj) hz h9
  | succ m ih =>
    intro i S hi h9
    have hin : i < NB L := by omega
    obtain ⟨h1, h2⟩ := NB_in hin hL9
    have hg := boxes_get xs L hin
    refine lt_a C M X hn9 ad ga ma kq nq hkq hnq hga hma hgm _ hb S i hL9 h1 h2 ?_
    refine J.sub [0, 1, 2, 3, 4, 5, 7, 8, 9, 10, 11] (lv' := [(0, .ref b), (1, .ref (ad 0)), (2, .ref ga), (3, .ref ma), (4, .int (nI i)), (5, .int (nI (2 * i))), (7, .int (cellN xs L (2 * i + 1))), (8, .int (nI (boxAt xs L (2 * i)).1)), (9, .int (nI (boxAt xs L (2 * i)).2.1)), (10, .int (nI (boxAt xs L (2 * i)).2.2.2.1)), (11, .int (nI (boxAt xs L (2 * i)).2.2.2.2.1))]) (by rfl) ?_
    refine lt_b C M X hn9 ad ga ma kq nq hkq hnq hga hma hgm _ hb S i (TB (boxes xs L) i) (cellN xs L (2 * i + 1)) (boxAt xs L (2 * i)) _ (boxAt_ok xs L _) rfl rfl (has_box hg) (TB_le (by omega) i) h9 fun S1 h10 => ?_
    refine lt_c C M X hn9 ad ga ma kq nq hkq hnq hga hma hgm _ hb S1 i (boxAt xs L (2 * i)) (boxAt_ok xs L _) _ _ h10 fun S2 h11 => ?_
    refine lt_d C M X hn9 ad ga ma kq nq hkq hnq hga hma hgm _ hb S2 i ?_
    refine ih (i + 1) S2 (by omega) ?_
    rw [TB_s hg, boxsO_s hg]
    exact h11
