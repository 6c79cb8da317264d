/-- rows of 20 words out of rows of 25, seven words each, up to word q of row y -/
def pgF (F D : Nat → Int32) (y q : Nat) : Nat → Int32 := fun j => if j % 20 < 7 ∧ (j / 20 < y ∨ (j / 20 = y ∧ j % 20 < q)) then D (j / 20 * 25 + j % 20) else F j
theorem pgF_0 (F D : Nat → Int32) (j : Nat) : pgF F D 0 0 j = F j := if_neg (by omega)
theorem pgF_s (F D : Nat → Int32) (y q : Nat) (hq : q < 7) (j : Nat) : (if j = y * 20 + q then D (y * 25 + q) else pgF F D y q j) = pgF F D y (q + 1) j := by
  unfold pgF
  by_cases h : j = y * 20 + q
  · subst h
    rw [if_pos rfl, if_pos (by omega), show (y * 20 + q) / 20 = y by omega, show (y * 20 + q) % 20 = q by omega]
  · rw [if_neg h]
    by_cases h2 : j % 20 < 7 ∧ (j / 20 < y ∨ (j / 20 = y ∧ j % 20 < q))
    · rw [if_pos h2, if_pos (by omega)]
    · rw [if_neg h2, if_neg (by omega)]
theorem pgF_y (F D : Nat → Int32) (y : Nat) : pgF F D y 7 = pgF F D (y + 1) 0 := funext fun j => by
  unfold pgF
  by_cases h2 : j % 20 < 7 ∧ (j / 20 < y ∨ (j / 20 = y ∧ j % 20 < 7))
  · rw [if_pos h2, if_pos (by omega)]
  · rw [if_neg h2, if_neg (by omega)]
theorem pg_dot (F D : Nat → Int32) {y px : Nat} (hy : y < 240) (hx : px < 224) : dotW (pgF F D 240 0) (y * 20) px = dotW D (y * 25) px := by
  unfold dotW pgF
  rw [if_pos (by omega), show (y * 20 + px / 32) / 20 = y by omega, show (y * 20 + px / 32) % 20 = px / 32 by omega]
theorem pg_nest {S : Hp} {a : Nat} {f g h : Nat → Int32} (e : g = h) : rI (rI S a f) a g = rI S a h := by rw [rI_rI, e]

theorem dX0_copyTo_0 : decode cX0_copyTo 0 = .ok (.aload_n 1, 1) := by decide +kernel
theorem dX0_copyTo_1 : decode cX0_copyTo 1 = .ok (.iconst 0, 1) := by decide +kernel
theorem dX0_copyTo_2 : decode cX0_copyTo 2 = .ok (.invokestatic 42, 3) := by decide +kernel
theorem dX0_copyTo_5 : decode cX0_copyTo 5 = .ok (.aload_n 2, 1) := by decide +kernel
theorem dX0_copyTo_6 : decode cX0_copyTo 6 = .ok (.invokevirtual 86, 3) := by decide +kernel
theorem dX0_copyTo_9 : decode cX0_copyTo 9 = .ok (.bipush 31, 2) := by decide +kernel
theorem dX0_copyTo_11 : decode cX0_copyTo 11 = .ok (.iadd, 1) := by decide +kernel
theorem dX0_copyTo_12 : decode cX0_copyTo 12 = .ok (.bipush 32, 2) := by decide +kernel
theorem dX0_copyTo_14 : decode cX0_copyTo 14 = .ok (.idiv, 1) := by decide +kernel
theorem dX0_copyTo_15 : decode cX0_copyTo 15 = .ok (.bipush 25, 2) := by decide +kernel
theorem dX0_copyTo_17 : decode cX0_copyTo 17 = .ok (.invokestatic 92, 3) := by decide +kernel
theorem dX0_copyTo_20 : decode cX0_copyTo 20 = .ok (.istore_n 3, 1) := by decide +kernel
theorem dX0_copyTo_21 : decode cX0_copyTo 21 = .ok (.iconst 0, 1) := by decide +kernel
theorem dX0_copyTo_22 : decode cX0_copyTo 22 = .ok (.istore 4, 2) := by decide +kernel
theorem dX0_copyTo_24 : decode cX0_copyTo 24 = .ok (.iload 4, 2) := by decide +kernel
theorem dX0_copyTo_26 : decode cX0_copyTo 26 = .ok (.aload_n 2, 1) := by decide +kernel
theorem dX0_copyTo_27 : decode cX0_copyTo 27 = .ok (.invokevirtual 101, 3) := by decide +kernel
theorem dX0_copyTo_30 : decode cX0_copyTo 30 = .ok (.if_icmp .ge 109, 3) := by decide +kernel
theorem dX0_copyTo_33 : decode cX0_copyTo 33 = .ok (.iload 4, 2) := by decide +kernel
theorem dX0_copyTo_35 : decode cX0_copyTo 35 = .ok (.sipush 800, 3) := by decide +kernel
theorem dX0_copyTo_38 : decode cX0_copyTo 38 = .ok (.if_icmp .ge 101, 3) := by decide +kernel
theorem dX0_copyTo_41 : decode cX0_copyTo 41 = .ok (.iconst 0, 1) := by decide +kernel
theorem dX0_copyTo_42 : decode cX0_copyTo 42 = .ok (.istore 5, 2) := by decide +kernel
theorem dX0_copyTo_44 : decode cX0_copyTo 44 = .ok (.iload 5, 2) := by decide +kernel
theorem dX0_copyTo_46 : decode cX0_copyTo 46 = .ok (.iload_n 3, 1) := by decide +kernel
theorem dX0_copyTo_47 : decode cX0_copyTo 47 = .ok (.if_icmp .ge 86, 3) := by decide +kernel
theorem dX0_copyTo_50 : decode cX0_copyTo 50 = .ok (.aload_n 0, 1) := by decide +kernel
theorem dX0_copyTo_51 : decode cX0_copyTo 51 = .ok (.getfield 11, 3) := by decide +kernel
theorem dX0_copyTo_54 : decode cX0_copyTo 54 = .ok (.iload 4, 2) := by decide +kernel
theorem dX0_copyTo_56 : decode cX0_copyTo 56 = .ok (.bipush 25, 2) := by decide +kernel
theorem dX0_copyTo_58 : decode cX0_copyTo 58 = .ok (.imul, 1) := by decide +kernel
theorem dX0_copyTo_59 : decode cX0_copyTo 59 = .ok (.iload 5, 2) := by decide +kernel
theorem dX0_copyTo_61 : decode cX0_copyTo 61 = .ok (.iadd, 1) := by decide +kernel
theorem dX0_copyTo_62 : decode cX0_copyTo 62 = .ok (.iaload, 1) := by decide +kernel
theorem dX0_copyTo_63 : decode cX0_copyTo 63 = .ok (.istore 6, 2) := by decide +kernel
theorem dX0_copyTo_65 : decode cX0_copyTo 65 = .ok (.aload_n 2, 1) := by decide +kernel
theorem dX0_copyTo_66 : decode cX0_copyTo 66 = .ok (.getfield 148, 3) := by decide +kernel
theorem dX0_copyTo_69 : decode cX0_copyTo 69 = .ok (.ifCond .eq 26, 3) := by decide +kernel
theorem dX0_copyTo_72 : decode cX0_copyTo 72 = .ok (.aload_n 1, 1) := by decide +kernel
theorem dX0_copyTo_73 : decode cX0_copyTo 73 = .ok (.iload 4, 2) := by decide +kernel
theorem dX0_copyTo_75 : decode cX0_copyTo 75 = .ok (.aload_n 2, 1) := by decide +kernel
theorem dX0_copyTo_76 : decode cX0_copyTo 76 = .ok (.invokevirtual 151, 3) := by decide +kernel
theorem dX0_copyTo_79 : decode cX0_copyTo 79 = .ok (.iconst 1, 1) := by decide +kernel
theorem dX0_copyTo_80 : decode cX0_copyTo 80 = .ok (.isub, 1) := by decide +kernel
theorem dX0_copyTo_81 : decode cX0_copyTo 81 = .ok (.bipush 32, 2) := by decide +kernel
theorem dX0_copyTo_83 : decode cX0_copyTo 83 = .ok (.iload 5, 2) := by decide +kernel
theorem dX0_copyTo_85 : decode cX0_copyTo 85 = .ok (.imul, 1) := by decide +kernel
theorem dX0_copyTo_86 : decode cX0_copyTo 86 = .ok (.isub, 1) := by decide +kernel
theorem dX0_copyTo_87 : decode cX0_copyTo 87 = .ok (.iload 6, 2) := by decide +kernel
theorem dX0_copyTo_89 : decode cX0_copyTo 89 = .ok (.invokestatic 154, 3) := by decide +kernel
theorem dX0_copyTo_92 : decode cX0_copyTo 92 = .ok (.goto 35, 3) := by decide +kernel
theorem dX0_copyTo_95 : decode cX0_copyTo 95 = .ok (.iload 5, 2) := by decide +kernel
theorem dX0_copyTo_97 : decode cX0_copyTo 97 = .ok (.bipush 20, 2) := by decide +kernel
theorem dX0_copyTo_99 : decode cX0_copyTo 99 = .ok (.if_icmp .ge 28, 3) := by decide +kernel
theorem dX0_copyTo_102 : decode cX0_copyTo 102 = .ok (.iload 4, 2) := by decide +kernel
theorem dX0_copyTo_104 : decode cX0_copyTo 104 = .ok (.bipush 20, 2) := by decide +kernel
theorem dX0_copyTo_106 : decode cX0_copyTo 106 = .ok (.imul, 1) := by decide +kernel
theorem dX0_copyTo_107 : decode cX0_copyTo 107 = .ok (.iload 5, 2) := by decide +kernel
theorem dX0_copyTo_109 : decode cX0_copyTo 109 = .ok (.iadd, 1) := by decide +kernel
theorem dX0_copyTo_110 : decode cX0_copyTo 110 = .ok (.aload_n 1, 1) := by decide +kernel
theorem dX0_copyTo_111 : decode cX0_copyTo 111 = .ok (.arraylength, 1) := by decide +kernel
theorem dX0_copyTo_112 : decode cX0_copyTo 112 = .ok (.if_icmp .ge 15, 3) := by decide +kernel
theorem dX0_copyTo_115 : decode cX0_copyTo 115 = .ok (.aload_n 1, 1) := by decide +kernel
theorem dX0_copyTo_116 : decode cX0_copyTo 116 = .ok (.iload 4, 2) := by decide +kernel
theorem dX0_copyTo_118 : decode cX0_copyTo 118 = .ok (.bipush 20, 2) := by decide +kernel
theorem dX0_copyTo_120 : decode cX0_copyTo 120 = .ok (.imul, 1) := by decide +kernel
theorem dX0_copyTo_121 : decode cX0_copyTo 121 = .ok (.iload 5, 2) := by decide +kernel
theorem dX0_copyTo_123 : decode cX0_copyTo 123 = .ok (.iadd, 1) := by decide +kernel
theorem dX0_copyTo_124 : decode cX0_copyTo 124 = .ok (.iload 6, 2) := by decide +kernel
theorem dX0_copyTo_126 : decode cX0_copyTo 126 = .ok (.iastore, 1) := by decide +kernel
theorem dX0_copyTo_127 : decode cX0_copyTo 127 = .ok (.iinc 5 1, 3) := by decide +kernel
theorem dX0_copyTo_130 : decode cX0_copyTo 130 = .ok (.goto (-86), 3) := by decide +kernel
theorem dX0_copyTo_133 : decode cX0_copyTo 133 = .ok (.iinc 4 1, 3) := by decide +kernel
theorem dX0_copyTo_136 : decode cX0_copyTo 136 = .ok (.goto (-112), 3) := by decide +kernel
theorem dX0_copyTo_139 : decode cX0_copyTo 139 = .ok (.return_, 1) := by decide +kernel

set_option maxRecDepth 100000 in
set_option maxHeartbeats 4000000 in
theorem c_X0_copyTo (S : Hp) (ad : Nat → Nat) (hW : Wd ad S) (hI_700_ad27 : hI S 700 (ad 27) = 0) (hI_701_ad27 : hI S 701 (ad 27) = 0) (D : Nat → Int32) (hD0 : aI S (ad 13) = D) : Ct 4 yX0_copyTo cX0_copyTo 7 none 0 0 [.ref (ad 12), .ref (ad 11), .ref (ad 27)] S (fun r S' => r = none ∧ Fm (fun _ _ => False) (fun _ _ => False) (fun b9 => b9 = (ad 11)) S S' ∧ aI S' (ad 11) = (pgF (fillN (aI S (ad 11)) 16000 0) D 240 0)) := by
  refine ct_of (by decide) (Nat.le_of_ble_eq_true rfl) fun x hn9 C M hm9 => ?_
  have C : CB x RX0 cX0_copyTo := C
  refine J.eq (lv' := [(0, .ref (ad 12)), (1, .ref (ad 11)), (2, .ref (ad 27))]) rfl rfl rfl ?_
  refine j_aload_n C dX0_copyTo_0 rfl 1 rfl ?_
  refine j_iconst (v := 0) C dX0_copyTo_1 (by decide) ?_
  refine j_callS C [.ref (ad 11), .int 0] [] mlX0_42 mcJ7_fill_53178 (c_J7_fill_53178 S (ad 11) 16000 0 (wm_11 (S := S) hW) (wk_11 (S := S) hW) (wl_11 (S := S) hW) (by omega)) (M.rm (by decide) (by decide) (Nat.le_of_ble_eq_true rfl) (Nat.le_of_ble_eq_true rfl)) rfl rfl (Nat.le_of_ble_eq_true rfl) dX0_copyTo_2 (fun r_1 S_2 hp_3 => ?_)
  obtain ⟨rfl, e_4⟩ := hp_3
  refine J.eq (S' := (rI S (ad 11) (fillN (aI S (ad 11)) 16000 0))) (st' := []) (lv' := [(0, .ref (ad 12)), (1, .ref (ad 11)), (2, .ref (ad 27))]) e_4 rfl rfl ?_
  refine j_aload_n C dX0_copyTo_5 rfl 2 rfl ?_
  have hf_5 : Fm (fun _ _ => False) (fun _ _ => False) (fun b9 => b9 = (ad 11)) S (rI S (ad 11) (fillN (aI S (ad 11)) 16000 0)) := ((Fm.refl (WI := (fun _ _ => False)) (WR := (fun _ _ => False)) (WA := (fun b9 => b9 = (ad 11)))).rI _ (fun _ => rfl))
  refine j_callV (ci := 7) C [] [] mlX0_86 mcX7_dotsAcross (c_across0 (rI S (ad 11) (fillN (aI S (ad 11)) 16000 0)) (ad 27) (wm_27 (S := S) hW) (wk_27 (S := S) hW) (rxI_rI (S := S) hI_700_ad27) (rxI_rI (S := S) hI_701_ad27)) (wm_27 (S := S) hW) (wk_27 (S := S) hW) rfl (M.rm (by decide) (by decide) (Nat.le_of_ble_eq_true rfl) (Nat.le_of_ble_eq_true rfl)) rfl rfl (Nat.le_of_ble_eq_true rfl) dX0_copyTo_6 (fun r_6 S_7 hp_8 => ?_)
  obtain ⟨rfl, e_9⟩ := hp_8
  refine J.eq (S' := (rI S (ad 11) (fillN (aI S (ad 11)) 16000 0))) (st' := [.int 200]) (lv' := [(0, .ref (ad 12)), (1, .ref (ad 11)), (2, .ref (ad 27))]) e_9 rfl rfl ?_
  refine j_bipush (v := 31) C dX0_copyTo_9 (by decide) ?_
  refine j_iadd (v := 231) C dX0_copyTo_11 (by decide) ?_
  refine j_bipush (v := 32) C dX0_copyTo_12 (by decide) ?_
  show J _ _ _ _ _ 14 _
  refine j_idiv (v := 7) C dX0_copyTo_14 (by decide) (by decide) ?_
  refine j_bipush (v := 25) C dX0_copyTo_15 (by decide) ?_
  refine j_callS C [.int 7, .int 25] [] mlX0_92 mcJ9_min_7cf53 (c_J9_min_7cf53 (rI S (ad 11) (fillN (aI S (ad 11)) 16000 0)) 7 25) (M.rm (by decide) (by decide) (Nat.le_of_ble_eq_true rfl) (Nat.le_of_ble_eq_true rfl)) rfl rfl (Nat.le_of_ble_eq_true rfl) dX0_copyTo_17 (fun r_10 S_11 hp_12 => ?_)
  obtain ⟨rfl, e_13⟩ := hp_12
  refine J.eq (S' := (rI S (ad 11) (fillN (aI S (ad 11)) 16000 0))) (st' := .int 7 :: []) (lv' := [(0, .ref (ad 12)), (1, .ref (ad 11)), (2, .ref (ad 27))]) e_13 rfl (congrArg (fun z9 => Value.int z9 :: []) (by decide)) ?_
  refine J.eq (S' := (rI S (ad 11) (fillN (aI S (ad 11)) 16000 0))) (st' := [.int 7]) (lv' := [(0, .ref (ad 12)), (1, .ref (ad 11)), (2, .ref (ad 27))]) rfl rfl rfl ?_
  refine j_istore_n (lv' := [(3, .int 7), (0, .ref (ad 12)), (1, .ref (ad 11)), (2, .ref (ad 27))]) C dX0_copyTo_20 rfl (by rw [hn9]; decide) rfl ?_
  refine j_iconst (v := 0) C dX0_copyTo_21 (by decide) ?_
  refine j_istore (lv' := [(4, .int 0), (3, .int 7), (0, .ref (ad 12)), (1, .ref (ad 11)), (2, .ref (ad 27))]) C dX0_copyTo_22 (by rw [hn9]; decide) rfl ?_
  have loop_15 : ∀ (m9 yy : Nat), yy + m9 = 240 → J x (0 + 0 + 0 + 0) (0 + 0 + 0 + 0) (rI (rI S (ad 11) (fillN (aI S (ad 11)) 16000 0)) (ad 11) (pgF (fillN (aI S (ad 11)) 16000 0) D yy 0)) [(4, .int (nI yy)), (3, .int 7), (0, .ref (ad 12)), (1, .ref (ad 11)), (2, .ref (ad 27))] 24 [] := by
    intro m9
    induction m9 with
    | zero =>
      intro yy  hi_16 
      refine j_iload C dX0_copyTo_24 0 rfl ?_
      refine j_aload_n C dX0_copyTo_26 rfl 4 rfl ?_
      have hf_17 : Fm (fun _ _ => False) (fun _ _ => False) (fun b9 => b9 = (ad 11)) S (rI (rI S (ad 11) (fillN (aI S (ad 11)) 16000 0)) (ad 11) (pgF (fillN (aI S (ad 11)) 16000 0) D yy 0)) := (hf_5.rI _ (fun _ => rfl))
      refine j_callV (ci := 7) C [] [.int (nI yy)] mlX0_101 mcX7_dotsDown (c_down0 (rI (rI S (ad 11) (fillN (aI S (ad 11)) 16000 0)) (ad 11) (pgF (fillN (aI S (ad 11)) 16000 0) D yy 0)) (ad 27) (wm_27 (S := S) hW) (wk_27 (S := S) hW) (rxI_rI (S := (rI S (ad 11) (fillN (aI S (ad 11)) 16000 0))) (rxI_rI (S := S) hI_700_ad27)) (rxI_rI (S := (rI S (ad 11) (fillN (aI S (ad 11)) 16000 0))) (rxI_rI (S := S) hI_701_ad27))) (wm_27 (S := S) hW) (wk_27 (S := S) hW) rfl (M.rm (by decide) (by decide) (Nat.le_of_ble_eq_true rfl) (Nat.le_of_ble_eq_true rfl)) rfl rfl (Nat.le_of_ble_eq_true rfl) dX0_copyTo_27 (fun r_18 S_19 hp_20 => ?_)
      obtain ⟨rfl, e_21⟩ := hp_20
      refine J.eq (S' := (rI (rI S (ad 11) (fillN (aI S (ad 11)) 16000 0)) (ad 11) (pgF (fillN (aI S (ad 11)) 16000 0) D yy 0))) (st' := [.int 240, .int (nI yy)]) (lv' := [(4, .int (nI yy)), (3, .int 7), (0, .ref (ad 12)), (1, .ref (ad 11)), (2, .ref (ad 27))]) e_21 rfl rfl ?_
      show J _ _ _ _ _ 30 _
      refine j_ic_ge (tgt := 139) C dX0_copyTo_30 (by decide) (fun c_30 => ?_) (fun c_30 => absurd (nI_le (a := 240) (by omega) (by omega)) c_30)
      exact j_vret C M dX0_copyTo_139 (Nat.le_of_ble_eq_true rfl) (Nat.le_of_ble_eq_true rfl) ⟨rfl, hf_17, (funext fun j9 => rd_rIs.trans (by rw [show yy = 240 by omega]))⟩
    | succ m9 ih_14 =>
      intro yy  hi_16 
      refine j_iload C dX0_copyTo_24 0 rfl ?_
      refine j_aload_n C dX0_copyTo_26 rfl 4 rfl ?_
      have hf_22 : Fm (fun _ _ => False) (fun _ _ => False) (fun b9 => b9 = (ad 11)) S (rI (rI S (ad 11) (fillN (aI S (ad 11)) 16000 0)) (ad 11) (pgF (fillN (aI S (ad 11)) 16000 0) D yy 0)) := (hf_5.rI _ (fun _ => rfl))
      refine j_callV (ci := 7) C [] [.int (nI yy)] mlX0_101 mcX7_dotsDown (c_down0 (rI (rI S (ad 11) (fillN (aI S (ad 11)) 16000 0)) (ad 11) (pgF (fillN (aI S (ad 11)) 16000 0) D yy 0)) (ad 27) (wm_27 (S := S) hW) (wk_27 (S := S) hW) (rxI_rI (S := (rI S (ad 11) (fillN (aI S (ad 11)) 16000 0))) (rxI_rI (S := S) hI_700_ad27)) (rxI_rI (S := (rI S (ad 11) (fillN (aI S (ad 11)) 16000 0))) (rxI_rI (S := S) hI_701_ad27))) (wm_27 (S := S) hW) (wk_27 (S := S) hW) rfl (M.rm (by decide) (by decide) (Nat.le_of_ble_eq_true rfl) (Nat.le_of_ble_eq_true rfl)) rfl rfl (Nat.le_of_ble_eq_true rfl) dX0_copyTo_27 (fun r_23 S_24 hp_25 => ?_)
      obtain ⟨rfl, e_26⟩ := hp_25
      refine J.eq (S' := (rI (rI S (ad 11) (fillN (aI S (ad 11)) 16000 0)) (ad 11) (pgF (fillN (aI S (ad 11)) 16000 0) D yy 0))) (st' := [.int 240, .int (nI yy)]) (lv' := [(4, .int (nI yy)), (3, .int 7), (0, .ref (ad 12)), (1, .ref (ad 11)), (2, .ref (ad 27))]) e_26 rfl rfl ?_
      refine j_ic_ge (tgt := 139) C dX0_copyTo_30 (by decide) (fun c_30 => absurd c_30 (nI_ge (b := 240) (by omega) (by decide))) (fun c_30 => ?_)
      refine j_iload C dX0_copyTo_33 0 rfl ?_
      refine j_sipush (v := 800) C dX0_copyTo_35 (by decide) ?_
      refine j_ic_ge (tgt := 139) C dX0_copyTo_38 (by decide) (fun c_38 => absurd c_38 (nI_ge (b := 800) (by omega) (by decide))) (fun c_38 => ?_)
      refine j_iconst (v := 0) C dX0_copyTo_41 (by decide) ?_
      show J _ _ _ _ _ 42 _
      refine j_istore (lv' := [(5, .int 0), (4, .int (nI yy)), (3, .int 7), (0, .ref (ad 12)), (1, .ref (ad 11)), (2, .ref (ad 27))]) C dX0_copyTo_42 (by rw [hn9]; decide) rfl ?_
      have loop_28 : ∀ (m9 q : Nat), q + m9 = 7 → J x (0 + 0 + 0 + 0 + 0) (0 + 0 + 0 + 0 + 0) (rI (rI (rI S (ad 11) (fillN (aI S (ad 11)) 16000 0)) (ad 11) (pgF (fillN (aI S (ad 11)) 16000 0) D yy 0)) (ad 11) (pgF (fillN (aI S (ad 11)) 16000 0) D yy q)) [(5, .int (nI q)), (4, .int (nI yy)), (3, .int 7), (0, .ref (ad 12)), (1, .ref (ad 11)), (2, .ref (ad 27))] 44 [] := by
        intro m9
        induction m9 with
        | zero =>
          intro q  hi_29 
          refine j_iload C dX0_copyTo_44 0 rfl ?_
          refine j_iload_n C dX0_copyTo_46 rfl 2 rfl ?_
          refine j_ic_ge (tgt := 133) C dX0_copyTo_47 (by decide) (fun c_47 => ?_) (fun c_47 => absurd (nI_le (a := 7) (by omega) (by omega)) c_47)
          refine j_iinc (q := 1) (v := nI (yy + 1)) (lv' := [(4, .int (nI (yy + 1))), (5, .int (nI q)), (3, .int 7), (0, .ref (ad 12)), (1, .ref (ad 11)), (2, .ref (ad 27))]) C dX0_copyTo_133 rfl (nI_add yy 1) (by rw [hn9]; decide) rfl ?_
          refine j_goto (tgt := 24) C dX0_copyTo_136 (by decide) ?_
          refine J.sub [0, 2, 3, 4, 5] (lv' := [(4, .int (nI (yy + 1))), (3, .int 7), (0, .ref (ad 12)), (1, .ref (ad 11)), (2, .ref (ad 27))]) (by rfl) ?_
          refine J.eq (S' := (rI (rI S (ad 11) (fillN (aI S (ad 11)) 16000 0)) (ad 11) (pgF (fillN (aI S (ad 11)) 16000 0) D (yy + 1) 0))) (pg_nest (by rw [show q = 7 by omega]; exact pgF_y _ _ _)) rfl rfl ?_
          exact J.eq rfl rfl rfl (ih_14 (yy + 1)  (by omega) )
        | succ m9 ih_27 =>
          intro q  hi_29 
          refine j_iload C dX0_copyTo_44 0 rfl ?_
          refine j_iload_n C dX0_copyTo_46 rfl 2 rfl ?_
          refine j_ic_ge (tgt := 133) C dX0_copyTo_47 (by decide) (fun c_47 => absurd c_47 (nI_ge (b := 7) (by omega) (by decide))) (fun c_47 => ?_)
          refine j_aload_n C dX0_copyTo_50 rfl 3 rfl ?_
          show J _ _ _ _ _ 51 _
          refine j_getr (f := 0) (v := (ad 13)) C flX0_11 dX0_copyTo_51 (wm_12 (S := S) hW) (wk_12 (S := S) hW) (by decide) rfl (rxR_rI (S := (rI (rI S (ad 11) (fillN (aI S (ad 11)) 16000 0)) (ad 11) (pgF (fillN (aI S (ad 11)) 16000 0) D yy 0))) (rxR_rI (S := (rI S (ad 11) (fillN (aI S (ad 11)) 16000 0))) (rxR_rI (S := S) (wr_0_12 (S := S) hW)))) ?_
          refine j_iload C dX0_copyTo_54 1 rfl ?_
          refine j_bipush (v := 25) C dX0_copyTo_56 (by decide) ?_
          refine j_imul (v := nI (yy * 25)) C dX0_copyTo_58 (pk_mul yy 25) ?_
          refine j_iload C dX0_copyTo_59 0 rfl ?_
          refine j_iadd (v := nI ((yy * 25) + q)) C dX0_copyTo_61 (nI_add (yy * 25) q) ?_
          refine j_iald (j := ((yy * 25) + q)) (v := (D (yy * 25 + q))) C dX0_copyTo_62 (wm_13 (S := S) hW) (wk_13 (S := S) hW) (inr_of (n := 20000) (wl_13 (S := S) hW) (vp_in_nI (by omega) (by omega))) (nI_clamp (by omega)) (congrFun (show aI (rI (rI (rI S (ad 11) (fillN (aI S (ad 11)) 16000 0)) (ad 11) (pgF (fillN (aI S (ad 11)) 16000 0) D yy 0)) (ad 11) (pgF (fillN (aI S (ad 11)) 16000 0) D yy q)) (ad 13) = D from (by rw [show aI (rI (rI (rI S (ad 11) (fillN (aI S (ad 11)) 16000 0)) (ad 11) (pgF (fillN (aI S (ad 11)) 16000 0) D yy 0)) (ad 11) (pgF (fillN (aI S (ad 11)) 16000 0) D yy q)) (ad 13) = aI S (ad 13) from ((ar_rI (S := (rI (rI S (ad 11) (fillN (aI S (ad 11)) 16000 0)) (ad 11) (pgF (fillN (aI S (ad 11)) 16000 0) D yy 0))) (wn (S := S) hW (i := 13) (j := 11) (by decide) (by decide) (by decide))).trans ((ar_rI (S := (rI S (ad 11) (fillN (aI S (ad 11)) 16000 0))) (wn (S := S) hW (i := 13) (j := 11) (by decide) (by decide) (by decide))).trans (ar_rI (S := S) (wn (S := S) hW (i := 13) (j := 11) (by decide) (by decide) (by decide)))))]; exact hD0)) _) ?_
          refine j_istore (lv' := [(6, .int (D (yy * 25 + q))), (5, .int (nI q)), (4, .int (nI yy)), (3, .int 7), (0, .ref (ad 12)), (1, .ref (ad 11)), (2, .ref (ad 27))]) C dX0_copyTo_63 (by rw [hn9]; decide) rfl ?_
          show J _ _ _ _ _ 65 _
          refine j_aload_n C dX0_copyTo_65 rfl 6 rfl ?_
          refine j_geti (f := 701) (v := 0) C flX0_148 dX0_copyTo_66 (wm_27 (S := S) hW) (wk_27 (S := S) hW) (by decide) (by decide) rfl (rxI_rI (S := (rI (rI S (ad 11) (fillN (aI S (ad 11)) 16000 0)) (ad 11) (pgF (fillN (aI S (ad 11)) 16000 0) D yy 0))) (rxI_rI (S := (rI S (ad 11) (fillN (aI S (ad 11)) 16000 0))) (rxI_rI (S := S) hI_701_ad27))) ?_
          refine j_if_eq (tgt := 95) C dX0_copyTo_69 (by decide) (fun c9 => ?_) (fun c9 => absurd (by decide) c9)
          refine j_iload C dX0_copyTo_95 1 rfl ?_
          refine j_bipush (v := 20) C dX0_copyTo_97 (by decide) ?_
          refine j_ic_ge (tgt := 127) C dX0_copyTo_99 (by decide) (fun c_99 => absurd c_99 (nI_ge (b := 20) (by omega) (by decide))) (fun c_99 => ?_)
          refine j_iload C dX0_copyTo_102 2 rfl ?_
          refine j_bipush (v := 20) C dX0_copyTo_104 (by decide) ?_
          show J _ _ _ _ _ 106 _
          refine j_imul (v := nI (yy * 20)) C dX0_copyTo_106 (pk_mul yy 20) ?_
          refine j_iload C dX0_copyTo_107 1 rfl ?_
          refine j_iadd (v := nI ((yy * 20) + q)) C dX0_copyTo_109 (nI_add (yy * 20) q) ?_
          refine j_aload_n C dX0_copyTo_110 rfl 5 rfl ?_
          refine j_alen (v := 16000) C dX0_copyTo_111 (wm_11 (S := S) hW) (wk_11 (S := S) hW) (by decide) (by decide) (len_of (n := 16000) (wl_11 (S := S) hW) (by decide)) ?_
          refine j_ic_ge (tgt := 127) C dX0_copyTo_112 (by decide) (fun c_112 => absurd c_112 (nI_ge (b := 16000) (by omega) (by decide))) (fun c_112 => ?_)
          refine j_aload_n C dX0_copyTo_115 rfl 5 rfl ?_
          refine j_iload C dX0_copyTo_116 2 rfl ?_
          show J _ _ _ _ _ 118 _
          refine j_bipush (v := 20) C dX0_copyTo_118 (by decide) ?_
          refine j_imul (v := nI (yy * 20)) C dX0_copyTo_120 (pk_mul yy 20) ?_
          refine j_iload C dX0_copyTo_121 1 rfl ?_
          refine j_iadd (v := nI ((yy * 20) + q)) C dX0_copyTo_123 (nI_add (yy * 20) q) ?_
          refine j_iload C dX0_copyTo_124 0 rfl ?_
          refine j_iast (j := ((yy * 20) + q)) C dX0_copyTo_126 (wm_11 (S := S) hW) (wk_11 (S := S) hW) (inr_of (n := 16000) (wl_11 (S := S) hW) (vp_in_nI (by omega) (by omega))) (nI_clamp (by omega)) ?_
          refine j_iinc (q := 1) (v := nI (q + 1)) (lv' := [(5, .int (nI (q + 1))), (6, .int (D (yy * 25 + q))), (4, .int (nI yy)), (3, .int 7), (0, .ref (ad 12)), (1, .ref (ad 11)), (2, .ref (ad 27))]) C dX0_copyTo_127 rfl (nI_add q 1) (by rw [hn9]; decide) rfl ?_
          refine j_goto (tgt := 44) C dX0_copyTo_130 (by decide) ?_
          show J _ _ _ _ _ 44 _
          refine J.sub [0, 2, 3, 4, 5, 6] (lv' := [(5, .int (nI (q + 1))), (4, .int (nI yy)), (3, .int 7), (0, .ref (ad 12)), (1, .ref (ad 11)), (2, .ref (ad 27))]) (by rfl) ?_
          refine J.eq (S' := (rI (rI (rI S (ad 11) (fillN (aI S (ad 11)) 16000 0)) (ad 11) (pgF (fillN (aI S (ad 11)) 16000 0) D yy 0)) (ad 11) (pgF (fillN (aI S (ad 11)) 16000 0) D yy (q + 1)))) (rI_step (fun j => pgF_s _ _ _ _ (by omega) j)) rfl rfl ?_
          exact J.eq rfl rfl rfl (ih_27 (q + 1)  (by omega) )
      refine J.eq (S' := (rI (rI (rI S (ad 11) (fillN (aI S (ad 11)) 16000 0)) (ad 11) (pgF (fillN (aI S (ad 11)) 16000 0) D yy 0)) (ad 11) (pgF (fillN (aI S (ad 11)) 16000 0) D yy 0))) (rI_id (fun j => rd_rIs.symm)) rfl rfl ?_
      refine J.sub [0, 1, 2, 3, 4, 5] (lv' := [(5, .int (nI 0)), (4, .int (nI yy)), (3, .int 7), (0, .ref (ad 12)), (1, .ref (ad 11)), (2, .ref (ad 27))]) (by rfl) ?_
      exact J.eq rfl rfl rfl (loop_28 (7 - 0) 0  (by omega) )
  refine J.eq (S' := (rI (rI S (ad 11) (fillN (aI S (ad 11)) 16000 0)) (ad 11) (pgF (fillN (aI S (ad 11)) 16000 0) D 0 0))) (rI_id (fun j => (pgF_0 _ _ j).trans rd_rIs.symm)) rfl rfl ?_
  refine J.sub [0, 1, 2, 3, 4] (lv' := [(4, .int (nI 0)), (3, .int 7), (0, .ref (ad 12)), (1, .ref (ad 11)), (2, .ref (ad 27))]) (by rfl) ?_
  exact J.eq rfl rfl rfl (loop_15 (240 - 0) 0  (by omega) )
