theorem dJ7_fill_53178_0 : decode cJ7_fill_53178 0 = .ok (.iconst 0, 1) := by decide +kernel
theorem dJ7_fill_53178_1 : decode cJ7_fill_53178 1 = .ok (.istore_n 2, 1) := by decide +kernel
theorem dJ7_fill_53178_2 : decode cJ7_fill_53178 2 = .ok (.aload_n 0, 1) := by decide +kernel
theorem dJ7_fill_53178_3 : decode cJ7_fill_53178 3 = .ok (.arraylength, 1) := by decide +kernel
theorem dJ7_fill_53178_4 : decode cJ7_fill_53178 4 = .ok (.istore_n 3, 1) := by decide +kernel
theorem dJ7_fill_53178_5 : decode cJ7_fill_53178 5 = .ok (.iload_n 2, 1) := by decide +kernel
theorem dJ7_fill_53178_6 : decode cJ7_fill_53178 6 = .ok (.iload_n 3, 1) := by decide +kernel
theorem dJ7_fill_53178_7 : decode cJ7_fill_53178 7 = .ok (.if_icmp .ge 13, 3) := by decide +kernel
theorem dJ7_fill_53178_10 : decode cJ7_fill_53178 10 = .ok (.aload_n 0, 1) := by decide +kernel
theorem dJ7_fill_53178_11 : decode cJ7_fill_53178 11 = .ok (.iload_n 2, 1) := by decide +kernel
theorem dJ7_fill_53178_12 : decode cJ7_fill_53178 12 = .ok (.iload_n 1, 1) := by decide +kernel
theorem dJ7_fill_53178_13 : decode cJ7_fill_53178 13 = .ok (.iastore, 1) := by decide +kernel
theorem dJ7_fill_53178_14 : decode cJ7_fill_53178 14 = .ok (.iinc 2 1, 3) := by decide +kernel
theorem dJ7_fill_53178_17 : decode cJ7_fill_53178 17 = .ok (.goto (-12), 3) := by decide +kernel
theorem dJ7_fill_53178_20 : decode cJ7_fill_53178 20 = .ok (.return_, 1) := by decide +kernel
set_option maxRecDepth 100000 in
set_option maxHeartbeats 4000000 in
theorem c_J7_fill (S : Hp) (a N : Nat) (v : Int32) (hm : a ∈ hL S) (hk : hK S a = 14) (hn : hN S a = N) (hlt : N < 2 ^ 31) : Ct 1 yJ7_fill_53178 cJ7_fill_53178 4 none 0 0 [.ref a, .int v] S (fun r S' => r = none ∧ Fm (fun _ _ => False) (fun _ _ => False) (fun b9 => b9 = a) S S' ∧ ∀ j, j < N → aI S' a j = v) := by
  refine ct_of (by decide) (Nat.le_of_ble_eq_true rfl) fun x hn9 C M hm9 => ?_
  have C : CB x RJ7 cJ7_fill_53178 := C
  refine J.eq (lv' := [(0, .ref a), (1, .int v)]) rfl rfl rfl ?_
  refine j_iconst (v := 0) C dJ7_fill_53178_0 (by decide) ?_
  refine j_istore_n (lv' := [(2, .int 0), (0, .ref a), (1, .int v)]) C dJ7_fill_53178_1 rfl (by rw [hn9]; decide) rfl ?_
  refine j_aload_n C dJ7_fill_53178_2 rfl 1 rfl ?_
  refine j_alen (v := nI N) C dJ7_fill_53178_3 hm hk (by decide) (by decide) (len_of (n := N) hn rfl) ?_
  refine j_istore_n (lv' := [(3, .int (nI N)), (2, .int 0), (0, .ref a), (1, .int v)]) C dJ7_fill_53178_4 rfl (by rw [hn9]; decide) rfl ?_
  have loop_5 : ∀ (m9 i : Nat) (S_2 : Hp), i + m9 = N → Fm (fun _ _ => False) (fun _ _ => False) (fun b9 => b9 = a) S S_2 → (∀ j, j < i → aI S_2 a j = v) → J x (0) (0) S_2 [(3, .int (nI N)), (2, .int (nI i)), (0, .ref a), (1, .int v)] 5 [] := by
    intro m9
    induction m9 with
    | zero =>
      intro i S_2 hi_6 hl_3 hz
      have hm_7 : a ∈ hL S_2 := hl_3.mem hm
      have hk_8 : Kd S_2 a 14 := hl_3.kd hm hk
      have hn_9 : Ln S_2 a N := hl_3.ln hm hn
      have hf_10 : Fm (fun _ _ => False) (fun _ _ => False) (fun b9 => b9 = a) S S_2 := (Fm.refl (WI := (fun _ _ => False)) (WR := (fun _ _ => False)) (WA := (fun b9 => b9 = a))).then hl_3 (fun a9 ha9 => ⟨(fun f9 h9 => h9.elim), (fun f9 h9 => h9.elim), (fun h9 => (fun h8 => h8) h9)⟩)
      refine j_iload_n C dJ7_fill_53178_5 rfl 1 rfl ?_
      refine j_iload_n C dJ7_fill_53178_6 rfl 0 rfl ?_
      refine j_ic_ge (tgt := 20) C dJ7_fill_53178_7 (by decide) (fun c_7 => ?_) (fun c_7 => absurd (nI_le (by omega) (by omega)) c_7)
      exact j_vret C M dJ7_fill_53178_20 (by decide) (by decide) ⟨rfl, hf_10, fun j hj => hz j (by omega)⟩
    | succ m9 ih_4 =>
      intro i S_2 hi_6 hl_3 hz
      have hm_11 : a ∈ hL S_2 := hl_3.mem hm
      have hk_12 : Kd S_2 a 14 := hl_3.kd hm hk
      have hn_13 : Ln S_2 a N := hl_3.ln hm hn
      have hf_14 : Fm (fun _ _ => False) (fun _ _ => False) (fun b9 => b9 = a) S S_2 := (Fm.refl (WI := (fun _ _ => False)) (WR := (fun _ _ => False)) (WA := (fun b9 => b9 = a))).then hl_3 (fun a9 ha9 => ⟨(fun f9 h9 => h9.elim), (fun f9 h9 => h9.elim), (fun h9 => (fun h8 => h8) h9)⟩)
      refine j_iload_n C dJ7_fill_53178_5 rfl 1 rfl ?_
      refine j_iload_n C dJ7_fill_53178_6 rfl 0 rfl ?_
      show J _ _ _ _ _ 7 _
      refine j_ic_ge (tgt := 20) C dJ7_fill_53178_7 (by decide) (fun c_7 => absurd c_7 (nI_ge (by omega) (by omega))) (fun c_7 => ?_)
      refine j_aload_n C dJ7_fill_53178_10 rfl 2 rfl ?_
      refine j_iload_n C dJ7_fill_53178_11 rfl 1 rfl ?_
      refine j_iload_n C dJ7_fill_53178_12 rfl 3 rfl ?_
      refine j_iast (j := i) C dJ7_fill_53178_13 hm_11 hk_12 (inr_of (n := N) hn_13 (vp_in_nI (by omega) (by omega))) (nI_clamp (by omega)) ?_
      refine j_iinc (q := 1) (v := nI (i + 1)) (lv' := [(2, .int (nI (i + 1))), (3, .int (nI N)), (0, .ref a), (1, .int v)]) C dJ7_fill_53178_14 rfl (by rw [show Int32.ofInt 1 = 1 by decide]; exact nI_add i 1) (by rw [hn9]; decide) rfl ?_
      refine j_goto (tgt := 5) C dJ7_fill_53178_17 (by decide) ?_
      refine J.sub [1, 0, 2, 3] (lv' := [(3, .int (nI N)), (2, .int (nI (i + 1))), (0, .ref a), (1, .int v)]) (by rfl) ?_
      exact ih_4 (i + 1) _ (by omega) (hf_14.tI _ _ (fun _ => rfl)) (fun j hj => fill_step hz j hj)
  refine J.sub [0, 1, 2, 3] (lv' := [(3, .int (nI N)), (2, .int (nI 0)), (0, .ref a), (1, .int v)]) (by rw [nI_0]; rfl) ?_
  exact loop_5 N 0 _ (by omega) Fm.refl (fun j hj => absurd hj (Nat.not_lt_zero j))

theorem dX2_firstWishes_0 : decode cX2_firstWishes 0 = .ok (.aload_n 0, 1) := by decide +kernel
theorem dX2_firstWishes_1 : decode cX2_firstWishes 1 = .ok (.iconst 0, 1) := by decide +kernel
theorem dX2_firstWishes_2 : decode cX2_firstWishes 2 = .ok (.invokestatic 52, 3) := by decide +kernel
theorem dX2_firstWishes_5 : decode cX2_firstWishes 5 = .ok (.aload_n 0, 1) := by decide +kernel
theorem dX2_firstWishes_6 : decode cX2_firstWishes 6 = .ok (.arraylength, 1) := by decide +kernel
theorem dX2_firstWishes_7 : decode cX2_firstWishes 7 = .ok (.bipush 8, 2) := by decide +kernel
theorem dX2_firstWishes_9 : decode cX2_firstWishes 9 = .ok (.if_icmp .lt 19, 3) := by decide +kernel
theorem dX2_firstWishes_12 : decode cX2_firstWishes 12 = .ok (.aload_n 0, 1) := by decide +kernel
theorem dX2_firstWishes_13 : decode cX2_firstWishes 13 = .ok (.iconst 2, 1) := by decide +kernel
theorem dX2_firstWishes_14 : decode cX2_firstWishes 14 = .ok (.sipush 720, 3) := by decide +kernel
theorem dX2_firstWishes_17 : decode cX2_firstWishes 17 = .ok (.iastore, 1) := by decide +kernel
theorem dX2_firstWishes_18 : decode cX2_firstWishes 18 = .ok (.aload_n 0, 1) := by decide +kernel
theorem dX2_firstWishes_19 : decode cX2_firstWishes 19 = .ok (.iconst 3, 1) := by decide +kernel
theorem dX2_firstWishes_20 : decode cX2_firstWishes 20 = .ok (.bipush 8, 2) := by decide +kernel
theorem dX2_firstWishes_22 : decode cX2_firstWishes 22 = .ok (.iastore, 1) := by decide +kernel
theorem dX2_firstWishes_23 : decode cX2_firstWishes 23 = .ok (.aload_n 0, 1) := by decide +kernel
theorem dX2_firstWishes_24 : decode cX2_firstWishes 24 = .ok (.bipush 7, 2) := by decide +kernel
theorem dX2_firstWishes_26 : decode cX2_firstWishes 26 = .ok (.iconst (-1), 1) := by decide +kernel
theorem dX2_firstWishes_27 : decode cX2_firstWishes 27 = .ok (.iastore, 1) := by decide +kernel
theorem dX2_firstWishes_28 : decode cX2_firstWishes 28 = .ok (.return_, 1) := by decide +kernel
set_option maxRecDepth 100000 in
set_option maxHeartbeats 4000000 in
theorem c_X2_firstWishes (S : Hp) (a : Nat) (hm : a ∈ hL S) (hk : hK S a = 14) (hn : hN S a = 8) : Ct 2 yX2_firstWishes cX2_firstWishes 1 none 0 0 [.ref a] S (fun r S' => r = none ∧ Fm (fun _ _ => False) (fun _ _ => False) (fun b9 => b9 = a) S S') := by
  refine ct_of (by decide) (Nat.le_of_ble_eq_true rfl) fun x hn9 C M hm9 => ?_
  have C : CB x RX2 cX2_firstWishes := C
  refine J.eq (lv' := [(0, .ref a)]) rfl rfl rfl ?_
  refine j_aload_n C dX2_firstWishes_0 rfl 0 rfl ?_
  refine j_iconst (v := 0) C dX2_firstWishes_1 (by decide) ?_
  refine j_callS C [.ref a, .int 0] [] mlX2_52 mcJ7_fill_53178 (c_J7_fill S a 8 0 hm hk hn (by omega)) (M.rm (by decide) (by decide) (Nat.le_of_ble_eq_true rfl) (Nat.le_of_ble_eq_true rfl)) rfl rfl (Nat.le_of_ble_eq_true rfl) dX2_firstWishes_2 (fun r_2 S_3 hp_4 => ?_)
  obtain ⟨rfl, hf_5, hz_1⟩ := hp_4
  refine J.eq (st' := []) rfl rfl rfl ?_
  have hm_6 : a ∈ hL S_3 := hf_5.mem hm
  have hk_7 : Kd S_3 a 14 := hf_5.kd hm hk
  have hn_8 : Ln S_3 a 8 := hf_5.ln hm hn
  have hf_9 : Fm (fun _ _ => False) (fun _ _ => False) (fun b9 => b9 = a) S S_3 := (Fm.refl (WI := (fun _ _ => False)) (WR := (fun _ _ => False)) (WA := (fun b9 => b9 = a))).then hf_5 (fun a9 ha9 => ⟨(fun f9 h9 => h9.elim), (fun f9 h9 => h9.elim), (fun h9 => (fun h8 => h8) h9)⟩)
  refine j_aload_n C dX2_firstWishes_5 rfl 0 rfl ?_
  refine j_alen (v := 8) C dX2_firstWishes_6 hm_6 hk_7 (by decide) (by decide) (len_of (n := 8) hn_8 (by decide)) ?_
  refine j_bipush (v := 8) C dX2_firstWishes_7 (by decide) ?_
  refine j_ic_lt (tgt := 28) C dX2_firstWishes_9 (by decide) (fun c9 => absurd c9 (by decide)) (fun c9 => ?_)
  refine j_aload_n C dX2_firstWishes_12 rfl 0 rfl ?_
  show J _ _ _ _ _ 13 _
  refine j_iconst (v := 2) C dX2_firstWishes_13 (by decide) ?_
  refine j_sipush (v := 720) C dX2_firstWishes_14 (by decide) ?_
  refine j_iast (j := 2) C dX2_firstWishes_17 hm_6 hk_7 (inr_of (n := 8) hn_8 (vp_lit (by decide))) (by decide) ?_
  refine j_aload_n C dX2_firstWishes_18 rfl 0 rfl ?_
  refine j_iconst (v := 3) C dX2_firstWishes_19 (by decide) ?_
  refine j_bipush (v := 8) C dX2_firstWishes_20 (by decide) ?_
  refine j_iast (j := 3) C dX2_firstWishes_22 hm_6 hk_7 (inr_of (n := 8) hn_8 (vp_lit (by decide))) (by decide) ?_
  refine j_aload_n C dX2_firstWishes_23 rfl 0 rfl ?_
  show J _ _ _ _ _ 24 _
  refine j_bipush (v := 7) C dX2_firstWishes_24 (by decide) ?_
  refine j_iconst (v := (-1)) C dX2_firstWishes_26 (by decide) ?_
  refine j_iast (j := 7) C dX2_firstWishes_27 hm_6 hk_7 (inr_of (n := 8) hn_8 (vp_lit (by decide))) (by decide) ?_
  exact j_vret C M dX2_firstWishes_28 (Nat.le_of_ble_eq_true rfl) (Nat.le_of_ble_eq_true rfl) ⟨rfl, (((hf_9.tI _ _ (fun _ => rfl)).tI _ _ (fun _ => rfl)).tI _ _ (fun _ => rfl))⟩

theorem dX2_setHead_0 : decode cX2_setHead 0 = .ok (.iload_n 1, 1) := by decide +kernel
theorem dX2_setHead_1 : decode cX2_setHead 1 = .ok (.iconst 5, 1) := by decide +kernel
theorem dX2_setHead_2 : decode cX2_setHead 2 = .ok (.imul, 1) := by decide +kernel
theorem dX2_setHead_3 : decode cX2_setHead 3 = .ok (.istore 7, 2) := by decide +kernel
theorem dX2_setHead_5 : decode cX2_setHead 5 = .ok (.iload 7, 2) := by decide +kernel
theorem dX2_setHead_7 : decode cX2_setHead 7 = .ok (.ifCond .lt 68, 3) := by decide +kernel
theorem dX2_setHead_10 : decode cX2_setHead 10 = .ok (.iload 7, 2) := by decide +kernel
theorem dX2_setHead_12 : decode cX2_setHead 12 = .ok (.iconst 5, 1) := by decide +kernel
theorem dX2_setHead_13 : decode cX2_setHead 13 = .ok (.iadd, 1) := by decide +kernel
theorem dX2_setHead_14 : decode cX2_setHead 14 = .ok (.aload_n 0, 1) := by decide +kernel
theorem dX2_setHead_15 : decode cX2_setHead 15 = .ok (.getfield 29, 3) := by decide +kernel
theorem dX2_setHead_18 : decode cX2_setHead 18 = .ok (.arraylength, 1) := by decide +kernel
theorem dX2_setHead_19 : decode cX2_setHead 19 = .ok (.if_icmp .gt 56, 3) := by decide +kernel
theorem dX2_setHead_22 : decode cX2_setHead 22 = .ok (.aload_n 0, 1) := by decide +kernel
theorem dX2_setHead_23 : decode cX2_setHead 23 = .ok (.getfield 29, 3) := by decide +kernel
theorem dX2_setHead_26 : decode cX2_setHead 26 = .ok (.iload 7, 2) := by decide +kernel
theorem dX2_setHead_28 : decode cX2_setHead 28 = .ok (.iconst 0, 1) := by decide +kernel
theorem dX2_setHead_29 : decode cX2_setHead 29 = .ok (.iadd, 1) := by decide +kernel
theorem dX2_setHead_30 : decode cX2_setHead 30 = .ok (.iload_n 2, 1) := by decide +kernel
theorem dX2_setHead_31 : decode cX2_setHead 31 = .ok (.iastore, 1) := by decide +kernel
theorem dX2_setHead_32 : decode cX2_setHead 32 = .ok (.aload_n 0, 1) := by decide +kernel
theorem dX2_setHead_33 : decode cX2_setHead 33 = .ok (.getfield 29, 3) := by decide +kernel
theorem dX2_setHead_36 : decode cX2_setHead 36 = .ok (.iload 7, 2) := by decide +kernel
theorem dX2_setHead_38 : decode cX2_setHead 38 = .ok (.iconst 1, 1) := by decide +kernel
theorem dX2_setHead_39 : decode cX2_setHead 39 = .ok (.iadd, 1) := by decide +kernel
theorem dX2_setHead_40 : decode cX2_setHead 40 = .ok (.iload_n 3, 1) := by decide +kernel
theorem dX2_setHead_41 : decode cX2_setHead 41 = .ok (.iastore, 1) := by decide +kernel
theorem dX2_setHead_42 : decode cX2_setHead 42 = .ok (.aload_n 0, 1) := by decide +kernel
theorem dX2_setHead_43 : decode cX2_setHead 43 = .ok (.getfield 29, 3) := by decide +kernel
theorem dX2_setHead_46 : decode cX2_setHead 46 = .ok (.iload 7, 2) := by decide +kernel
theorem dX2_setHead_48 : decode cX2_setHead 48 = .ok (.iconst 2, 1) := by decide +kernel
theorem dX2_setHead_49 : decode cX2_setHead 49 = .ok (.iadd, 1) := by decide +kernel
theorem dX2_setHead_50 : decode cX2_setHead 50 = .ok (.iload 4, 2) := by decide +kernel
theorem dX2_setHead_52 : decode cX2_setHead 52 = .ok (.iastore, 1) := by decide +kernel
theorem dX2_setHead_53 : decode cX2_setHead 53 = .ok (.aload_n 0, 1) := by decide +kernel
theorem dX2_setHead_54 : decode cX2_setHead 54 = .ok (.getfield 29, 3) := by decide +kernel
theorem dX2_setHead_57 : decode cX2_setHead 57 = .ok (.iload 7, 2) := by decide +kernel
theorem dX2_setHead_59 : decode cX2_setHead 59 = .ok (.iconst 3, 1) := by decide +kernel
theorem dX2_setHead_60 : decode cX2_setHead 60 = .ok (.iadd, 1) := by decide +kernel
theorem dX2_setHead_61 : decode cX2_setHead 61 = .ok (.iload 5, 2) := by decide +kernel
theorem dX2_setHead_63 : decode cX2_setHead 63 = .ok (.iastore, 1) := by decide +kernel
theorem dX2_setHead_64 : decode cX2_setHead 64 = .ok (.aload_n 0, 1) := by decide +kernel
theorem dX2_setHead_65 : decode cX2_setHead 65 = .ok (.getfield 29, 3) := by decide +kernel
theorem dX2_setHead_68 : decode cX2_setHead 68 = .ok (.iload 7, 2) := by decide +kernel
theorem dX2_setHead_70 : decode cX2_setHead 70 = .ok (.iconst 4, 1) := by decide +kernel
theorem dX2_setHead_71 : decode cX2_setHead 71 = .ok (.iadd, 1) := by decide +kernel
theorem dX2_setHead_72 : decode cX2_setHead 72 = .ok (.iload 6, 2) := by decide +kernel
theorem dX2_setHead_74 : decode cX2_setHead 74 = .ok (.iastore, 1) := by decide +kernel
theorem dX2_setHead_75 : decode cX2_setHead 75 = .ok (.return_, 1) := by decide +kernel
set_option maxRecDepth 100000 in
set_option maxHeartbeats 4000000 in
theorem c_X2_setHead (S : Hp) (h q s : Nat) (v2 v3 v4 v5 v6 : Int32) (hm : h ∈ hL S) (hk : hK S h = 2) (hs : s < 494) (hr : hR S 204 h = some q) (hqm : q ∈ hL S) (hqk : hK S q = 14) (hqn : hN S q = 2470) : Ct 1 yX2_setHead cX2_setHead 8 none 0 0 [.ref h, .int (nI s), .int v2, .int v3, .int v4, .int v5, .int v6] S (fun r S' => r = none ∧ Fm (fun _ _ => False) (fun _ _ => False) (fun b9 => b9 = q) S S') := by
  refine ct_of (by decide) (Nat.le_of_ble_eq_true rfl) fun x hn9 C M hm9 => ?_
  have C : CB x RX2 cX2_setHead := C
  refine J.eq (lv' := [(0, .ref h), (1, .int (nI s)), (2, .int v2), (3, .int v3), (4, .int v4), (5, .int v5), (6, .int v6)]) rfl rfl rfl ?_
  refine j_iload_n C dX2_setHead_0 rfl 1 rfl ?_
  refine j_iconst (v := 5) C dX2_setHead_1 (by decide) ?_
  refine j_imul (v := nI (s * 5)) C dX2_setHead_2 (pk_mul s 5) ?_
  refine j_istore (lv' := [(7, .int (nI (s * 5))), (0, .ref h), (1, .int (nI s)), (2, .int v2), (3, .int v3), (4, .int v4), (5, .int v5), (6, .int v6)]) C dX2_setHead_3 (by rw [hn9]; decide) rfl ?_
  refine j_iload C dX2_setHead_5 0 rfl ?_
  refine j_if_lt (tgt := 75) C dX2_setHead_7 (by decide) (fun c_7 => absurd c_7 (nI_pos (by omega))) (fun c_7 => ?_)
  refine j_iload C dX2_setHead_10 0 rfl ?_
  refine j_iconst (v := 5) C dX2_setHead_12 (by decide) ?_
  show J _ _ _ _ _ 13 _
  refine j_iadd (v := nI (s * 5 + 5)) C dX2_setHead_13 (nI_add (s * 5) 5) ?_
  refine j_aload_n C dX2_setHead_14 rfl 1 rfl ?_
  refine j_getr (f := 204) (v := q) C flX2_29 dX2_setHead_15 hm hk (by decide) rfl hr ?_
  refine j_alen (v := 2470) C dX2_setHead_18 hqm hqk (by decide) (by decide) (len_of (n := 2470) hqn (by decide)) ?_
  refine j_ic_gt (tgt := 75) C dX2_setHead_19 (by decide) (fun c_19 => absurd c_19 (nI_nlt (a := 2470) (by omega) (by omega))) (fun c_19 => ?_)
  refine j_aload_n C dX2_setHead_22 rfl 1 rfl ?_
  refine j_getr (f := 204) (v := q) C flX2_29 dX2_setHead_23 hm hk (by decide) rfl hr ?_
  refine j_iload C dX2_setHead_26 0 rfl ?_
  show J _ _ _ _ _ 28 _
  refine j_iconst (v := 0) C dX2_setHead_28 (by decide) ?_
  refine j_iadd (v := nI (s * 5 + 0)) C dX2_setHead_29 (nI_add (s * 5) 0) ?_
  refine j_iload_n C dX2_setHead_30 rfl 3 rfl ?_
  refine j_iast (j := (s * 5 + 0)) C dX2_setHead_31 hqm hqk (inr_of (n := 2470) hqn (vp_in_nI (by omega) (by omega))) (nI_clamp (by omega)) ?_
  refine j_aload_n C dX2_setHead_32 rfl 1 rfl ?_
  refine j_getr (f := 204) (v := q) C flX2_29 dX2_setHead_33 hm hk (by decide) rfl hr ?_
  refine j_iload C dX2_setHead_36 0 rfl ?_
  refine j_iconst (v := 1) C dX2_setHead_38 (by decide) ?_
  show J _ _ _ _ _ 39 _
  refine j_iadd (v := nI (s * 5 + 1)) C dX2_setHead_39 (nI_add (s * 5) 1) ?_
  refine j_iload_n C dX2_setHead_40 rfl 4 rfl ?_
  refine j_iast (j := (s * 5 + 1)) C dX2_setHead_41 hqm hqk (inr_of (n := 2470) hqn (vp_in_nI (by omega) (by omega))) (nI_clamp (by omega)) ?_
  refine j_aload_n C dX2_setHead_42 rfl 1 rfl ?_
  refine j_getr (f := 204) (v := q) C flX2_29 dX2_setHead_43 hm hk (by decide) rfl hr ?_
  refine j_iload C dX2_setHead_46 0 rfl ?_
  refine j_iconst (v := 2) C dX2_setHead_48 (by decide) ?_
  refine j_iadd (v := nI (s * 5 + 2)) C dX2_setHead_49 (nI_add (s * 5) 2) ?_
  show J _ _ _ _ _ 50 _
  refine j_iload C dX2_setHead_50 5 rfl ?_
  refine j_iast (j := (s * 5 + 2)) C dX2_setHead_52 hqm hqk (inr_of (n := 2470) hqn (vp_in_nI (by omega) (by omega))) (nI_clamp (by omega)) ?_
  refine j_aload_n C dX2_setHead_53 rfl 1 rfl ?_
  refine j_getr (f := 204) (v := q) C flX2_29 dX2_setHead_54 hm hk (by decide) rfl hr ?_
  refine j_iload C dX2_setHead_57 0 rfl ?_
  refine j_iconst (v := 3) C dX2_setHead_59 (by decide) ?_
  refine j_iadd (v := nI (s * 5 + 3)) C dX2_setHead_60 (nI_add (s * 5) 3) ?_
  refine j_iload C dX2_setHead_61 6 rfl ?_
  show J _ _ _ _ _ 63 _
  refine j_iast (j := (s * 5 + 3)) C dX2_setHead_63 hqm hqk (inr_of (n := 2470) hqn (vp_in_nI (by omega) (by omega))) (nI_clamp (by omega)) ?_
  refine j_aload_n C dX2_setHead_64 rfl 1 rfl ?_
  refine j_getr (f := 204) (v := q) C flX2_29 dX2_setHead_65 hm hk (by decide) rfl hr ?_
  refine j_iload C dX2_setHead_68 0 rfl ?_
  refine j_iconst (v := 4) C dX2_setHead_70 (by decide) ?_
  refine j_iadd (v := nI (s * 5 + 4)) C dX2_setHead_71 (nI_add (s * 5) 4) ?_
  refine j_iload C dX2_setHead_72 7 rfl ?_
  refine j_iast (j := (s * 5 + 4)) C dX2_setHead_74 hqm hqk (inr_of (n := 2470) hqn (vp_in_nI (by omega) (by omega))) (nI_clamp (by omega)) ?_
  show J _ _ _ _ _ 75 _
  exact j_vret C M dX2_setHead_75 (by decide) (by decide) ⟨rfl, ((((((Fm.refl (WI := (fun _ _ => False)) (WR := (fun _ _ => False)) (WA := (fun b9 => b9 = q))).tI _ _ (fun _ => rfl)).tI _ _ (fun _ => rfl)).tI _ _ (fun _ => rfl)).tI _ _ (fun _ => rfl)).tI _ _ (fun _ => rfl))⟩
