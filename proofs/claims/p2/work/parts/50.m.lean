theorem dX12_lay_0 : decode cX12_lay 0 = .ok (.bipush 24, 2) := by decide +kernel
theorem dX12_lay_2 : decode cX12_lay 2 = .ok (.istore_n 2, 1) := by decide +kernel
theorem dX12_lay_3 : decode cX12_lay 3 = .ok (.iload_n 2, 1) := by decide +kernel
theorem dX12_lay_4 : decode cX12_lay 4 = .ok (.ifCond .lt 32, 3) := by decide +kernel
theorem dX12_lay_7 : decode cX12_lay 7 = .ok (.aload_n 0, 1) := by decide +kernel
theorem dX12_lay_8 : decode cX12_lay 8 = .ok (.getfield 75, 3) := by decide +kernel
theorem dX12_lay_11 : decode cX12_lay 11 = .ok (.aload_n 0, 1) := by decide +kernel
theorem dX12_lay_12 : decode cX12_lay 12 = .ok (.getfield 146, 3) := by decide +kernel
theorem dX12_lay_15 : decode cX12_lay 15 = .ok (.iload_n 1, 1) := by decide +kernel
theorem dX12_lay_16 : decode cX12_lay 16 = .ok (.iload_n 2, 1) := by decide +kernel
theorem dX12_lay_17 : decode cX12_lay 17 = .ok (.ishr, 1) := by decide +kernel
theorem dX12_lay_18 : decode cX12_lay 18 = .ok (.i2b, 1) := by decide +kernel
theorem dX12_lay_19 : decode cX12_lay 19 = .ok (.bastore, 1) := by decide +kernel
theorem dX12_lay_20 : decode cX12_lay 20 = .ok (.aload_n 0, 1) := by decide +kernel
theorem dX12_lay_21 : decode cX12_lay 21 = .ok (.dup, 1) := by decide +kernel
theorem dX12_lay_22 : decode cX12_lay 22 = .ok (.getfield 146, 3) := by decide +kernel
theorem dX12_lay_25 : decode cX12_lay 25 = .ok (.iconst 1, 1) := by decide +kernel
theorem dX12_lay_26 : decode cX12_lay 26 = .ok (.iadd, 1) := by decide +kernel
theorem dX12_lay_27 : decode cX12_lay 27 = .ok (.putfield 146, 3) := by decide +kernel
theorem dX12_lay_30 : decode cX12_lay 30 = .ok (.iinc 2 (-8), 3) := by decide +kernel
theorem dX12_lay_33 : decode cX12_lay 33 = .ok (.goto (-30), 3) := by decide +kernel
theorem dX12_lay_36 : decode cX12_lay 36 = .ok (.return_, 1) := by decide +kernel
noncomputable def f_X12_lay_b3 (k3 : Int32 → Int32 → Mm → Option (Unit × Mm)) (a1 : Int32) (a2 : Int32) (T : Mm) : Option (Unit × Mm) :=
  if a2 < 0 then (some ((), T))
  else (ix (gI T 1224 133) 8000 fun j1 => lb (uA T 155 j1 ((((a1 >>> (a2 &&& 31))).toInt8.toInt32).toInt8.toInt32)) fun T3 =>
  lb (uI T3 1224 133 ((gI T3 1224 133) + 1)) fun T4 =>
  k3 a1 (a2 + (-8)) T4)
set_option maxRecDepth 100000 in
set_option maxHeartbeats 4000000 in
theorem s_X12_lay_b3 {x : JX} {ad : Nat → Nat} {U : Mm} {S0 : Hp} {q : Unit × Mm}  {k3 : Int32 → Int32 → Mm → Option (Unit × Mm)} (hn9 : x_n x = 3) (C : CB x RX12 cX12_lay) (M : CMr x 1 none S0 ad false U eV q) (hk3 : ∀ (a1 : Int32) (a2 : Int32) (T : Mm), k3 a1 a2 T = some q → Jr x ad false U T [(0, .ref (ad 133)), (1, .int a1), (2, .int a2)] 3 []) (a1 : Int32) (a2 : Int32) (T : Mm) (h : f_X12_lay_b3 k3 a1 a2 T = some q) : Jr x ad false U T [(0, .ref (ad 133)), (1, .int a1), (2, .int a2)] 3 [] := by
  unfold f_X12_lay_b3 at h
  refine r_iload_n C dX12_lay_3 rfl 2 rfl ?_
  refine r_if_lt (tgt := 36) C dX12_lay_4 (by decide) h (fun h => ?_) (fun h => ?_)
  · exact r_vret C M dX12_lay_36 h
  · refine r_aload_n C dX12_lay_7 rfl 0 rfl ?_
    refine r_getp (f := 1223) (j := 155) C flX12_75 dX12_lay_8 kq_133 (by decide) rfl (fun W => pt_1223 kq_133 W) ?_
    refine r_aload_n C dX12_lay_11 rfl 0 rfl ?_
    refine r_geti (f := 1224) C flX12_146 dX12_lay_12 kq_133 (by decide) (by decide) rfl ?_
    refine r_iload_n C dX12_lay_15 rfl 1 rfl ?_
    show Jr _ _ _ _ _ _ 16 _
    refine r_iload_n C dX12_lay_16 rfl 2 rfl ?_
    refine r_ishr C dX12_lay_17 rfl ?_
    refine r_i2b C dX12_lay_18 rfl ?_
    refine r_bast (n := 8000) C dX12_lay_19 kq_155 lq_155 h (fun j1 T3 hj2 h => ?_)
    refine r_aload_n C dX12_lay_20 rfl 0 rfl ?_
    refine r_dup C dX12_lay_21 rfl ?_
    show Jr _ _ _ _ _ _ 22 _
    refine r_geti (f := 1224) C flX12_146 dX12_lay_22 kq_133 (by decide) (by decide) rfl ?_
    refine r_iconst (v := 1) C dX12_lay_25 (by decide) ?_
    refine r_iadd C dX12_lay_26 rfl ?_
    refine r_puti (f := 1224) C flX12_146 (by decide) rfl rfl dX12_lay_27 kq_133 rfl h (fun T4 h => ?_)
    refine r_iinc (q := 2) (v := (a2 + (-8))) (lv' := [(2, .int (a2 + (-8))), (0, .ref (ad 133)), (1, .int a1)]) C dX12_lay_30 rfl (by rw [show Int32.ofInt (-8) = (-8) by decide]) (by rw [hn9]; decide) rfl ?_
    refine r_goto (tgt := 3) C dX12_lay_33 (by decide) ?_
    refine Jr.sub [1, 2, 0] (lv' := [(0, .ref (ad 133)), (1, .int a1), (2, .int (a2 + (-8)))]) rfl ?_
    exact hk3 a1 (a2 + (-8)) T4 h
noncomputable def f_X12_lay_l3 (n : Nat) : Int32 → Int32 → Mm → Option (Unit × Mm) := Nat.rec (fun _ _ _ => none) (fun _ ih => f_X12_lay_b3 ih) n
theorem s_X12_lay_l3 {x : JX} {ad : Nat → Nat} {U : Mm} {S0 : Hp} {q : Unit × Mm}  (hn9 : x_n x = 3) (C : CB x RX12 cX12_lay) (M : CMr x 1 none S0 ad false U eV q) : ∀ (n : Nat), ∀ (a1 : Int32) (a2 : Int32) (T : Mm), f_X12_lay_l3  n a1 a2 T = some q → Jr x ad false U T [(0, .ref (ad 133)), (1, .int a1), (2, .int a2)] 3 [] := by
  intro n
  induction n with
  | zero => intro a1 a2 T  h; exact absurd h (by intro h; cases h)
  | succ n ih => exact fun a1 a2 T  h => s_X12_lay_b3 hn9 C M (ih) a1 a2 T  h
noncomputable def f_X12_lay (p1 : Int32) (T : Mm) : Option (Unit × Mm) :=
  f_X12_lay_l3 FU p1 24 T
set_option maxRecDepth 100000 in
set_option maxHeartbeats 4000000 in
theorem s_X12_lay {ad : Nat → Nat} {U T : Mm} {q : Unit × Mm}  (p1 : Int32) (h : f_X12_lay p1 T = some q) : Cr 1 yX12_lay cX12_lay 3 none [.ref (ad 133), .int p1] ad false U T eV q := by
  refine cr_of (by decide) (Nat.le_of_ble_eq_true rfl) fun x S0 hn9 C M => ?_
  have C : CB x RX12 cX12_lay := C
  refine Jr.eq (lv' := [(0, .ref (ad 133)), (1, .int p1)]) (st' := []) rfl rfl ?_
  unfold f_X12_lay at h
  refine r_bipush (v := 24) C dX12_lay_0 (by decide) ?_
  refine r_istore_n (lv' := [(2, .int 24), (0, .ref (ad 133)), (1, .int p1)]) C dX12_lay_2 rfl (by rw [hn9]; decide) rfl ?_
  refine Jr.sub [1, 2, 0] (lv' := [(0, .ref (ad 133)), (1, .int p1), (2, .int 24)]) rfl ?_
  exact s_X12_lay_l3 hn9 C M  FU p1 24 T h
theorem dX12_feed_0 : decode cX12_feed 0 = .ok (.aload_n 0, 1) := by decide +kernel
theorem dX12_feed_1 : decode cX12_feed 1 = .ok (.getfield 146, 3) := by decide +kernel
theorem dX12_feed_4 : decode cX12_feed 4 = .ok (.bipush 20, 2) := by decide +kernel
theorem dX12_feed_6 : decode cX12_feed 6 = .ok (.iadd, 1) := by decide +kernel
theorem dX12_feed_7 : decode cX12_feed 7 = .ok (.sipush 8000, 3) := by decide +kernel
theorem dX12_feed_10 : decode cX12_feed 10 = .ok (.if_icmp .le 5, 3) := by decide +kernel
theorem dX12_feed_13 : decode cX12_feed 13 = .ok (.iconst (-1), 1) := by decide +kernel
theorem dX12_feed_14 : decode cX12_feed 14 = .ok (.ireturn, 1) := by decide +kernel
theorem dX12_feed_15 : decode cX12_feed 15 = .ok (.aload_n 0, 1) := by decide +kernel
theorem dX12_feed_16 : decode cX12_feed 16 = .ok (.iload_n 1, 1) := by decide +kernel
theorem dX12_feed_17 : decode cX12_feed 17 = .ok (.invokevirtual 149, 3) := by decide +kernel
theorem dX12_feed_20 : decode cX12_feed 20 = .ok (.aload_n 0, 1) := by decide +kernel
theorem dX12_feed_21 : decode cX12_feed 21 = .ok (.iload_n 2, 1) := by decide +kernel
theorem dX12_feed_22 : decode cX12_feed 22 = .ok (.invokevirtual 149, 3) := by decide +kernel
theorem dX12_feed_25 : decode cX12_feed 25 = .ok (.aload_n 0, 1) := by decide +kernel
theorem dX12_feed_26 : decode cX12_feed 26 = .ok (.iload_n 3, 1) := by decide +kernel
theorem dX12_feed_27 : decode cX12_feed 27 = .ok (.invokevirtual 149, 3) := by decide +kernel
theorem dX12_feed_30 : decode cX12_feed 30 = .ok (.aload_n 0, 1) := by decide +kernel
theorem dX12_feed_31 : decode cX12_feed 31 = .ok (.iload 4, 2) := by decide +kernel
theorem dX12_feed_33 : decode cX12_feed 33 = .ok (.invokevirtual 149, 3) := by decide +kernel
theorem dX12_feed_36 : decode cX12_feed 36 = .ok (.aload_n 0, 1) := by decide +kernel
theorem dX12_feed_37 : decode cX12_feed 37 = .ok (.iload 5, 2) := by decide +kernel
theorem dX12_feed_39 : decode cX12_feed 39 = .ok (.invokevirtual 149, 3) := by decide +kernel
theorem dX12_feed_42 : decode cX12_feed 42 = .ok (.aload_n 0, 1) := by decide +kernel
theorem dX12_feed_43 : decode cX12_feed 43 = .ok (.getfield 146, 3) := by decide +kernel
theorem dX12_feed_46 : decode cX12_feed 46 = .ok (.ireturn, 1) := by decide +kernel
noncomputable def f_X12_feed (p1 : Int32) (p2 : Int32) (p3 : Int32) (p4 : Int32) (p5 : Int32) (T : Mm) : Option (Int32 × Mm) :=
  if ((gI T 1224 133) + 20) ≤ 8000 then (bd (f_X12_lay p1 T) fun _ T1 =>
  bd (f_X12_lay p2 T1) fun _ T2 =>
  bd (f_X12_lay p3 T2) fun _ T3 =>
  bd (f_X12_lay p4 T3) fun _ T4 =>
  bd (f_X12_lay p5 T4) fun _ T5 =>
  some ((gI T5 1224 133), T5))
  else (some ((-1), T))
set_option maxRecDepth 100000 in
set_option maxHeartbeats 4000000 in
theorem s_X12_feed {ad : Nat → Nat} {U T : Mm} {q : Int32 × Mm}  (p1 : Int32) (p2 : Int32) (p3 : Int32) (p4 : Int32) (p5 : Int32) (h : f_X12_feed p1 p2 p3 p4 p5 T = some q) : Cr 2 yX12_feed cX12_feed 6 (some .int) [.ref (ad 133), .int p1, .int p2, .int p3, .int p4, .int p5] ad false U T eI q := by
  refine cr_of (by decide) (Nat.le_of_ble_eq_true rfl) fun x S0 hn9 C M => ?_
  have C : CB x RX12 cX12_feed := C
  refine Jr.eq (lv' := [(0, .ref (ad 133)), (1, .int p1), (2, .int p2), (3, .int p3), (4, .int p4), (5, .int p5)]) (st' := []) rfl rfl ?_
  unfold f_X12_feed at h
  refine r_aload_n C dX12_feed_0 rfl 0 rfl ?_
  refine r_geti (f := 1224) C flX12_146 dX12_feed_1 kq_133 (by decide) (by decide) rfl ?_
  refine r_bipush (v := 20) C dX12_feed_4 (by decide) ?_
  refine r_iadd C dX12_feed_6 rfl ?_
  refine r_sipush (v := 8000) C dX12_feed_7 (by decide) ?_
  show Jr _ _ _ _ _ _ 10 _
  refine r_ic_le (tgt := 15) C dX12_feed_10 (by decide) h (fun h => ?_) (fun h => ?_)
  · refine r_aload_n C dX12_feed_15 rfl 0 rfl ?_
    refine r_iload_n C dX12_feed_16 rfl 1 rfl ?_
    refine r_callVN C M h [.int p1] [] mlX12_149 mcX12_lay (fun q9 e9 => s_X12_lay p1  e9) kq_133 rfl (by decide) (by decide) rfl rfl (Nat.le_of_ble_eq_true rfl) dX12_feed_17 (fun _ T1 h => ?_)
    refine r_aload_n C dX12_feed_20 rfl 0 rfl ?_
    refine r_iload_n C dX12_feed_21 rfl 2 rfl ?_
    show Jr _ _ _ _ _ _ 22 _
    refine r_callVN C M h [.int p2] [] mlX12_149 mcX12_lay (fun q9 e9 => s_X12_lay p2  e9) kq_133 rfl (by decide) (by decide) rfl rfl (Nat.le_of_ble_eq_true rfl) dX12_feed_22 (fun _ T2 h => ?_)
    refine r_aload_n C dX12_feed_25 rfl 0 rfl ?_
    refine r_iload_n C dX12_feed_26 rfl 3 rfl ?_
    refine r_callVN C M h [.int p3] [] mlX12_149 mcX12_lay (fun q9 e9 => s_X12_lay p3  e9) kq_133 rfl (by decide) (by decide) rfl rfl (Nat.le_of_ble_eq_true rfl) dX12_feed_27 (fun _ T3 h => ?_)
    refine r_aload_n C dX12_feed_30 rfl 0 rfl ?_
    refine r_iload C dX12_feed_31 4 rfl ?_
    show Jr _ _ _ _ _ _ 33 _
    refine r_callVN C M h [.int p4] [] mlX12_149 mcX12_lay (fun q9 e9 => s_X12_lay p4  e9) kq_133 rfl (by decide) (by decide) rfl rfl (Nat.le_of_ble_eq_true rfl) dX12_feed_33 (fun _ T4 h => ?_)
    refine r_aload_n C dX12_feed_36 rfl 0 rfl ?_
    refine r_iload C dX12_feed_37 5 rfl ?_
    refine r_callVN C M h [.int p5] [] mlX12_149 mcX12_lay (fun q9 e9 => s_X12_lay p5  e9) kq_133 rfl (by decide) (by decide) rfl rfl (Nat.le_of_ble_eq_true rfl) dX12_feed_39 (fun _ T5 h => ?_)
    refine r_aload_n C dX12_feed_42 rfl 0 rfl ?_
    refine r_geti (f := 1224) C flX12_146 dX12_feed_43 kq_133 (by decide) (by decide) rfl ?_
    show Jr _ _ _ _ _ _ 46 _
    exact r_iret C M dX12_feed_46 h
  · refine r_iconst (v := (-1)) C dX12_feed_13 (by decide) ?_
    exact r_iret C M dX12_feed_14 h
theorem dX12_cut_0 : decode cX12_cut 0 = .ok (.iload_n 1, 1) := by decide +kernel
theorem dX12_cut_1 : decode cX12_cut 1 = .ok (.ifCond .lt 11, 3) := by decide +kernel
theorem dX12_cut_4 : decode cX12_cut 4 = .ok (.iload_n 1, 1) := by decide +kernel
theorem dX12_cut_5 : decode cX12_cut 5 = .ok (.aload_n 0, 1) := by decide +kernel
theorem dX12_cut_6 : decode cX12_cut 6 = .ok (.getfield 146, 3) := by decide +kernel
theorem dX12_cut_9 : decode cX12_cut 9 = .ok (.if_icmp .le 5, 3) := by decide +kernel
theorem dX12_cut_12 : decode cX12_cut 12 = .ok (.iconst (-1), 1) := by decide +kernel
theorem dX12_cut_13 : decode cX12_cut 13 = .ok (.ireturn, 1) := by decide +kernel
theorem dX12_cut_14 : decode cX12_cut 14 = .ok (.aload_n 0, 1) := by decide +kernel
theorem dX12_cut_15 : decode cX12_cut 15 = .ok (.getfield 146, 3) := by decide +kernel
theorem dX12_cut_18 : decode cX12_cut 18 = .ok (.iload_n 1, 1) := by decide +kernel
theorem dX12_cut_19 : decode cX12_cut 19 = .ok (.isub, 1) := by decide +kernel
theorem dX12_cut_20 : decode cX12_cut 20 = .ok (.istore_n 2, 1) := by decide +kernel
theorem dX12_cut_21 : decode cX12_cut 21 = .ok (.aload_n 0, 1) := by decide +kernel
theorem dX12_cut_22 : decode cX12_cut 22 = .ok (.iload_n 1, 1) := by decide +kernel
theorem dX12_cut_23 : decode cX12_cut 23 = .ok (.putfield 146, 3) := by decide +kernel
theorem dX12_cut_26 : decode cX12_cut 26 = .ok (.iload_n 2, 1) := by decide +kernel
theorem dX12_cut_27 : decode cX12_cut 27 = .ok (.ireturn, 1) := by decide +kernel
noncomputable def f_X12_cut (p1 : Int32) (T : Mm) : Option (Int32 × Mm) :=
  if p1 < 0 then (some ((-1), T))
  else (if p1 ≤ (gI T 1224 133) then (lb (((gI T 1224 133) - p1)) fun v1 =>
  lb (uI T 1224 133 p1) fun T2 =>
  some (v1, T2))
  else (some ((-1), T)))
set_option maxRecDepth 100000 in
set_option maxHeartbeats 4000000 in
theorem s_X12_cut {ad : Nat → Nat} {U T : Mm} {q : Int32 × Mm}  (p1 : Int32) (h : f_X12_cut p1 T = some q) : Cr 1 yX12_cut cX12_cut 3 (some .int) [.ref (ad 133), .int p1] ad false U T eI q := by
  refine cr_of (by decide) (Nat.le_of_ble_eq_true rfl) fun x S0 hn9 C M => ?_
  have C : CB x RX12 cX12_cut := C
  refine Jr.eq (lv' := [(0, .ref (ad 133)), (1, .int p1)]) (st' := []) rfl rfl ?_
  unfold f_X12_cut at h
  refine r_iload_n C dX12_cut_0 rfl 1 rfl ?_
  refine r_if_lt (tgt := 12) C dX12_cut_1 (by decide) h (fun h => ?_) (fun h => ?_)
  · refine r_iconst (v := (-1)) C dX12_cut_12 (by decide) ?_
    exact r_iret C M dX12_cut_13 h
  · refine r_iload_n C dX12_cut_4 rfl 1 rfl ?_
    refine r_aload_n C dX12_cut_5 rfl 0 rfl ?_
    refine r_geti (f := 1224) C flX12_146 dX12_cut_6 kq_133 (by decide) (by decide) rfl ?_
    refine r_ic_le (tgt := 14) C dX12_cut_9 (by decide) h (fun h => ?_) (fun h => ?_)
    · refine r_aload_n C dX12_cut_14 rfl 0 rfl ?_
      refine r_geti (f := 1224) C flX12_146 dX12_cut_15 kq_133 (by decide) (by decide) rfl ?_
      refine r_iload_n C dX12_cut_18 rfl 1 rfl ?_
      refine r_isub C dX12_cut_19 rfl ?_
      refine r_lbI h (fun v1 h => ?_)
      refine r_istore_n (lv' := [(2, .int v1), (0, .ref (ad 133)), (1, .int p1)]) C dX12_cut_20 rfl (by rw [hn9]; decide) rfl ?_
      show Jr _ _ _ _ _ _ 21 _
      refine r_aload_n C dX12_cut_21 rfl 1 rfl ?_
      refine r_iload_n C dX12_cut_22 rfl 2 rfl ?_
      refine r_puti (f := 1224) C flX12_146 (by decide) rfl rfl dX12_cut_23 kq_133 rfl h (fun T2 h => ?_)
      refine r_iload_n C dX12_cut_26 rfl 0 rfl ?_
      exact r_iret C M dX12_cut_27 h
    · refine r_iconst (v := (-1)) C dX12_cut_12 (by decide) ?_
      exact r_iret C M dX12_cut_13 h
theorem dX12_part_0 : decode cX12_part 0 = .ok (.aload_n 0, 1) := by decide +kernel
theorem dX12_part_1 : decode cX12_part 1 = .ok (.getfield 146, 3) := by decide +kernel
theorem dX12_part_4 : decode cX12_part 4 = .ok (.istore_n 2, 1) := by decide +kernel
theorem dX12_part_5 : decode cX12_part 5 = .ok (.aload_n 0, 1) := by decide +kernel
theorem dX12_part_6 : decode cX12_part 6 = .ok (.iconst 0, 1) := by decide +kernel
theorem dX12_part_7 : decode cX12_part 7 = .ok (.putfield 146, 3) := by decide +kernel
theorem dX12_part_10 : decode cX12_part 10 = .ok (.iload_n 1, 1) := by decide +kernel
theorem dX12_part_11 : decode cX12_part 11 = .ok (.ifCond .lt 34, 3) := by decide +kernel
theorem dX12_part_14 : decode cX12_part 14 = .ok (.iload_n 1, 1) := by decide +kernel
theorem dX12_part_15 : decode cX12_part 15 = .ok (.iconst 1, 1) := by decide +kernel
theorem dX12_part_16 : decode cX12_part 16 = .ok (.if_icmp .gt 29, 3) := by decide +kernel
theorem dX12_part_19 : decode cX12_part 19 = .ok (.aload_n 0, 1) := by decide +kernel
theorem dX12_part_20 : decode cX12_part 20 = .ok (.getfield 153, 3) := by decide +kernel
theorem dX12_part_23 : decode cX12_part 23 = .ok (.bipush 6, 2) := by decide +kernel
theorem dX12_part_25 : decode cX12_part 25 = .ok (.if_icmp .eq 20, 3) := by decide +kernel
theorem dX12_part_28 : decode cX12_part 28 = .ok (.aload_n 0, 1) := by decide +kernel
theorem dX12_part_29 : decode cX12_part 29 = .ok (.getfield 69, 3) := by decide +kernel
theorem dX12_part_32 : decode cX12_part 32 = .ok (.aload_n 0, 1) := by decide +kernel
theorem dX12_part_33 : decode cX12_part 33 = .ok (.getfield 153, 3) := by decide +kernel
theorem dX12_part_36 : decode cX12_part 36 = .ok (.iaload, 1) := by decide +kernel
theorem dX12_part_37 : decode cX12_part 37 = .ok (.iload_n 2, 1) := by decide +kernel
theorem dX12_part_38 : decode cX12_part 38 = .ok (.iadd, 1) := by decide +kernel
theorem dX12_part_39 : decode cX12_part 39 = .ok (.sipush 12000, 3) := by decide +kernel
theorem dX12_part_42 : decode cX12_part 42 = .ok (.if_icmp .le 5, 3) := by decide +kernel
theorem dX12_part_45 : decode cX12_part 45 = .ok (.iconst (-1), 1) := by decide +kernel
theorem dX12_part_46 : decode cX12_part 46 = .ok (.ireturn, 1) := by decide +kernel
theorem dX12_part_47 : decode cX12_part 47 = .ok (.iconst 0, 1) := by decide +kernel
theorem dX12_part_48 : decode cX12_part 48 = .ok (.istore_n 3, 1) := by decide +kernel
theorem dX12_part_49 : decode cX12_part 49 = .ok (.iload_n 3, 1) := by decide +kernel
theorem dX12_part_50 : decode cX12_part 50 = .ok (.iload_n 2, 1) := by decide +kernel
theorem dX12_part_51 : decode cX12_part 51 = .ok (.if_icmp .ge 31, 3) := by decide +kernel
theorem dX12_part_54 : decode cX12_part 54 = .ok (.aload_n 0, 1) := by decide +kernel
theorem dX12_part_55 : decode cX12_part 55 = .ok (.getfield 66, 3) := by decide +kernel
theorem dX12_part_58 : decode cX12_part 58 = .ok (.aload_n 0, 1) := by decide +kernel
theorem dX12_part_59 : decode cX12_part 59 = .ok (.getfield 69, 3) := by decide +kernel
theorem dX12_part_62 : decode cX12_part 62 = .ok (.aload_n 0, 1) := by decide +kernel
theorem dX12_part_63 : decode cX12_part 63 = .ok (.getfield 153, 3) := by decide +kernel
theorem dX12_part_66 : decode cX12_part 66 = .ok (.iaload, 1) := by decide +kernel
theorem dX12_part_67 : decode cX12_part 67 = .ok (.iload_n 3, 1) := by decide +kernel
theorem dX12_part_68 : decode cX12_part 68 = .ok (.iadd, 1) := by decide +kernel
theorem dX12_part_69 : decode cX12_part 69 = .ok (.aload_n 0, 1) := by decide +kernel
theorem dX12_part_70 : decode cX12_part 70 = .ok (.getfield 75, 3) := by decide +kernel
theorem dX12_part_73 : decode cX12_part 73 = .ok (.iload_n 3, 1) := by decide +kernel
theorem dX12_part_74 : decode cX12_part 74 = .ok (.baload, 1) := by decide +kernel
theorem dX12_part_75 : decode cX12_part 75 = .ok (.bastore, 1) := by decide +kernel
theorem dX12_part_76 : decode cX12_part 76 = .ok (.iinc 3 1, 3) := by decide +kernel
theorem dX12_part_79 : decode cX12_part 79 = .ok (.goto (-30), 3) := by decide +kernel
theorem dX12_part_82 : decode cX12_part 82 = .ok (.aload_n 0, 1) := by decide +kernel
theorem dX12_part_83 : decode cX12_part 83 = .ok (.getfield 72, 3) := by decide +kernel
theorem dX12_part_86 : decode cX12_part 86 = .ok (.aload_n 0, 1) := by decide +kernel
theorem dX12_part_87 : decode cX12_part 87 = .ok (.getfield 153, 3) := by decide +kernel
theorem dX12_part_90 : decode cX12_part 90 = .ok (.iload_n 1, 1) := by decide +kernel
theorem dX12_part_91 : decode cX12_part 91 = .ok (.iastore, 1) := by decide +kernel
theorem dX12_part_92 : decode cX12_part 92 = .ok (.aload_n 0, 1) := by decide +kernel
theorem dX12_part_93 : decode cX12_part 93 = .ok (.dup, 1) := by decide +kernel
theorem dX12_part_94 : decode cX12_part 94 = .ok (.getfield 153, 3) := by decide +kernel
theorem dX12_part_97 : decode cX12_part 97 = .ok (.iconst 1, 1) := by decide +kernel
theorem dX12_part_98 : decode cX12_part 98 = .ok (.iadd, 1) := by decide +kernel
theorem dX12_part_99 : decode cX12_part 99 = .ok (.putfield 153, 3) := by decide +kernel
theorem dX12_part_102 : decode cX12_part 102 = .ok (.aload_n 0, 1) := by decide +kernel
theorem dX12_part_103 : decode cX12_part 103 = .ok (.getfield 69, 3) := by decide +kernel
theorem dX12_part_106 : decode cX12_part 106 = .ok (.aload_n 0, 1) := by decide +kernel
theorem dX12_part_107 : decode cX12_part 107 = .ok (.getfield 153, 3) := by decide +kernel
theorem dX12_part_110 : decode cX12_part 110 = .ok (.aload_n 0, 1) := by decide +kernel
theorem dX12_part_111 : decode cX12_part 111 = .ok (.getfield 69, 3) := by decide +kernel
theorem dX12_part_114 : decode cX12_part 114 = .ok (.aload_n 0, 1) := by decide +kernel
theorem dX12_part_115 : decode cX12_part 115 = .ok (.getfield 153, 3) := by decide +kernel
theorem dX12_part_118 : decode cX12_part 118 = .ok (.iconst 1, 1) := by decide +kernel
theorem dX12_part_119 : decode cX12_part 119 = .ok (.isub, 1) := by decide +kernel
theorem dX12_part_120 : decode cX12_part 120 = .ok (.iaload, 1) := by decide +kernel
theorem dX12_part_121 : decode cX12_part 121 = .ok (.iload_n 2, 1) := by decide +kernel
theorem dX12_part_122 : decode cX12_part 122 = .ok (.iadd, 1) := by decide +kernel
theorem dX12_part_123 : decode cX12_part 123 = .ok (.iastore, 1) := by decide +kernel
theorem dX12_part_124 : decode cX12_part 124 = .ok (.aload_n 0, 1) := by decide +kernel
theorem dX12_part_125 : decode cX12_part 125 = .ok (.getfield 153, 3) := by decide +kernel
theorem dX12_part_128 : decode cX12_part 128 = .ok (.ireturn, 1) := by decide +kernel
noncomputable def f_X12_part_b49 (k49 : Int32 → Int32 → Int32 → Mm → Option (Int32 × Mm)) (a1 : Int32) (a2 : Int32) (a3 : Int32) (T : Mm) : Option (Int32 × Mm) :=
  if a2 ≤ a3 then (ix (gI T 1222 133) 6 fun j1 => lb (uA T 154 j1 (a1)) fun T3 =>
  lb (uI T3 1222 133 ((gI T3 1222 133) + 1)) fun T4 =>
  ix ((gI T4 1222 133) - 1) 7 fun j5 =>
  ix (gI T4 1222 133) 7 fun j7 => lb (uA T4 153 j7 (((gA T4 153 j5) + a2))) fun T9 =>
  some ((gI T9 1222 133), T9))
  else (ix (gI T 1222 133) 7 fun j10 =>
  ix a3 8000 fun j12 =>
  ix ((gA T 153 j10) + a3) 12000 fun j14 => lb (uA T 152 j14 (((gA T 155 j12)).toInt8.toInt32)) fun T16 =>
  k49 a1 a2 (a3 + 1) T16)
set_option maxRecDepth 100000 in
set_option maxHeartbeats 4000000 in
theorem s_X12_part_b49 {x : JX} {ad : Nat → Nat} {U : Mm} {S0 : Hp} {q : Int32 × Mm}  {k49 : Int32 → Int32 → Int32 → Mm → Option (Int32 × Mm)} (hn9 : x_n x = 4) (C : CB x RX12 cX12_part) (M : CMr x 1 (some .int) S0 ad false U eI q) (hk49 : ∀ (a1 : Int32) (a2 : Int32) (a3 : Int32) (T : Mm), k49 a1 a2 a3 T = some q → Jr x ad false U T [(0, .ref (ad 133)), (1, .int a1), (2, .int a2), (3, .int a3)] 49 []) (a1 : Int32) (a2 : Int32) (a3 : Int32) (T : Mm) (h : f_X12_part_b49 k49 a1 a2 a3 T = some q) : Jr x ad false U T [(0, .ref (ad 133)), (1, .int a1), (2, .int a2), (3, .int a3)] 49 [] := by
  unfold f_X12_part_b49 at h
  refine r_iload_n C dX12_part_49 rfl 3 rfl ?_
  refine r_iload_n C dX12_part_50 rfl 2 rfl ?_
  refine r_ic_ge (tgt := 82) C dX12_part_51 (by decide) h (fun h => ?_) (fun h => ?_)
  · refine r_aload_n C dX12_part_82 rfl 0 rfl ?_
    refine r_getp (f := 1221) (j := 154) C flX12_72 dX12_part_83 kq_133 (by decide) rfl (fun W => pt_1221 kq_133 W) ?_
    refine r_aload_n C dX12_part_86 rfl 0 rfl ?_
    refine r_geti (f := 1222) C flX12_153 dX12_part_87 kq_133 (by decide) (by decide) rfl ?_
    refine r_iload_n C dX12_part_90 rfl 1 rfl ?_
    show Jr _ _ _ _ _ _ 91 _
    refine r_iast (n := 6) C dX12_part_91 kq_154 lq_154 h (fun j1 T3 hj2 h => ?_)
    refine r_aload_n C dX12_part_92 rfl 0 rfl ?_
    refine r_dup C dX12_part_93 rfl ?_
    refine r_geti (f := 1222) C flX12_153 dX12_part_94 kq_133 (by decide) (by decide) rfl ?_
    refine r_iconst (v := 1) C dX12_part_97 (by decide) ?_
    refine r_iadd C dX12_part_98 rfl ?_
    show Jr _ _ _ _ _ _ 99 _
    refine r_puti (f := 1222) C flX12_153 (by decide) rfl rfl dX12_part_99 kq_133 rfl h (fun T4 h => ?_)
    refine r_aload_n C dX12_part_102 rfl 0 rfl ?_
    refine r_getp (f := 1220) (j := 153) C flX12_69 dX12_part_103 kq_133 (by decide) rfl (fun W => pt_1220 kq_133 W) ?_
    refine r_aload_n C dX12_part_106 rfl 0 rfl ?_
    refine r_geti (f := 1222) C flX12_153 dX12_part_107 kq_133 (by decide) (by decide) rfl ?_
    refine r_aload_n C dX12_part_110 rfl 0 rfl ?_
    show Jr _ _ _ _ _ _ 111 _
    refine r_getp (f := 1220) (j := 153) C flX12_69 dX12_part_111 kq_133 (by decide) rfl (fun W => pt_1220 kq_133 W) ?_
    refine r_aload_n C dX12_part_114 rfl 0 rfl ?_
    refine r_geti (f := 1222) C flX12_153 dX12_part_115 kq_133 (by decide) (by decide) rfl ?_
    refine r_iconst (v := 1) C dX12_part_118 (by decide) ?_
    refine r_isub C dX12_part_119 rfl ?_
    refine r_iald (n := 7) C dX12_part_120 kq_153 lq_153 h (fun j5 hj6 h => ?_)
    show Jr _ _ _ _ _ _ 121 _
    refine r_iload_n C dX12_part_121 rfl 2 rfl ?_
    refine r_iadd C dX12_part_122 rfl ?_
    refine r_iast (n := 7) C dX12_part_123 kq_153 lq_153 h (fun j7 T9 hj8 h => ?_)
    refine r_aload_n C dX12_part_124 rfl 0 rfl ?_
    refine r_geti (f := 1222) C flX12_153 dX12_part_125 kq_133 (by decide) (by decide) rfl ?_
    exact r_iret C M dX12_part_128 h
  · refine r_aload_n C dX12_part_54 rfl 0 rfl ?_
    refine r_getp (f := 1219) (j := 152) C flX12_66 dX12_part_55 kq_133 (by decide) rfl (fun W => pt_1219 kq_133 W) ?_
    refine r_aload_n C dX12_part_58 rfl 0 rfl ?_
    refine r_getp (f := 1220) (j := 153) C flX12_69 dX12_part_59 kq_133 (by decide) rfl (fun W => pt_1220 kq_133 W) ?_
    refine r_aload_n C dX12_part_62 rfl 0 rfl ?_
    show Jr _ _ _ _ _ _ 63 _
    refine r_geti (f := 1222) C flX12_153 dX12_part_63 kq_133 (by decide) (by decide) rfl ?_
    refine r_iald (n := 7) C dX12_part_66 kq_153 lq_153 h (fun j10 hj11 h => ?_)
    refine r_iload_n C dX12_part_67 rfl 3 rfl ?_
    refine r_iadd C dX12_part_68 rfl ?_
    refine r_aload_n C dX12_part_69 rfl 0 rfl ?_
    refine r_getp (f := 1223) (j := 155) C flX12_75 dX12_part_70 kq_133 (by decide) rfl (fun W => pt_1223 kq_133 W) ?_
    show Jr _ _ _ _ _ _ 73 _
    refine r_iload_n C dX12_part_73 rfl 3 rfl ?_
    refine r_bald (n := 8000) C dX12_part_74 kq_155 lq_155 h (fun j12 hj13 h => ?_)
    refine r_bast (n := 12000) C dX12_part_75 kq_152 lq_152 h (fun j14 T16 hj15 h => ?_)
    refine r_iinc (q := 3) (v := (a3 + 1)) (lv' := [(3, .int (a3 + 1)), (0, .ref (ad 133)), (1, .int a1), (2, .int a2)]) C dX12_part_76 rfl (by rw [show Int32.ofInt (1) = 1 by decide]) (by rw [hn9]; decide) rfl ?_
    refine r_goto (tgt := 49) C dX12_part_79 (by decide) ?_
    refine Jr.sub [1, 2, 3, 0] (lv' := [(0, .ref (ad 133)), (1, .int a1), (2, .int a2), (3, .int (a3 + 1))]) rfl ?_
    exact hk49 a1 a2 (a3 + 1) T16 h
noncomputable def f_X12_part_l49 (n : Nat) : Int32 → Int32 → Int32 → Mm → Option (Int32 × Mm) := Nat.rec (fun _ _ _ _ => none) (fun _ ih => f_X12_part_b49 ih) n
theorem s_X12_part_l49 {x : JX} {ad : Nat → Nat} {U : Mm} {S0 : Hp} {q : Int32 × Mm}  (hn9 : x_n x = 4) (C : CB x RX12 cX12_part) (M : CMr x 1 (some .int) S0 ad false U eI q) : ∀ (n : Nat), ∀ (a1 : Int32) (a2 : Int32) (a3 : Int32) (T : Mm), f_X12_part_l49  n a1 a2 a3 T = some q → Jr x ad false U T [(0, .ref (ad 133)), (1, .int a1), (2, .int a2), (3, .int a3)] 49 [] := by
  intro n
  induction n with
  | zero => intro a1 a2 a3 T  h; exact absurd h (by intro h; cases h)
  | succ n ih => exact fun a1 a2 a3 T  h => s_X12_part_b49 hn9 C M (ih) a1 a2 a3 T  h
noncomputable def f_X12_part (p1 : Int32) (T : Mm) : Option (Int32 × Mm) :=
  lb ((gI T 1224 133)) fun v1 =>
  lb (uI T 1224 133 0) fun T2 =>
  if p1 < 0 then (some ((-1), T2))
  else (if 1 < p1 then (some ((-1), T2))
  else (if (gI T2 1222 133) = 6 then (some ((-1), T2))
  else (ix (gI T2 1222 133) 7 fun j3 =>
  if ((gA T2 153 j3) + v1) ≤ 12000 then (f_X12_part_l49 FU p1 v1 0 T2)
  else (some ((-1), T2)))))
set_option maxRecDepth 100000 in
set_option maxHeartbeats 4000000 in
theorem s_X12_part {ad : Nat → Nat} {U T : Mm} {q : Int32 × Mm}  (p1 : Int32) (h : f_X12_part p1 T = some q) : Cr 1 yX12_part cX12_part 4 (some .int) [.ref (ad 133), .int p1] ad false U T eI q := by
  refine cr_of (by decide) (Nat.le_of_ble_eq_true rfl) fun x S0 hn9 C M => ?_
  have C : CB x RX12 cX12_part := C
  refine Jr.eq (lv' := [(0, .ref (ad 133)), (1, .int p1)]) (st' := []) rfl rfl ?_
  unfold f_X12_part at h
  refine r_aload_n C dX12_part_0 rfl 0 rfl ?_
  refine r_geti (f := 1224) C flX12_146 dX12_part_1 kq_133 (by decide) (by decide) rfl ?_
  refine r_lbI h (fun v1 h => ?_)
  refine r_istore_n (lv' := [(2, .int v1), (0, .ref (ad 133)), (1, .int p1)]) C dX12_part_4 rfl (by rw [hn9]; decide) rfl ?_
  refine r_aload_n C dX12_part_5 rfl 1 rfl ?_
  refine r_iconst (v := 0) C dX12_part_6 (by decide) ?_
  show Jr _ _ _ _ _ _ 7 _
  refine r_puti (f := 1224) C flX12_146 (by decide) rfl rfl dX12_part_7 kq_133 rfl h (fun T2 h => ?_)
  refine r_iload_n C dX12_part_10 rfl 2 rfl ?_
  refine r_if_lt (tgt := 45) C dX12_part_11 (by decide) h (fun h => ?_) (fun h => ?_)
  · refine r_iconst (v := (-1)) C dX12_part_45 (by decide) ?_
    exact r_iret C M dX12_part_46 h
  · refine r_iload_n C dX12_part_14 rfl 2 rfl ?_
    refine r_iconst (v := 1) C dX12_part_15 (by decide) ?_
    refine r_ic_gt (tgt := 45) C dX12_part_16 (by decide) h (fun h => ?_) (fun h => ?_)
    · refine r_iconst (v := (-1)) C dX12_part_45 (by decide) ?_
      exact r_iret C M dX12_part_46 h
    · refine r_aload_n C dX12_part_19 rfl 1 rfl ?_
      refine r_geti (f := 1222) C flX12_153 dX12_part_20 kq_133 (by decide) (by decide) rfl ?_
      refine r_bipush (v := 6) C dX12_part_23 (by decide) ?_
      refine r_ic_eq (tgt := 45) C dX12_part_25 (by decide) h (fun h => ?_) (fun h => ?_)
      · refine r_iconst (v := (-1)) C dX12_part_45 (by decide) ?_
        exact r_iret C M dX12_part_46 h
      · refine r_aload_n C dX12_part_28 rfl 1 rfl ?_
        refine r_getp (f := 1220) (j := 153) C flX12_69 dX12_part_29 kq_133 (by decide) rfl (fun W => pt_1220 kq_133 W) ?_
        refine r_aload_n C dX12_part_32 rfl 1 rfl ?_
        refine r_geti (f := 1222) C flX12_153 dX12_part_33 kq_133 (by decide) (by decide) rfl ?_
        refine r_iald (n := 7) C dX12_part_36 kq_153 lq_153 h (fun j3 hj4 h => ?_)
        show Jr _ _ _ _ _ _ 37 _
        refine r_iload_n C dX12_part_37 rfl 0 rfl ?_
        refine r_iadd C dX12_part_38 rfl ?_
        refine r_sipush (v := 12000) C dX12_part_39 (by decide) ?_
        refine r_ic_le (tgt := 47) C dX12_part_42 (by decide) h (fun h => ?_) (fun h => ?_)
        · refine r_iconst (v := 0) C dX12_part_47 (by decide) ?_
          refine r_istore_n (lv' := [(3, .int 0), (2, .int v1), (0, .ref (ad 133)), (1, .int p1)]) C dX12_part_48 rfl (by rw [hn9]; decide) rfl ?_
          refine Jr.sub [2, 3, 1, 0] (lv' := [(0, .ref (ad 133)), (1, .int p1), (2, .int v1), (3, .int 0)]) rfl ?_
          exact s_X12_part_l49 hn9 C M  FU p1 v1 0 T2 h
        · refine r_iconst (v := (-1)) C dX12_part_45 (by decide) ?_
          exact r_iret C M dX12_part_46 h
theorem dX12_drop_0 : decode cX12_drop 0 = .ok (.aload_n 0, 1) := by decide +kernel
theorem dX12_drop_1 : decode cX12_drop 1 = .ok (.getfield 153, 3) := by decide +kernel
theorem dX12_drop_4 : decode cX12_drop 4 = .ok (.istore_n 1, 1) := by decide +kernel
theorem dX12_drop_5 : decode cX12_drop 5 = .ok (.aload_n 0, 1) := by decide +kernel
theorem dX12_drop_6 : decode cX12_drop 6 = .ok (.iconst 0, 1) := by decide +kernel
theorem dX12_drop_7 : decode cX12_drop 7 = .ok (.putfield 153, 3) := by decide +kernel
theorem dX12_drop_10 : decode cX12_drop 10 = .ok (.iload_n 1, 1) := by decide +kernel
theorem dX12_drop_11 : decode cX12_drop 11 = .ok (.ireturn, 1) := by decide +kernel
noncomputable def f_X12_drop (T : Mm) : Option (Int32 × Mm) :=
  lb ((gI T 1222 133)) fun v1 =>
  lb (uI T 1222 133 0) fun T2 =>
  some (v1, T2)
set_option maxRecDepth 100000 in
set_option maxHeartbeats 4000000 in
theorem s_X12_drop {ad : Nat → Nat} {U T : Mm} {q : Int32 × Mm}  (h : f_X12_drop  T = some q) : Cr 1 yX12_drop cX12_drop 2 (some .int) [.ref (ad 133)] ad false U T eI q := by
  refine cr_of (by decide) (Nat.le_of_ble_eq_true rfl) fun x S0 hn9 C M => ?_
  have C : CB x RX12 cX12_drop := C
  refine Jr.eq (lv' := [(0, .ref (ad 133))]) (st' := []) rfl rfl ?_
  unfold f_X12_drop at h
  refine r_aload_n C dX12_drop_0 rfl 0 rfl ?_
  refine r_geti (f := 1222) C flX12_153 dX12_drop_1 kq_133 (by decide) (by decide) rfl ?_
  refine r_lbI h (fun v1 h => ?_)
  refine r_istore_n (lv' := [(1, .int v1), (0, .ref (ad 133))]) C dX12_drop_4 rfl (by rw [hn9]; decide) rfl ?_
  refine r_aload_n C dX12_drop_5 rfl 1 rfl ?_
  refine r_iconst (v := 0) C dX12_drop_6 (by decide) ?_
  show Jr _ _ _ _ _ _ 7 _
  refine r_puti (f := 1222) C flX12_153 (by decide) rfl rfl dX12_drop_7 kq_133 rfl h (fun T2 h => ?_)
  refine r_iload_n C dX12_drop_10 rfl 0 rfl ?_
  exact r_iret C M dX12_drop_11 h
theorem dX12_white_0 : decode cX12_white 0 = .ok (.iconst 0, 1) := by decide +kernel
theorem dX12_white_1 : decode cX12_white 1 = .ok (.istore_n 1, 1) := by decide +kernel
theorem dX12_white_2 : decode cX12_white 2 = .ok (.iload_n 1, 1) := by decide +kernel
theorem dX12_white_3 : decode cX12_white 3 = .ok (.ldc 81, 2) := by decide +kernel
theorem dX12_white_5 : decode cX12_white 5 = .ok (.if_icmp .ge 16, 3) := by decide +kernel
theorem dX12_white_8 : decode cX12_white 8 = .ok (.aload_n 0, 1) := by decide +kernel
theorem dX12_white_9 : decode cX12_white 9 = .ok (.getfield 82, 3) := by decide +kernel
theorem dX12_white_12 : decode cX12_white 12 = .ok (.iload_n 1, 1) := by decide +kernel
theorem dX12_white_13 : decode cX12_white 13 = .ok (.iconst 0, 1) := by decide +kernel
theorem dX12_white_14 : decode cX12_white 14 = .ok (.bastore, 1) := by decide +kernel
theorem dX12_white_15 : decode cX12_white 15 = .ok (.iinc 1 1, 3) := by decide +kernel
theorem dX12_white_18 : decode cX12_white 18 = .ok (.goto (-16), 3) := by decide +kernel
theorem dX12_white_21 : decode cX12_white 21 = .ok (.aload_n 0, 1) := by decide +kernel
theorem dX12_white_22 : decode cX12_white 22 = .ok (.iconst 0, 1) := by decide +kernel
theorem dX12_white_23 : decode cX12_white 23 = .ok (.putfield 182, 3) := by decide +kernel
theorem dX12_white_26 : decode cX12_white 26 = .ok (.return_, 1) := by decide +kernel
noncomputable def f_X12_white_b2 (k2 : Int32 → Mm → Option (Unit × Mm)) (a1 : Int32) (T : Mm) : Option (Unit × Mm) :=
  if 64000 ≤ a1 then (lb (uI T 1235 133 0) fun T1 =>
  some ((), T1))
  else (ix a1 64000 fun j2 => lb (uA T 157 j2 (((0 : Int32)).toInt8.toInt32)) fun T4 =>
  k2 (a1 + 1) T4)
set_option maxRecDepth 100000 in
set_option maxHeartbeats 4000000 in
theorem s_X12_white_b2 {x : JX} {ad : Nat → Nat} {U : Mm} {S0 : Hp} {q : Unit × Mm}  {k2 : Int32 → Mm → Option (Unit × Mm)} (hn9 : x_n x = 2) (C : CB x RX12 cX12_white) (M : CMr x 1 none S0 ad false U eV q) (hk2 : ∀ (a1 : Int32) (T : Mm), k2 a1 T = some q → Jr x ad false U T [(0, .ref (ad 133)), (1, .int a1)] 2 []) (a1 : Int32) (T : Mm) (h : f_X12_white_b2 k2 a1 T = some q) : Jr x ad false U T [(0, .ref (ad 133)), (1, .int a1)] 2 [] := by
  unfold f_X12_white_b2 at h
  refine r_iload_n C dX12_white_2 rfl 1 rfl ?_
  refine r_ldc (v := 64000) C dX12_white_3 kcX12_81 ?_
  refine r_ic_ge (tgt := 21) C dX12_white_5 (by decide) h (fun h => ?_) (fun h => ?_)
  · refine r_aload_n C dX12_white_21 rfl 0 rfl ?_
    refine r_iconst (v := 0) C dX12_white_22 (by decide) ?_
    refine r_puti (f := 1235) C flX12_182 (by decide) rfl rfl dX12_white_23 kq_133 rfl h (fun T1 h => ?_)
    exact r_vret C M dX12_white_26 h
  · refine r_aload_n C dX12_white_8 rfl 0 rfl ?_
    refine r_getp (f := 1234) (j := 157) C flX12_82 dX12_white_9 kq_133 (by decide) rfl (fun W => pt_1234 kq_133 W) ?_
    refine r_iload_n C dX12_white_12 rfl 1 rfl ?_
    refine r_iconst (v := 0) C dX12_white_13 (by decide) ?_
    refine r_bast (n := 64000) C dX12_white_14 kq_157 lq_157 h (fun j2 T4 hj3 h => ?_)
    show Jr _ _ _ _ _ _ 15 _
    refine r_iinc (q := 1) (v := (a1 + 1)) (lv' := [(1, .int (a1 + 1)), (0, .ref (ad 133))]) C dX12_white_15 rfl (by rw [show Int32.ofInt (1) = 1 by decide]) (by rw [hn9]; decide) rfl ?_
    refine r_goto (tgt := 2) C dX12_white_18 (by decide) ?_
    refine Jr.sub [1, 0] (lv' := [(0, .ref (ad 133)), (1, .int (a1 + 1))]) rfl ?_
    exact hk2 (a1 + 1) T4 h
noncomputable def f_X12_white_l2 (n : Nat) : Int32 → Mm → Option (Unit × Mm) := Nat.rec (fun _ _ => none) (fun _ ih => f_X12_white_b2 ih) n
theorem s_X12_white_l2 {x : JX} {ad : Nat → Nat} {U : Mm} {S0 : Hp} {q : Unit × Mm}  (hn9 : x_n x = 2) (C : CB x RX12 cX12_white) (M : CMr x 1 none S0 ad false U eV q) : ∀ (n : Nat), ∀ (a1 : Int32) (T : Mm), f_X12_white_l2  n a1 T = some q → Jr x ad false U T [(0, .ref (ad 133)), (1, .int a1)] 2 [] := by
  intro n
  induction n with
  | zero => intro a1 T  h; exact absurd h (by intro h; cases h)
  | succ n ih => exact fun a1 T  h => s_X12_white_b2 hn9 C M (ih) a1 T  h
noncomputable def f_X12_white (T : Mm) : Option (Unit × Mm) :=
  f_X12_white_l2 FU 0 T
set_option maxRecDepth 100000 in
set_option maxHeartbeats 4000000 in
theorem s_X12_white {ad : Nat → Nat} {U T : Mm} {q : Unit × Mm}  (h : f_X12_white  T = some q) : Cr 1 yX12_white cX12_white 2 none [.ref (ad 133)] ad false U T eV q := by
  refine cr_of (by decide) (Nat.le_of_ble_eq_true rfl) fun x S0 hn9 C M => ?_
  have C : CB x RX12 cX12_white := C
  refine Jr.eq (lv' := [(0, .ref (ad 133))]) (st' := []) rfl rfl ?_
  unfold f_X12_white at h
  refine r_iconst (v := 0) C dX12_white_0 (by decide) ?_
  refine r_istore_n (lv' := [(1, .int 0), (0, .ref (ad 133))]) C dX12_white_1 rfl (by rw [hn9]; decide) rfl ?_
  refine Jr.sub [1, 0] (lv' := [(0, .ref (ad 133)), (1, .int 0)]) rfl ?_
  exact s_X12_white_l2 hn9 C M  FU 0 T h
theorem dX12_pageWide_0 : decode cX12_pageWide 0 = .ok (.iload_n 0, 1) := by decide +kernel
theorem dX12_pageWide_1 : decode cX12_pageWide 1 = .ok (.ifCond .ne 9, 3) := by decide +kernel
theorem dX12_pageWide_4 : decode cX12_pageWide 4 = .ok (.sipush 200, 3) := by decide +kernel
theorem dX12_pageWide_7 : decode cX12_pageWide 7 = .ok (.goto 28, 3) := by decide +kernel
theorem dX12_pageWide_10 : decode cX12_pageWide 10 = .ok (.iload_n 0, 1) := by decide +kernel
theorem dX12_pageWide_11 : decode cX12_pageWide 11 = .ok (.iconst 1, 1) := by decide +kernel
theorem dX12_pageWide_12 : decode cX12_pageWide 12 = .ok (.if_icmp .ne 9, 3) := by decide +kernel
theorem dX12_pageWide_15 : decode cX12_pageWide 15 = .ok (.sipush 320, 3) := by decide +kernel
theorem dX12_pageWide_18 : decode cX12_pageWide 18 = .ok (.goto 17, 3) := by decide +kernel
theorem dX12_pageWide_21 : decode cX12_pageWide 21 = .ok (.iload_n 0, 1) := by decide +kernel
theorem dX12_pageWide_22 : decode cX12_pageWide 22 = .ok (.iconst 2, 1) := by decide +kernel
theorem dX12_pageWide_23 : decode cX12_pageWide 23 = .ok (.if_icmp .ne 9, 3) := by decide +kernel
theorem dX12_pageWide_26 : decode cX12_pageWide 26 = .ok (.sipush 480, 3) := by decide +kernel
theorem dX12_pageWide_29 : decode cX12_pageWide 29 = .ok (.goto 6, 3) := by decide +kernel
theorem dX12_pageWide_32 : decode cX12_pageWide 32 = .ok (.sipush 640, 3) := by decide +kernel
theorem dX12_pageWide_35 : decode cX12_pageWide 35 = .ok (.ireturn, 1) := by decide +kernel
noncomputable def f_X12_pageWide (p0 : Int32) (T : Mm) : Option (Int32 × Mm) :=
  if p0 = 0 then (some (200, T))
  else (if p0 = 1 then (some (320, T))
  else (if p0 = 2 then (some (480, T))
  else (some (640, T))))
set_option maxRecDepth 100000 in
set_option maxHeartbeats 4000000 in
theorem s_X12_pageWide {ad : Nat → Nat} {U T : Mm} {q : Int32 × Mm}  (p0 : Int32) (h : f_X12_pageWide p0 T = some q) : Cr 1 yX12_pageWide cX12_pageWide 1 (some .int) [.int p0] ad false U T eI q := by
  refine cr_of (by decide) (Nat.le_of_ble_eq_true rfl) fun x S0 hn9 C M => ?_
  have C : CB x RX12 cX12_pageWide := C
  refine Jr.eq (lv' := [(0, .int p0)]) (st' := []) rfl rfl ?_
  unfold f_X12_pageWide at h
  refine r_iload_n C dX12_pageWide_0 rfl 0 rfl ?_
  refine r_if_ne (tgt := 10) C dX12_pageWide_1 (by decide) h (fun h => ?_) (fun h => ?_)
  · refine r_iload_n C dX12_pageWide_10 rfl 0 rfl ?_
    refine r_iconst (v := 1) C dX12_pageWide_11 (by decide) ?_
    refine r_ic_ne (tgt := 21) C dX12_pageWide_12 (by decide) h (fun h => ?_) (fun h => ?_)
    · refine r_iload_n C dX12_pageWide_21 rfl 0 rfl ?_
      refine r_iconst (v := 2) C dX12_pageWide_22 (by decide) ?_
      refine r_ic_ne (tgt := 32) C dX12_pageWide_23 (by decide) h (fun h => ?_) (fun h => ?_)
      · refine r_sipush (v := 640) C dX12_pageWide_32 (by decide) ?_
        exact r_iret C M dX12_pageWide_35 h
      · refine r_sipush (v := 480) C dX12_pageWide_26 (by decide) ?_
        refine r_goto (tgt := 35) C dX12_pageWide_29 (by decide) ?_
        exact r_iret C M dX12_pageWide_35 h
    · refine r_sipush (v := 320) C dX12_pageWide_15 (by decide) ?_
      refine r_goto (tgt := 35) C dX12_pageWide_18 (by decide) ?_
      exact r_iret C M dX12_pageWide_35 h
  · refine r_sipush (v := 200) C dX12_pageWide_4 (by decide) ?_
    refine r_goto (tgt := 35) C dX12_pageWide_7 (by decide) ?_
    exact r_iret C M dX12_pageWide_35 h
theorem dX12_pageHigh_0 : decode cX12_pageHigh 0 = .ok (.iload_n 0, 1) := by decide +kernel
theorem dX12_pageHigh_1 : decode cX12_pageHigh 1 = .ok (.ifCond .ne 9, 3) := by decide +kernel
theorem dX12_pageHigh_4 : decode cX12_pageHigh 4 = .ok (.sipush 240, 3) := by decide +kernel
theorem dX12_pageHigh_7 : decode cX12_pageHigh 7 = .ok (.goto 28, 3) := by decide +kernel
theorem dX12_pageHigh_10 : decode cX12_pageHigh 10 = .ok (.iload_n 0, 1) := by decide +kernel
theorem dX12_pageHigh_11 : decode cX12_pageHigh 11 = .ok (.iconst 1, 1) := by decide +kernel
theorem dX12_pageHigh_12 : decode cX12_pageHigh 12 = .ok (.if_icmp .ne 9, 3) := by decide +kernel
theorem dX12_pageHigh_15 : decode cX12_pageHigh 15 = .ok (.sipush 400, 3) := by decide +kernel
theorem dX12_pageHigh_18 : decode cX12_pageHigh 18 = .ok (.goto 17, 3) := by decide +kernel
theorem dX12_pageHigh_21 : decode cX12_pageHigh 21 = .ok (.iload_n 0, 1) := by decide +kernel
theorem dX12_pageHigh_22 : decode cX12_pageHigh 22 = .ok (.iconst 2, 1) := by decide +kernel
theorem dX12_pageHigh_23 : decode cX12_pageHigh 23 = .ok (.if_icmp .ne 9, 3) := by decide +kernel
theorem dX12_pageHigh_26 : decode cX12_pageHigh 26 = .ok (.sipush 640, 3) := by decide +kernel
theorem dX12_pageHigh_29 : decode cX12_pageHigh 29 = .ok (.goto 6, 3) := by decide +kernel
theorem dX12_pageHigh_32 : decode cX12_pageHigh 32 = .ok (.sipush 800, 3) := by decide +kernel
theorem dX12_pageHigh_35 : decode cX12_pageHigh 35 = .ok (.ireturn, 1) := by decide +kernel
noncomputable def f_X12_pageHigh (p0 : Int32) (T : Mm) : Option (Int32 × Mm) :=
  if p0 = 0 then (some (240, T))
  else (if p0 = 1 then (some (400, T))
  else (if p0 = 2 then (some (640, T))
  else (some (800, T))))
set_option maxRecDepth 100000 in
set_option maxHeartbeats 4000000 in
theorem s_X12_pageHigh {ad : Nat → Nat} {U T : Mm} {q : Int32 × Mm}  (p0 : Int32) (h : f_X12_pageHigh p0 T = some q) : Cr 1 yX12_pageHigh cX12_pageHigh 1 (some .int) [.int p0] ad false U T eI q := by
  refine cr_of (by decide) (Nat.le_of_ble_eq_true rfl) fun x S0 hn9 C M => ?_
  have C : CB x RX12 cX12_pageHigh := C
  refine Jr.eq (lv' := [(0, .int p0)]) (st' := []) rfl rfl ?_
  unfold f_X12_pageHigh at h
  refine r_iload_n C dX12_pageHigh_0 rfl 0 rfl ?_
  refine r_if_ne (tgt := 10) C dX12_pageHigh_1 (by decide) h (fun h => ?_) (fun h => ?_)
  · refine r_iload_n C dX12_pageHigh_10 rfl 0 rfl ?_
    refine r_iconst (v := 1) C dX12_pageHigh_11 (by decide) ?_
    refine r_ic_ne (tgt := 21) C dX12_pageHigh_12 (by decide) h (fun h => ?_) (fun h => ?_)
    · refine r_iload_n C dX12_pageHigh_21 rfl 0 rfl ?_
      refine r_iconst (v := 2) C dX12_pageHigh_22 (by decide) ?_
      refine r_ic_ne (tgt := 32) C dX12_pageHigh_23 (by decide) h (fun h => ?_) (fun h => ?_)
      · refine r_sipush (v := 800) C dX12_pageHigh_32 (by decide) ?_
        exact r_iret C M dX12_pageHigh_35 h
      · refine r_sipush (v := 640) C dX12_pageHigh_26 (by decide) ?_
        refine r_goto (tgt := 35) C dX12_pageHigh_29 (by decide) ?_
        exact r_iret C M dX12_pageHigh_35 h
    · refine r_sipush (v := 400) C dX12_pageHigh_15 (by decide) ?_
      refine r_goto (tgt := 35) C dX12_pageHigh_18 (by decide) ?_
      exact r_iret C M dX12_pageHigh_35 h
  · refine r_sipush (v := 240) C dX12_pageHigh_4 (by decide) ?_
    refine r_goto (tgt := 35) C dX12_pageHigh_7 (by decide) ?_
    exact r_iret C M dX12_pageHigh_35 h
theorem dX12_wide_0 : decode cX12_wide 0 = .ok (.aload_n 0, 1) := by decide +kernel
theorem dX12_wide_1 : decode cX12_wide 1 = .ok (.getfield 9, 3) := by decide +kernel
theorem dX12_wide_4 : decode cX12_wide 4 = .ok (.iconst 1, 1) := by decide +kernel
theorem dX12_wide_5 : decode cX12_wide 5 = .ok (.iaload, 1) := by decide +kernel
theorem dX12_wide_6 : decode cX12_wide 6 = .ok (.ifCond .ne 15, 3) := by decide +kernel
theorem dX12_wide_9 : decode cX12_wide 9 = .ok (.aload_n 0, 1) := by decide +kernel
theorem dX12_wide_10 : decode cX12_wide 10 = .ok (.getfield 9, 3) := by decide +kernel
theorem dX12_wide_13 : decode cX12_wide 13 = .ok (.iconst 0, 1) := by decide +kernel
theorem dX12_wide_14 : decode cX12_wide 14 = .ok (.iaload, 1) := by decide +kernel
theorem dX12_wide_15 : decode cX12_wide 15 = .ok (.invokestatic 156, 3) := by decide +kernel
theorem dX12_wide_18 : decode cX12_wide 18 = .ok (.goto 12, 3) := by decide +kernel
theorem dX12_wide_21 : decode cX12_wide 21 = .ok (.aload_n 0, 1) := by decide +kernel
theorem dX12_wide_22 : decode cX12_wide 22 = .ok (.getfield 9, 3) := by decide +kernel
theorem dX12_wide_25 : decode cX12_wide 25 = .ok (.iconst 0, 1) := by decide +kernel
theorem dX12_wide_26 : decode cX12_wide 26 = .ok (.iaload, 1) := by decide +kernel
theorem dX12_wide_27 : decode cX12_wide 27 = .ok (.invokestatic 160, 3) := by decide +kernel
theorem dX12_wide_30 : decode cX12_wide 30 = .ok (.ireturn, 1) := by decide +kernel
noncomputable def f_X12_wide (T : Mm) : Option (Int32 × Mm) :=
  if (gA T 134 1) = 0 then (bd (f_X12_pageWide (gA T 134 0) T) fun v3 T4 =>
  some (v3, T4))
  else (bd (f_X12_pageHigh (gA T 134 0) T) fun v1 T2 =>
  some (v1, T2))
set_option maxRecDepth 100000 in
set_option maxHeartbeats 4000000 in
theorem s_X12_wide {ad : Nat → Nat} {U T : Mm} {q : Int32 × Mm}  (h : f_X12_wide  T = some q) : Cr 2 yX12_wide cX12_wide 1 (some .int) [.ref (ad 133)] ad false U T eI q := by
  refine cr_of (by decide) (Nat.le_of_ble_eq_true rfl) fun x S0 hn9 C M => ?_
  have C : CB x RX12 cX12_wide := C
  refine Jr.eq (lv' := [(0, .ref (ad 133))]) (st' := []) rfl rfl ?_
  unfold f_X12_wide at h
  refine r_aload_n C dX12_wide_0 rfl 0 rfl ?_
  refine r_getp (f := 1200) (j := 134) C flX12_9 dX12_wide_1 kq_133 (by decide) rfl (fun W => pt_1200 kq_133 W) ?_
  refine r_iconst (v := 1) C dX12_wide_4 (by decide) ?_
  refine r_ialdc (n := 192) C 1 dX12_wide_5 kq_134 lq_134 (vp_lit (by decide)) (by decide) ?_
  refine r_if_ne (tgt := 21) C dX12_wide_6 (by decide) h (fun h => ?_) (fun h => ?_)
  · refine r_aload_n C dX12_wide_21 rfl 0 rfl ?_
    refine r_getp (f := 1200) (j := 134) C flX12_9 dX12_wide_22 kq_133 (by decide) rfl (fun W => pt_1200 kq_133 W) ?_
    refine r_iconst (v := 0) C dX12_wide_25 (by decide) ?_
    refine r_ialdc (n := 192) C 0 dX12_wide_26 kq_134 lq_134 (vp_lit (by decide)) (by decide) ?_
    refine r_callSI C M h [.int (gA T 134 0)] [] mlX12_160 mcX12_pageHigh (fun q9 e9 => s_X12_pageHigh (gA T 134 0)  e9) (by decide) (by decide) rfl rfl (Nat.le_of_ble_eq_true rfl) dX12_wide_27 (fun v1 T2 h => ?_)
    show Jr _ _ _ _ _ _ 30 _
    exact r_iret C M dX12_wide_30 h
  · refine r_aload_n C dX12_wide_9 rfl 0 rfl ?_
    refine r_getp (f := 1200) (j := 134) C flX12_9 dX12_wide_10 kq_133 (by decide) rfl (fun W => pt_1200 kq_133 W) ?_
    refine r_iconst (v := 0) C dX12_wide_13 (by decide) ?_
    refine r_ialdc (n := 192) C 0 dX12_wide_14 kq_134 lq_134 (vp_lit (by decide)) (by decide) ?_
    refine r_callSI C M h [.int (gA T 134 0)] [] mlX12_156 mcX12_pageWide (fun q9 e9 => s_X12_pageWide (gA T 134 0)  e9) (by decide) (by decide) rfl rfl (Nat.le_of_ble_eq_true rfl) dX12_wide_15 (fun v3 T4 h => ?_)
    show Jr _ _ _ _ _ _ 18 _
    refine r_goto (tgt := 30) C dX12_wide_18 (by decide) ?_
    exact r_iret C M dX12_wide_30 h
theorem dX12_high_0 : decode cX12_high 0 = .ok (.aload_n 0, 1) := by decide +kernel
theorem dX12_high_1 : decode cX12_high 1 = .ok (.getfield 9, 3) := by decide +kernel
theorem dX12_high_4 : decode cX12_high 4 = .ok (.iconst 1, 1) := by decide +kernel
theorem dX12_high_5 : decode cX12_high 5 = .ok (.iaload, 1) := by decide +kernel
theorem dX12_high_6 : decode cX12_high 6 = .ok (.ifCond .ne 15, 3) := by decide +kernel
theorem dX12_high_9 : decode cX12_high 9 = .ok (.aload_n 0, 1) := by decide +kernel
theorem dX12_high_10 : decode cX12_high 10 = .ok (.getfield 9, 3) := by decide +kernel
theorem dX12_high_13 : decode cX12_high 13 = .ok (.iconst 0, 1) := by decide +kernel
theorem dX12_high_14 : decode cX12_high 14 = .ok (.iaload, 1) := by decide +kernel
theorem dX12_high_15 : decode cX12_high 15 = .ok (.invokestatic 160, 3) := by decide +kernel
theorem dX12_high_18 : decode cX12_high 18 = .ok (.goto 12, 3) := by decide +kernel
theorem dX12_high_21 : decode cX12_high 21 = .ok (.aload_n 0, 1) := by decide +kernel
theorem dX12_high_22 : decode cX12_high 22 = .ok (.getfield 9, 3) := by decide +kernel
theorem dX12_high_25 : decode cX12_high 25 = .ok (.iconst 0, 1) := by decide +kernel
theorem dX12_high_26 : decode cX12_high 26 = .ok (.iaload, 1) := by decide +kernel
theorem dX12_high_27 : decode cX12_high 27 = .ok (.invokestatic 156, 3) := by decide +kernel
theorem dX12_high_30 : decode cX12_high 30 = .ok (.ireturn, 1) := by decide +kernel
noncomputable def f_X12_high (T : Mm) : Option (Int32 × Mm) :=
  if (gA T 134 1) = 0 then (bd (f_X12_pageHigh (gA T 134 0) T) fun v3 T4 =>
  some (v3, T4))
  else (bd (f_X12_pageWide (gA T 134 0) T) fun v1 T2 =>
  some (v1, T2))
set_option maxRecDepth 100000 in
set_option maxHeartbeats 4000000 in
theorem s_X12_high {ad : Nat → Nat} {U T : Mm} {q : Int32 × Mm}  (h : f_X12_high  T = some q) : Cr 2 yX12_high cX12_high 1 (some .int) [.ref (ad 133)] ad false U T eI q := by
  refine cr_of (by decide) (Nat.le_of_ble_eq_true rfl) fun x S0 hn9 C M => ?_
  have C : CB x RX12 cX12_high := C
  refine Jr.eq (lv' := [(0, .ref (ad 133))]) (st' := []) rfl rfl ?_
  unfold f_X12_high at h
  refine r_aload_n C dX12_high_0 rfl 0 rfl ?_
  refine r_getp (f := 1200) (j := 134) C flX12_9 dX12_high_1 kq_133 (by decide) rfl (fun W => pt_1200 kq_133 W) ?_
  refine r_iconst (v := 1) C dX12_high_4 (by decide) ?_
  refine r_ialdc (n := 192) C 1 dX12_high_5 kq_134 lq_134 (vp_lit (by decide)) (by decide) ?_
  refine r_if_ne (tgt := 21) C dX12_high_6 (by decide) h (fun h => ?_) (fun h => ?_)
  · refine r_aload_n C dX12_high_21 rfl 0 rfl ?_
    refine r_getp (f := 1200) (j := 134) C flX12_9 dX12_high_22 kq_133 (by decide) rfl (fun W => pt_1200 kq_133 W) ?_
    refine r_iconst (v := 0) C dX12_high_25 (by decide) ?_
    refine r_ialdc (n := 192) C 0 dX12_high_26 kq_134 lq_134 (vp_lit (by decide)) (by decide) ?_
    refine r_callSI C M h [.int (gA T 134 0)] [] mlX12_156 mcX12_pageWide (fun q9 e9 => s_X12_pageWide (gA T 134 0)  e9) (by decide) (by decide) rfl rfl (Nat.le_of_ble_eq_true rfl) dX12_high_27 (fun v1 T2 h => ?_)
    show Jr _ _ _ _ _ _ 30 _
    exact r_iret C M dX12_high_30 h
  · refine r_aload_n C dX12_high_9 rfl 0 rfl ?_
    refine r_getp (f := 1200) (j := 134) C flX12_9 dX12_high_10 kq_133 (by decide) rfl (fun W => pt_1200 kq_133 W) ?_
    refine r_iconst (v := 0) C dX12_high_13 (by decide) ?_
    refine r_ialdc (n := 192) C 0 dX12_high_14 kq_134 lq_134 (vp_lit (by decide)) (by decide) ?_
    refine r_callSI C M h [.int (gA T 134 0)] [] mlX12_160 mcX12_pageHigh (fun q9 e9 => s_X12_pageHigh (gA T 134 0)  e9) (by decide) (by decide) rfl rfl (Nat.le_of_ble_eq_true rfl) dX12_high_15 (fun v3 T4 h => ?_)
    show Jr _ _ _ _ _ _ 18 _
    refine r_goto (tgt := 30) C dX12_high_18 (by decide) ?_
    exact r_iret C M dX12_high_30 h
theorem dX12_setX_0 : decode cX12_setX 0 = .ok (.ldc2_w 204, 3) := by decide +kernel
theorem dX12_setX_3 : decode cX12_setX 3 = .ok (.aload_n 0, 1) := by decide +kernel
theorem dX12_setX_4 : decode cX12_setX 4 = .ok (.invokevirtual 172, 3) := by decide +kernel
theorem dX12_setX_7 : decode cX12_setX 7 = .ok (.i2l, 1) := by decide +kernel
theorem dX12_setX_8 : decode cX12_setX 8 = .ok (.lmul, 1) := by decide +kernel
theorem dX12_setX_9 : decode cX12_setX 9 = .ok (.lstore_n 3, 1) := by decide +kernel
theorem dX12_setX_10 : decode cX12_setX 10 = .ok (.aload_n 0, 1) := by decide +kernel
theorem dX12_setX_11 : decode cX12_setX 11 = .ok (.getfield 9, 3) := by decide +kernel
theorem dX12_setX_14 : decode cX12_setX 14 = .ok (.sipush 189, 3) := by decide +kernel
theorem dX12_setX_17 : decode cX12_setX 17 = .ok (.lload_n 1, 1) := by decide +kernel
theorem dX12_setX_18 : decode cX12_setX 18 = .ok (.lconst 0, 1) := by decide +kernel
theorem dX12_setX_19 : decode cX12_setX 19 = .ok (.lcmp, 1) := by decide +kernel
theorem dX12_setX_20 : decode cX12_setX 20 = .ok (.ifCond .ge 7, 3) := by decide +kernel
theorem dX12_setX_23 : decode cX12_setX 23 = .ok (.lconst 0, 1) := by decide +kernel
theorem dX12_setX_24 : decode cX12_setX 24 = .ok (.goto 14, 3) := by decide +kernel
theorem dX12_setX_27 : decode cX12_setX 27 = .ok (.lload_n 1, 1) := by decide +kernel
theorem dX12_setX_28 : decode cX12_setX 28 = .ok (.lload_n 3, 1) := by decide +kernel
theorem dX12_setX_29 : decode cX12_setX 29 = .ok (.lcmp, 1) := by decide +kernel
theorem dX12_setX_30 : decode cX12_setX 30 = .ok (.ifCond .le 7, 3) := by decide +kernel
theorem dX12_setX_33 : decode cX12_setX 33 = .ok (.lload_n 3, 1) := by decide +kernel
theorem dX12_setX_34 : decode cX12_setX 34 = .ok (.goto 4, 3) := by decide +kernel
theorem dX12_setX_37 : decode cX12_setX 37 = .ok (.lload_n 1, 1) := by decide +kernel
theorem dX12_setX_38 : decode cX12_setX 38 = .ok (.l2i, 1) := by decide +kernel
theorem dX12_setX_39 : decode cX12_setX 39 = .ok (.iastore, 1) := by decide +kernel
theorem dX12_setX_40 : decode cX12_setX 40 = .ok (.return_, 1) := by decide +kernel
noncomputable def f_X12_setX (p1 : Int64) (T : Mm) : Option (Unit × Mm) :=
  bd (f_X12_wide T) fun v1 T2 =>
  lb (((96 : Int64) * ((v1).toInt64))) fun v3 =>
  if 0 ≤ (lg_cmp p1 0) then (if (lg_cmp p1 v3) ≤ 0 then (lb (uA T2 134 189 (((p1).toInt32))) fun T4 =>
  some ((), T4))
  else (lb (uA T2 134 189 (((v3).toInt32))) fun T5 =>
  some ((), T5)))
  else (lb (uA T2 134 189 (0)) fun T6 =>
  some ((), T6))
set_option maxRecDepth 100000 in
set_option maxHeartbeats 4000000 in
theorem s_X12_setX {ad : Nat → Nat} {U T : Mm} {q : Unit × Mm}  (p1 : Int64) (h : f_X12_setX p1 T = some q) : Cr 3 yX12_setX cX12_setX 5 none [.ref (ad 133), .long p1] ad false U T eV q := by
  refine cr_of (by decide) (Nat.le_of_ble_eq_true rfl) fun x S0 hn9 C M => ?_
  have C : CB x RX12 cX12_setX := C
  refine Jr.eq (lv' := [(0, .ref (ad 133)), (1, .long p1)]) (st' := []) rfl rfl ?_
  unfold f_X12_setX at h
  refine r_ldc2 (v := 96) C dX12_setX_0 kcX12_204 ?_
  refine r_aload_n C dX12_setX_3 rfl 0 rfl ?_
  refine r_callVI C M h [] [.long 96] mlX12_172 mcX12_wide (fun q9 e9 => s_X12_wide   e9) kq_133 rfl (by decide) (by decide) rfl rfl (Nat.le_of_ble_eq_true rfl) dX12_setX_4 (fun v1 T2 h => ?_)
  refine r_i2l C dX12_setX_7 rfl ?_
  refine r_lmul C dX12_setX_8 rfl ?_
  show Jr _ _ _ _ _ _ 9 _
  refine r_lbJ h (fun v3 h => ?_)
  refine r_lstore_n (lv' := [(3, .long v3), (0, .ref (ad 133)), (1, .long p1)]) C dX12_setX_9 rfl (by rw [hn9]; decide) rfl ?_
  refine r_aload_n C dX12_setX_10 rfl 1 rfl ?_
  refine r_getp (f := 1200) (j := 134) C flX12_9 dX12_setX_11 kq_133 (by decide) rfl (fun W => pt_1200 kq_133 W) ?_
  refine r_sipush (v := 189) C dX12_setX_14 (by decide) ?_
  refine r_lload_n C dX12_setX_17 rfl 2 rfl ?_
  refine r_lconst (v := 0) C dX12_setX_18 (by decide) ?_
  show Jr _ _ _ _ _ _ 19 _
  refine r_lcmp C dX12_setX_19 ?_
  refine r_if_ge (tgt := 27) C dX12_setX_20 (by decide) h (fun h => ?_) (fun h => ?_)
  · refine r_lload_n C dX12_setX_27 rfl 2 rfl ?_
    refine r_lload_n C dX12_setX_28 rfl 0 rfl ?_
    refine r_lcmp C dX12_setX_29 ?_
    refine r_if_le (tgt := 37) C dX12_setX_30 (by decide) h (fun h => ?_) (fun h => ?_)
    · refine r_lload_n C dX12_setX_37 rfl 2 rfl ?_
      refine r_l2i C dX12_setX_38 rfl ?_
      refine r_iastc (n := 192) C 189 dX12_setX_39 kq_134 lq_134 (vp_lit (by decide)) (by decide) h (fun T4 h => ?_)
      exact r_vret C M dX12_setX_40 h
    · refine r_lload_n C dX12_setX_33 rfl 0 rfl ?_
      refine r_goto (tgt := 38) C dX12_setX_34 (by decide) ?_
      refine r_l2i C dX12_setX_38 rfl ?_
      refine r_iastc (n := 192) C 189 dX12_setX_39 kq_134 lq_134 (vp_lit (by decide)) (by decide) h (fun T5 h => ?_)
      exact r_vret C M dX12_setX_40 h
  · refine r_lconst (v := 0) C dX12_setX_23 (by decide) ?_
    refine r_goto (tgt := 38) C dX12_setX_24 (by decide) ?_
    refine r_l2i (v := 0) C dX12_setX_38 (by decide) ?_
    refine r_iastc (n := 192) C 189 dX12_setX_39 kq_134 lq_134 (vp_lit (by decide)) (by decide) h (fun T6 h => ?_)
    exact r_vret C M dX12_setX_40 h
theorem dX12_setY_0 : decode cX12_setY 0 = .ok (.ldc2_w 204, 3) := by decide +kernel
theorem dX12_setY_3 : decode cX12_setY 3 = .ok (.aload_n 0, 1) := by decide +kernel
theorem dX12_setY_4 : decode cX12_setY 4 = .ok (.invokevirtual 176, 3) := by decide +kernel
theorem dX12_setY_7 : decode cX12_setY 7 = .ok (.i2l, 1) := by decide +kernel
theorem dX12_setY_8 : decode cX12_setY 8 = .ok (.lmul, 1) := by decide +kernel
theorem dX12_setY_9 : decode cX12_setY 9 = .ok (.lstore_n 3, 1) := by decide +kernel
theorem dX12_setY_10 : decode cX12_setY 10 = .ok (.aload_n 0, 1) := by decide +kernel
theorem dX12_setY_11 : decode cX12_setY 11 = .ok (.getfield 9, 3) := by decide +kernel
theorem dX12_setY_14 : decode cX12_setY 14 = .ok (.sipush 190, 3) := by decide +kernel
theorem dX12_setY_17 : decode cX12_setY 17 = .ok (.lload_n 1, 1) := by decide +kernel
theorem dX12_setY_18 : decode cX12_setY 18 = .ok (.lconst 0, 1) := by decide +kernel
theorem dX12_setY_19 : decode cX12_setY 19 = .ok (.lcmp, 1) := by decide +kernel
theorem dX12_setY_20 : decode cX12_setY 20 = .ok (.ifCond .ge 7, 3) := by decide +kernel
theorem dX12_setY_23 : decode cX12_setY 23 = .ok (.lconst 0, 1) := by decide +kernel
theorem dX12_setY_24 : decode cX12_setY 24 = .ok (.goto 14, 3) := by decide +kernel
theorem dX12_setY_27 : decode cX12_setY 27 = .ok (.lload_n 1, 1) := by decide +kernel
theorem dX12_setY_28 : decode cX12_setY 28 = .ok (.lload_n 3, 1) := by decide +kernel
theorem dX12_setY_29 : decode cX12_setY 29 = .ok (.lcmp, 1) := by decide +kernel
theorem dX12_setY_30 : decode cX12_setY 30 = .ok (.ifCond .le 7, 3) := by decide +kernel
theorem dX12_setY_33 : decode cX12_setY 33 = .ok (.lload_n 3, 1) := by decide +kernel
theorem dX12_setY_34 : decode cX12_setY 34 = .ok (.goto 4, 3) := by decide +kernel
theorem dX12_setY_37 : decode cX12_setY 37 = .ok (.lload_n 1, 1) := by decide +kernel
theorem dX12_setY_38 : decode cX12_setY 38 = .ok (.l2i, 1) := by decide +kernel
theorem dX12_setY_39 : decode cX12_setY 39 = .ok (.iastore, 1) := by decide +kernel
theorem dX12_setY_40 : decode cX12_setY 40 = .ok (.return_, 1) := by decide +kernel
noncomputable def f_X12_setY (p1 : Int64) (T : Mm) : Option (Unit × Mm) :=
  bd (f_X12_high T) fun v1 T2 =>
  lb (((96 : Int64) * ((v1).toInt64))) fun v3 =>
  if 0 ≤ (lg_cmp p1 0) then (if (lg_cmp p1 v3) ≤ 0 then (lb (uA T2 134 190 (((p1).toInt32))) fun T4 =>
  some ((), T4))
  else (lb (uA T2 134 190 (((v3).toInt32))) fun T5 =>
  some ((), T5)))
  else (lb (uA T2 134 190 (0)) fun T6 =>
  some ((), T6))
set_option maxRecDepth 100000 in
set_option maxHeartbeats 4000000 in
theorem s_X12_setY {ad : Nat → Nat} {U T : Mm} {q : Unit × Mm}  (p1 : Int64) (h : f_X12_setY p1 T = some q) : Cr 3 yX12_setY cX12_setY 5 none [.ref (ad 133), .long p1] ad false U T eV q := by
  refine cr_of (by decide) (Nat.le_of_ble_eq_true rfl) fun x S0 hn9 C M => ?_
  have C : CB x RX12 cX12_setY := C
  refine Jr.eq (lv' := [(0, .ref (ad 133)), (1, .long p1)]) (st' := []) rfl rfl ?_
  unfold f_X12_setY at h
  refine r_ldc2 (v := 96) C dX12_setY_0 kcX12_204 ?_
  refine r_aload_n C dX12_setY_3 rfl 0 rfl ?_
  refine r_callVI C M h [] [.long 96] mlX12_176 mcX12_high (fun q9 e9 => s_X12_high   e9) kq_133 rfl (by decide) (by decide) rfl rfl (Nat.le_of_ble_eq_true rfl) dX12_setY_4 (fun v1 T2 h => ?_)
  refine r_i2l C dX12_setY_7 rfl ?_
  refine r_lmul C dX12_setY_8 rfl ?_
  show Jr _ _ _ _ _ _ 9 _
  refine r_lbJ h (fun v3 h => ?_)
  refine r_lstore_n (lv' := [(3, .long v3), (0, .ref (ad 133)), (1, .long p1)]) C dX12_setY_9 rfl (by rw [hn9]; decide) rfl ?_
  refine r_aload_n C dX12_setY_10 rfl 1 rfl ?_
  refine r_getp (f := 1200) (j := 134) C flX12_9 dX12_setY_11 kq_133 (by decide) rfl (fun W => pt_1200 kq_133 W) ?_
  refine r_sipush (v := 190) C dX12_setY_14 (by decide) ?_
  refine r_lload_n C dX12_setY_17 rfl 2 rfl ?_
  refine r_lconst (v := 0) C dX12_setY_18 (by decide) ?_
  show Jr _ _ _ _ _ _ 19 _
  refine r_lcmp C dX12_setY_19 ?_
  refine r_if_ge (tgt := 27) C dX12_setY_20 (by decide) h (fun h => ?_) (fun h => ?_)
  · refine r_lload_n C dX12_setY_27 rfl 2 rfl ?_
    refine r_lload_n C dX12_setY_28 rfl 0 rfl ?_
    refine r_lcmp C dX12_setY_29 ?_
    refine r_if_le (tgt := 37) C dX12_setY_30 (by decide) h (fun h => ?_) (fun h => ?_)
    · refine r_lload_n C dX12_setY_37 rfl 2 rfl ?_
      refine r_l2i C dX12_setY_38 rfl ?_
      refine r_iastc (n := 192) C 190 dX12_setY_39 kq_134 lq_134 (vp_lit (by decide)) (by decide) h (fun T4 h => ?_)
      exact r_vret C M dX12_setY_40 h
    · refine r_lload_n C dX12_setY_33 rfl 0 rfl ?_
      refine r_goto (tgt := 38) C dX12_setY_34 (by decide) ?_
      refine r_l2i C dX12_setY_38 rfl ?_
      refine r_iastc (n := 192) C 190 dX12_setY_39 kq_134 lq_134 (vp_lit (by decide)) (by decide) h (fun T5 h => ?_)
      exact r_vret C M dX12_setY_40 h
  · refine r_lconst (v := 0) C dX12_setY_23 (by decide) ?_
    refine r_goto (tgt := 38) C dX12_setY_24 (by decide) ?_
    refine r_l2i (v := 0) C dX12_setY_38 (by decide) ?_
    refine r_iastc (n := 192) C 190 dX12_setY_39 kq_134 lq_134 (vp_lit (by decide)) (by decide) h (fun T6 h => ?_)
    exact r_vret C M dX12_setY_40 h
theorem dX12_homeY_0 : decode cX12_homeY 0 = .ok (.aload_n 0, 1) := by decide +kernel
theorem dX12_homeY_1 : decode cX12_homeY 1 = .ok (.aload_n 0, 1) := by decide +kernel
theorem dX12_homeY_2 : decode cX12_homeY 2 = .ok (.getfield 9, 3) := by decide +kernel
theorem dX12_homeY_5 : decode cX12_homeY 5 = .ok (.iconst 4, 1) := by decide +kernel
theorem dX12_homeY_6 : decode cX12_homeY 6 = .ok (.iaload, 1) := by decide +kernel
theorem dX12_homeY_7 : decode cX12_homeY 7 = .ok (.aload_n 0, 1) := by decide +kernel
theorem dX12_homeY_8 : decode cX12_homeY 8 = .ok (.getfield 9, 3) := by decide +kernel
theorem dX12_homeY_11 : decode cX12_homeY 11 = .ok (.bipush 6, 2) := by decide +kernel
theorem dX12_homeY_13 : decode cX12_homeY 13 = .ok (.iaload, 1) := by decide +kernel
theorem dX12_homeY_14 : decode cX12_homeY 14 = .ok (.iconst 3, 1) := by decide +kernel
theorem dX12_homeY_15 : decode cX12_homeY 15 = .ok (.imul, 1) := by decide +kernel
theorem dX12_homeY_16 : decode cX12_homeY 16 = .ok (.iconst 4, 1) := by decide +kernel
theorem dX12_homeY_17 : decode cX12_homeY 17 = .ok (.idiv, 1) := by decide +kernel
theorem dX12_homeY_18 : decode cX12_homeY 18 = .ok (.iadd, 1) := by decide +kernel
theorem dX12_homeY_19 : decode cX12_homeY 19 = .ok (.i2l, 1) := by decide +kernel
theorem dX12_homeY_20 : decode cX12_homeY 20 = .ok (.invokevirtual 206, 3) := by decide +kernel
theorem dX12_homeY_23 : decode cX12_homeY 23 = .ok (.return_, 1) := by decide +kernel
noncomputable def f_X12_homeY (T : Mm) : Option (Unit × Mm) :=
  bd (f_X12_setY ((((gA T 134 4) + (((gA T 134 6) * 3) / 4))).toInt64) T) fun _ T1 =>
  some ((), T1)
set_option maxRecDepth 100000 in
set_option maxHeartbeats 4000000 in
theorem s_X12_homeY {ad : Nat → Nat} {U T : Mm} {q : Unit × Mm}  (h : f_X12_homeY  T = some q) : Cr 4 yX12_homeY cX12_homeY 1 none [.ref (ad 133)] ad false U T eV q := by
  refine cr_of (by decide) (Nat.le_of_ble_eq_true rfl) fun x S0 hn9 C M => ?_
  have C : CB x RX12 cX12_homeY := C
  refine Jr.eq (lv' := [(0, .ref (ad 133))]) (st' := []) rfl rfl ?_
  unfold f_X12_homeY at h
  refine r_aload_n C dX12_homeY_0 rfl 0 rfl ?_
  refine r_aload_n C dX12_homeY_1 rfl 0 rfl ?_
  refine r_getp (f := 1200) (j := 134) C flX12_9 dX12_homeY_2 kq_133 (by decide) rfl (fun W => pt_1200 kq_133 W) ?_
  refine r_iconst (v := 4) C dX12_homeY_5 (by decide) ?_
  refine r_ialdc (n := 192) C 4 dX12_homeY_6 kq_134 lq_134 (vp_lit (by decide)) (by decide) ?_
  show Jr _ _ _ _ _ _ 7 _
  refine r_aload_n C dX12_homeY_7 rfl 0 rfl ?_
  refine r_getp (f := 1200) (j := 134) C flX12_9 dX12_homeY_8 kq_133 (by decide) rfl (fun W => pt_1200 kq_133 W) ?_
  refine r_bipush (v := 6) C dX12_homeY_11 (by decide) ?_
  refine r_ialdc (n := 192) C 6 dX12_homeY_13 kq_134 lq_134 (vp_lit (by decide)) (by decide) ?_
  refine r_iconst (v := 3) C dX12_homeY_14 (by decide) ?_
  refine r_imul C dX12_homeY_15 rfl ?_
  show Jr _ _ _ _ _ _ 16 _
  refine r_iconst (v := 4) C dX12_homeY_16 (by decide) ?_
  refine r_idiv C dX12_homeY_17 (by decide) rfl ?_
  refine r_iadd C dX12_homeY_18 rfl ?_
  refine r_i2l C dX12_homeY_19 rfl ?_
  refine r_callVN C M h [.long ((((gA T 134 4) + (((gA T 134 6) * 3) / 4))).toInt64)] [] mlX12_206 mcX12_setY (fun q9 e9 => s_X12_setY ((((gA T 134 4) + (((gA T 134 6) * 3) / 4))).toInt64)  e9) kq_133 rfl (by decide) (by decide) rfl rfl (Nat.le_of_ble_eq_true rfl) dX12_homeY_20 (fun _ T1 h => ?_)
  exact r_vret C M dX12_homeY_23 h
theorem dX12_pagesOwn_0 : decode cX12_pagesOwn 0 = .ok (.aload_n 0, 1) := by decide +kernel
theorem dX12_pagesOwn_1 : decode cX12_pagesOwn 1 = .ok (.getfield 9, 3) := by decide +kernel
theorem dX12_pagesOwn_4 : decode cX12_pagesOwn 4 = .ok (.iconst 2, 1) := by decide +kernel
theorem dX12_pagesOwn_5 : decode cX12_pagesOwn 5 = .ok (.iconst 0, 1) := by decide +kernel
theorem dX12_pagesOwn_6 : decode cX12_pagesOwn 6 = .ok (.iastore, 1) := by decide +kernel
theorem dX12_pagesOwn_7 : decode cX12_pagesOwn 7 = .ok (.aload_n 0, 1) := by decide +kernel
theorem dX12_pagesOwn_8 : decode cX12_pagesOwn 8 = .ok (.getfield 9, 3) := by decide +kernel
theorem dX12_pagesOwn_11 : decode cX12_pagesOwn 11 = .ok (.iconst 3, 1) := by decide +kernel
theorem dX12_pagesOwn_12 : decode cX12_pagesOwn 12 = .ok (.bipush 96, 2) := by decide +kernel
theorem dX12_pagesOwn_14 : decode cX12_pagesOwn 14 = .ok (.aload_n 0, 1) := by decide +kernel
theorem dX12_pagesOwn_15 : decode cX12_pagesOwn 15 = .ok (.invokevirtual 172, 3) := by decide +kernel
theorem dX12_pagesOwn_18 : decode cX12_pagesOwn 18 = .ok (.imul, 1) := by decide +kernel
theorem dX12_pagesOwn_19 : decode cX12_pagesOwn 19 = .ok (.iastore, 1) := by decide +kernel
theorem dX12_pagesOwn_20 : decode cX12_pagesOwn 20 = .ok (.aload_n 0, 1) := by decide +kernel
theorem dX12_pagesOwn_21 : decode cX12_pagesOwn 21 = .ok (.getfield 9, 3) := by decide +kernel
theorem dX12_pagesOwn_24 : decode cX12_pagesOwn 24 = .ok (.iconst 4, 1) := by decide +kernel
theorem dX12_pagesOwn_25 : decode cX12_pagesOwn 25 = .ok (.iconst 0, 1) := by decide +kernel
theorem dX12_pagesOwn_26 : decode cX12_pagesOwn 26 = .ok (.iastore, 1) := by decide +kernel
theorem dX12_pagesOwn_27 : decode cX12_pagesOwn 27 = .ok (.aload_n 0, 1) := by decide +kernel
theorem dX12_pagesOwn_28 : decode cX12_pagesOwn 28 = .ok (.getfield 9, 3) := by decide +kernel
theorem dX12_pagesOwn_31 : decode cX12_pagesOwn 31 = .ok (.iconst 5, 1) := by decide +kernel
theorem dX12_pagesOwn_32 : decode cX12_pagesOwn 32 = .ok (.bipush 96, 2) := by decide +kernel
theorem dX12_pagesOwn_34 : decode cX12_pagesOwn 34 = .ok (.aload_n 0, 1) := by decide +kernel
theorem dX12_pagesOwn_35 : decode cX12_pagesOwn 35 = .ok (.invokevirtual 176, 3) := by decide +kernel
theorem dX12_pagesOwn_38 : decode cX12_pagesOwn 38 = .ok (.imul, 1) := by decide +kernel
theorem dX12_pagesOwn_39 : decode cX12_pagesOwn 39 = .ok (.iastore, 1) := by decide +kernel
theorem dX12_pagesOwn_40 : decode cX12_pagesOwn 40 = .ok (.aload_n 0, 1) := by decide +kernel
theorem dX12_pagesOwn_41 : decode cX12_pagesOwn 41 = .ok (.lconst 0, 1) := by decide +kernel
theorem dX12_pagesOwn_42 : decode cX12_pagesOwn 42 = .ok (.invokevirtual 210, 3) := by decide +kernel
theorem dX12_pagesOwn_45 : decode cX12_pagesOwn 45 = .ok (.aload_n 0, 1) := by decide +kernel
theorem dX12_pagesOwn_46 : decode cX12_pagesOwn 46 = .ok (.invokevirtual 213, 3) := by decide +kernel
theorem dX12_pagesOwn_49 : decode cX12_pagesOwn 49 = .ok (.return_, 1) := by decide +kernel
noncomputable def f_X12_pagesOwn (T : Mm) : Option (Unit × Mm) :=
  lb (uA T 134 2 (0)) fun T1 =>
  bd (f_X12_wide T1) fun v2 T3 =>
  lb (uA T3 134 3 (((96 : Int32) * v2))) fun T4 =>
  lb (uA T4 134 4 (0)) fun T5 =>
  bd (f_X12_high T5) fun v6 T7 =>
  lb (uA T7 134 5 (((96 : Int32) * v6))) fun T8 =>
  bd (f_X12_setX 0 T8) fun _ T9 =>
  bd (f_X12_homeY T9) fun _ T10 =>
  some ((), T10)
set_option maxRecDepth 100000 in
set_option maxHeartbeats 4000000 in
theorem s_X12_pagesOwn {ad : Nat → Nat} {U T : Mm} {q : Unit × Mm}  (h : f_X12_pagesOwn  T = some q) : Cr 5 yX12_pagesOwn cX12_pagesOwn 1 none [.ref (ad 133)] ad false U T eV q := by
  refine cr_of (by decide) (Nat.le_of_ble_eq_true rfl) fun x S0 hn9 C M => ?_
  have C : CB x RX12 cX12_pagesOwn := C
  refine Jr.eq (lv' := [(0, .ref (ad 133))]) (st' := []) rfl rfl ?_
  unfold f_X12_pagesOwn at h
  refine r_aload_n C dX12_pagesOwn_0 rfl 0 rfl ?_
  refine r_getp (f := 1200) (j := 134) C flX12_9 dX12_pagesOwn_1 kq_133 (by decide) rfl (fun W => pt_1200 kq_133 W) ?_
  refine r_iconst (v := 2) C dX12_pagesOwn_4 (by decide) ?_
  refine r_iconst (v := 0) C dX12_pagesOwn_5 (by decide) ?_
  refine r_iastc (n := 192) C 2 dX12_pagesOwn_6 kq_134 lq_134 (vp_lit (by decide)) (by decide) h (fun T1 h => ?_)
  show Jr _ _ _ _ _ _ 7 _
  refine r_aload_n C dX12_pagesOwn_7 rfl 0 rfl ?_
  refine r_getp (f := 1200) (j := 134) C flX12_9 dX12_pagesOwn_8 kq_133 (by decide) rfl (fun W => pt_1200 kq_133 W) ?_
  refine r_iconst (v := 3) C dX12_pagesOwn_11 (by decide) ?_
  refine r_bipush (v := 96) C dX12_pagesOwn_12 (by decide) ?_
  refine r_aload_n C dX12_pagesOwn_14 rfl 0 rfl ?_
  refine r_callVI C M h [] [.int 96, .int 3, .ref (ad 134)] mlX12_172 mcX12_wide (fun q9 e9 => s_X12_wide   e9) kq_133 rfl (by decide) (by decide) rfl rfl (Nat.le_of_ble_eq_true rfl) dX12_pagesOwn_15 (fun v2 T3 h => ?_)
  show Jr _ _ _ _ _ _ 18 _
  refine r_imul C dX12_pagesOwn_18 rfl ?_
  refine r_iastc (n := 192) C 3 dX12_pagesOwn_19 kq_134 lq_134 (vp_lit (by decide)) (by decide) h (fun T4 h => ?_)
  refine r_aload_n C dX12_pagesOwn_20 rfl 0 rfl ?_
  refine r_getp (f := 1200) (j := 134) C flX12_9 dX12_pagesOwn_21 kq_133 (by decide) rfl (fun W => pt_1200 kq_133 W) ?_
  refine r_iconst (v := 4) C dX12_pagesOwn_24 (by decide) ?_
  refine r_iconst (v := 0) C dX12_pagesOwn_25 (by decide) ?_
  show Jr _ _ _ _ _ _ 26 _
  refine r_iastc (n := 192) C 4 dX12_pagesOwn_26 kq_134 lq_134 (vp_lit (by decide)) (by decide) h (fun T5 h => ?_)
  refine r_aload_n C dX12_pagesOwn_27 rfl 0 rfl ?_
  refine r_getp (f := 1200) (j := 134) C flX12_9 dX12_pagesOwn_28 kq_133 (by decide) rfl (fun W => pt_1200 kq_133 W) ?_
  refine r_iconst (v := 5) C dX12_pagesOwn_31 (by decide) ?_
  refine r_bipush (v := 96) C dX12_pagesOwn_32 (by decide) ?_
  refine r_aload_n C dX12_pagesOwn_34 rfl 0 rfl ?_
  show Jr _ _ _ _ _ _ 35 _
  refine r_callVI C M h [] [.int 96, .int 5, .ref (ad 134)] mlX12_176 mcX12_high (fun q9 e9 => s_X12_high   e9) kq_133 rfl (by decide) (by decide) rfl rfl (Nat.le_of_ble_eq_true rfl) dX12_pagesOwn_35 (fun v6 T7 h => ?_)
  refine r_imul C dX12_pagesOwn_38 rfl ?_
  refine r_iastc (n := 192) C 5 dX12_pagesOwn_39 kq_134 lq_134 (vp_lit (by decide)) (by decide) h (fun T8 h => ?_)
  refine r_aload_n C dX12_pagesOwn_40 rfl 0 rfl ?_
  refine r_lconst (v := 0) C dX12_pagesOwn_41 (by decide) ?_
  refine r_callVN C M h [.long 0] [] mlX12_210 mcX12_setX (fun q9 e9 => s_X12_setX 0  e9) kq_133 rfl (by decide) (by decide) rfl rfl (Nat.le_of_ble_eq_true rfl) dX12_pagesOwn_42 (fun _ T9 h => ?_)
  show Jr _ _ _ _ _ _ 45 _
  refine r_aload_n C dX12_pagesOwn_45 rfl 0 rfl ?_
  refine r_callVN C M h [] [] mlX12_213 mcX12_homeY (fun q9 e9 => s_X12_homeY   e9) kq_133 rfl (by decide) (by decide) rfl rfl (Nat.le_of_ble_eq_true rfl) dX12_pagesOwn_46 (fun _ T10 h => ?_)
  exact r_vret C M dX12_pagesOwn_49 h
theorem dX12_reset_0 : decode cX12_reset 0 = .ok (.iconst 0, 1) := by decide +kernel
theorem dX12_reset_1 : decode cX12_reset 1 = .ok (.istore_n 3, 1) := by decide +kernel
theorem dX12_reset_2 : decode cX12_reset 2 = .ok (.iload_n 3, 1) := by decide +kernel
theorem dX12_reset_3 : decode cX12_reset 3 = .ok (.sipush 192, 3) := by decide +kernel
theorem dX12_reset_6 : decode cX12_reset 6 = .ok (.if_icmp .ge 16, 3) := by decide +kernel
theorem dX12_reset_9 : decode cX12_reset 9 = .ok (.aload_n 0, 1) := by decide +kernel
theorem dX12_reset_10 : decode cX12_reset 10 = .ok (.getfield 9, 3) := by decide +kernel
theorem dX12_reset_13 : decode cX12_reset 13 = .ok (.iload_n 3, 1) := by decide +kernel
theorem dX12_reset_14 : decode cX12_reset 14 = .ok (.iconst 0, 1) := by decide +kernel
theorem dX12_reset_15 : decode cX12_reset 15 = .ok (.iastore, 1) := by decide +kernel
theorem dX12_reset_16 : decode cX12_reset 16 = .ok (.iinc 3 1, 3) := by decide +kernel
theorem dX12_reset_19 : decode cX12_reset 19 = .ok (.goto (-17), 3) := by decide +kernel
theorem dX12_reset_22 : decode cX12_reset 22 = .ok (.aload_n 0, 1) := by decide +kernel
theorem dX12_reset_23 : decode cX12_reset 23 = .ok (.getfield 9, 3) := by decide +kernel
theorem dX12_reset_26 : decode cX12_reset 26 = .ok (.iconst 0, 1) := by decide +kernel
theorem dX12_reset_27 : decode cX12_reset 27 = .ok (.iload_n 1, 1) := by decide +kernel
theorem dX12_reset_28 : decode cX12_reset 28 = .ok (.iastore, 1) := by decide +kernel
theorem dX12_reset_29 : decode cX12_reset 29 = .ok (.aload_n 0, 1) := by decide +kernel
theorem dX12_reset_30 : decode cX12_reset 30 = .ok (.getfield 9, 3) := by decide +kernel
theorem dX12_reset_33 : decode cX12_reset 33 = .ok (.iconst 1, 1) := by decide +kernel
theorem dX12_reset_34 : decode cX12_reset 34 = .ok (.iload_n 2, 1) := by decide +kernel
theorem dX12_reset_35 : decode cX12_reset 35 = .ok (.iastore, 1) := by decide +kernel
theorem dX12_reset_36 : decode cX12_reset 36 = .ok (.aload_n 0, 1) := by decide +kernel
theorem dX12_reset_37 : decode cX12_reset 37 = .ok (.getfield 9, 3) := by decide +kernel
theorem dX12_reset_40 : decode cX12_reset 40 = .ok (.bipush 6, 2) := by decide +kernel
theorem dX12_reset_42 : decode cX12_reset 42 = .ok (.sipush 1200, 3) := by decide +kernel
theorem dX12_reset_45 : decode cX12_reset 45 = .ok (.iastore, 1) := by decide +kernel
theorem dX12_reset_46 : decode cX12_reset 46 = .ok (.aload_n 0, 1) := by decide +kernel
theorem dX12_reset_47 : decode cX12_reset 47 = .ok (.getfield 9, 3) := by decide +kernel
theorem dX12_reset_50 : decode cX12_reset 50 = .ok (.bipush 7, 2) := by decide +kernel
theorem dX12_reset_52 : decode cX12_reset 52 = .ok (.sipush 720, 3) := by decide +kernel
theorem dX12_reset_55 : decode cX12_reset 55 = .ok (.iastore, 1) := by decide +kernel
theorem dX12_reset_56 : decode cX12_reset 56 = .ok (.aload_n 0, 1) := by decide +kernel
theorem dX12_reset_57 : decode cX12_reset 57 = .ok (.getfield 9, 3) := by decide +kernel
theorem dX12_reset_60 : decode cX12_reset 60 = .ok (.bipush 8, 2) := by decide +kernel
theorem dX12_reset_62 : decode cX12_reset 62 = .ok (.iconst 1, 1) := by decide +kernel
theorem dX12_reset_63 : decode cX12_reset 63 = .ok (.iastore, 1) := by decide +kernel
theorem dX12_reset_64 : decode cX12_reset 64 = .ok (.iconst 0, 1) := by decide +kernel
theorem dX12_reset_65 : decode cX12_reset 65 = .ok (.istore_n 3, 1) := by decide +kernel
theorem dX12_reset_66 : decode cX12_reset 66 = .ok (.iload_n 3, 1) := by decide +kernel
theorem dX12_reset_67 : decode cX12_reset 67 = .ok (.iconst 2, 1) := by decide +kernel
theorem dX12_reset_68 : decode cX12_reset 68 = .ok (.if_icmp .ge 58, 3) := by decide +kernel
theorem dX12_reset_71 : decode cX12_reset 71 = .ok (.aload_n 0, 1) := by decide +kernel
theorem dX12_reset_72 : decode cX12_reset 72 = .ok (.getfield 9, 3) := by decide +kernel
theorem dX12_reset_75 : decode cX12_reset 75 = .ok (.bipush 12, 2) := by decide +kernel
theorem dX12_reset_77 : decode cX12_reset 77 = .ok (.bipush 8, 2) := by decide +kernel
theorem dX12_reset_79 : decode cX12_reset 79 = .ok (.iload_n 3, 1) := by decide +kernel
theorem dX12_reset_80 : decode cX12_reset 80 = .ok (.imul, 1) := by decide +kernel
theorem dX12_reset_81 : decode cX12_reset 81 = .ok (.iadd, 1) := by decide +kernel
theorem dX12_reset_82 : decode cX12_reset 82 = .ok (.iconst 1, 1) := by decide +kernel
theorem dX12_reset_83 : decode cX12_reset 83 = .ok (.iadd, 1) := by decide +kernel
theorem dX12_reset_84 : decode cX12_reset 84 = .ok (.sipush 720, 3) := by decide +kernel
theorem dX12_reset_87 : decode cX12_reset 87 = .ok (.iastore, 1) := by decide +kernel
theorem dX12_reset_88 : decode cX12_reset 88 = .ok (.aload_n 0, 1) := by decide +kernel
theorem dX12_reset_89 : decode cX12_reset 89 = .ok (.getfield 9, 3) := by decide +kernel
theorem dX12_reset_92 : decode cX12_reset 92 = .ok (.bipush 12, 2) := by decide +kernel
theorem dX12_reset_94 : decode cX12_reset 94 = .ok (.bipush 8, 2) := by decide +kernel
theorem dX12_reset_96 : decode cX12_reset 96 = .ok (.iload_n 3, 1) := by decide +kernel
theorem dX12_reset_97 : decode cX12_reset 97 = .ok (.imul, 1) := by decide +kernel
theorem dX12_reset_98 : decode cX12_reset 98 = .ok (.iadd, 1) := by decide +kernel
theorem dX12_reset_99 : decode cX12_reset 99 = .ok (.iconst 2, 1) := by decide +kernel
theorem dX12_reset_100 : decode cX12_reset 100 = .ok (.iadd, 1) := by decide +kernel
theorem dX12_reset_101 : decode cX12_reset 101 = .ok (.bipush 8, 2) := by decide +kernel
theorem dX12_reset_103 : decode cX12_reset 103 = .ok (.iastore, 1) := by decide +kernel
theorem dX12_reset_104 : decode cX12_reset 104 = .ok (.aload_n 0, 1) := by decide +kernel
theorem dX12_reset_105 : decode cX12_reset 105 = .ok (.getfield 9, 3) := by decide +kernel
theorem dX12_reset_108 : decode cX12_reset 108 = .ok (.bipush 12, 2) := by decide +kernel
theorem dX12_reset_110 : decode cX12_reset 110 = .ok (.bipush 8, 2) := by decide +kernel
theorem dX12_reset_112 : decode cX12_reset 112 = .ok (.iload_n 3, 1) := by decide +kernel
theorem dX12_reset_113 : decode cX12_reset 113 = .ok (.imul, 1) := by decide +kernel
theorem dX12_reset_114 : decode cX12_reset 114 = .ok (.iadd, 1) := by decide +kernel
theorem dX12_reset_115 : decode cX12_reset 115 = .ok (.bipush 7, 2) := by decide +kernel
theorem dX12_reset_117 : decode cX12_reset 117 = .ok (.iadd, 1) := by decide +kernel
theorem dX12_reset_118 : decode cX12_reset 118 = .ok (.iconst (-1), 1) := by decide +kernel
theorem dX12_reset_119 : decode cX12_reset 119 = .ok (.iastore, 1) := by decide +kernel
theorem dX12_reset_120 : decode cX12_reset 120 = .ok (.iinc 3 1, 3) := by decide +kernel
theorem dX12_reset_123 : decode cX12_reset 123 = .ok (.goto (-57), 3) := by decide +kernel
theorem dX12_reset_126 : decode cX12_reset 126 = .ok (.aload_n 0, 1) := by decide +kernel
theorem dX12_reset_127 : decode cX12_reset 127 = .ok (.getfield 9, 3) := by decide +kernel
theorem dX12_reset_130 : decode cX12_reset 130 = .ok (.bipush 53, 2) := by decide +kernel
theorem dX12_reset_132 : decode cX12_reset 132 = .ok (.iconst 1, 1) := by decide +kernel
theorem dX12_reset_133 : decode cX12_reset 133 = .ok (.iastore, 1) := by decide +kernel
theorem dX12_reset_134 : decode cX12_reset 134 = .ok (.aload_n 0, 1) := by decide +kernel
theorem dX12_reset_135 : decode cX12_reset 135 = .ok (.getfield 9, 3) := by decide +kernel
theorem dX12_reset_138 : decode cX12_reset 138 = .ok (.bipush 55, 2) := by decide +kernel
theorem dX12_reset_140 : decode cX12_reset 140 = .ok (.iconst (-1), 1) := by decide +kernel
theorem dX12_reset_141 : decode cX12_reset 141 = .ok (.iastore, 1) := by decide +kernel
theorem dX12_reset_142 : decode cX12_reset 142 = .ok (.aload_n 0, 1) := by decide +kernel
theorem dX12_reset_143 : decode cX12_reset 143 = .ok (.getfield 9, 3) := by decide +kernel
theorem dX12_reset_146 : decode cX12_reset 146 = .ok (.bipush 56, 2) := by decide +kernel
theorem dX12_reset_148 : decode cX12_reset 148 = .ok (.iconst (-1), 1) := by decide +kernel
theorem dX12_reset_149 : decode cX12_reset 149 = .ok (.iastore, 1) := by decide +kernel
theorem dX12_reset_150 : decode cX12_reset 150 = .ok (.aload_n 0, 1) := by decide +kernel
theorem dX12_reset_151 : decode cX12_reset 151 = .ok (.getfield 9, 3) := by decide +kernel
theorem dX12_reset_154 : decode cX12_reset 154 = .ok (.sipush 187, 3) := by decide +kernel
theorem dX12_reset_157 : decode cX12_reset 157 = .ok (.iconst (-1), 1) := by decide +kernel
theorem dX12_reset_158 : decode cX12_reset 158 = .ok (.iastore, 1) := by decide +kernel
theorem dX12_reset_159 : decode cX12_reset 159 = .ok (.aload_n 0, 1) := by decide +kernel
theorem dX12_reset_160 : decode cX12_reset 160 = .ok (.invokevirtual 216, 3) := by decide +kernel
theorem dX12_reset_163 : decode cX12_reset 163 = .ok (.return_, 1) := by decide +kernel
noncomputable def f_X12_reset_b66 (k66 : Int32 → Mm → Option (Unit × Mm)) (a3 : Int32) (T : Mm) : Option (Unit × Mm) :=
  if 2 ≤ a3 then (lb (uA T 134 53 (1)) fun T1 =>
  lb (uA T1 134 55 ((-1))) fun T2 =>
  lb (uA T2 134 56 ((-1))) fun T3 =>
  lb (uA T3 134 187 ((-1))) fun T4 =>
  bd (f_X12_pagesOwn T4) fun _ T5 =>
  some ((), T5))
  else (ix (((12 : Int32) + ((8 : Int32) * a3)) + 1) 192 fun j6 => lb (uA T 134 j6 (720)) fun T8 =>
  ix (((12 : Int32) + ((8 : Int32) * a3)) + 2) 192 fun j9 => lb (uA T8 134 j9 (8)) fun T11 =>
  ix (((12 : Int32) + ((8 : Int32) * a3)) + 7) 192 fun j12 => lb (uA T11 134 j12 ((-1))) fun T14 =>
  k66 (a3 + 1) T14)
set_option maxRecDepth 100000 in
set_option maxHeartbeats 4000000 in
theorem s_X12_reset_b66 {x : JX} {ad : Nat → Nat} {U : Mm} {S0 : Hp} {q : Unit × Mm}  {k66 : Int32 → Mm → Option (Unit × Mm)} (hn9 : x_n x = 4) (C : CB x RX12 cX12_reset) (M : CMr x 6 none S0 ad false U eV q) (hk66 : ∀ (a3 : Int32) (T : Mm), k66 a3 T = some q → Jr x ad false U T [(0, .ref (ad 133)), (3, .int a3)] 66 []) (a3 : Int32) (T : Mm) (h : f_X12_reset_b66 k66 a3 T = some q) : Jr x ad false U T [(0, .ref (ad 133)), (3, .int a3)] 66 [] := by
  unfold f_X12_reset_b66 at h
  refine r_iload_n C dX12_reset_66 rfl 1 rfl ?_
  refine r_iconst (v := 2) C dX12_reset_67 (by decide) ?_
  refine r_ic_ge (tgt := 126) C dX12_reset_68 (by decide) h (fun h => ?_) (fun h => ?_)
  · refine r_aload_n C dX12_reset_126 rfl 0 rfl ?_
    refine r_getp (f := 1200) (j := 134) C flX12_9 dX12_reset_127 kq_133 (by decide) rfl (fun W => pt_1200 kq_133 W) ?_
    refine r_bipush (v := 53) C dX12_reset_130 (by decide) ?_
    refine r_iconst (v := 1) C dX12_reset_132 (by decide) ?_
    refine r_iastc (n := 192) C 53 dX12_reset_133 kq_134 lq_134 (vp_lit (by decide)) (by decide) h (fun T1 h => ?_)
    show Jr _ _ _ _ _ _ 134 _
    refine r_aload_n C dX12_reset_134 rfl 0 rfl ?_
    refine r_getp (f := 1200) (j := 134) C flX12_9 dX12_reset_135 kq_133 (by decide) rfl (fun W => pt_1200 kq_133 W) ?_
    refine r_bipush (v := 55) C dX12_reset_138 (by decide) ?_
    refine r_iconst (v := (-1)) C dX12_reset_140 (by decide) ?_
    refine r_iastc (n := 192) C 55 dX12_reset_141 kq_134 lq_134 (vp_lit (by decide)) (by decide) h (fun T2 h => ?_)
    refine r_aload_n C dX12_reset_142 rfl 0 rfl ?_
    show Jr _ _ _ _ _ _ 143 _
    refine r_getp (f := 1200) (j := 134) C flX12_9 dX12_reset_143 kq_133 (by decide) rfl (fun W => pt_1200 kq_133 W) ?_
    refine r_bipush (v := 56) C dX12_reset_146 (by decide) ?_
    refine r_iconst (v := (-1)) C dX12_reset_148 (by decide) ?_
    refine r_iastc (n := 192) C 56 dX12_reset_149 kq_134 lq_134 (vp_lit (by decide)) (by decide) h (fun T3 h => ?_)
    refine r_aload_n C dX12_reset_150 rfl 0 rfl ?_
    refine r_getp (f := 1200) (j := 134) C flX12_9 dX12_reset_151 kq_133 (by decide) rfl (fun W => pt_1200 kq_133 W) ?_
    show Jr _ _ _ _ _ _ 154 _
    refine r_sipush (v := 187) C dX12_reset_154 (by decide) ?_
    refine r_iconst (v := (-1)) C dX12_reset_157 (by decide) ?_
    refine r_iastc (n := 192) C 187 dX12_reset_158 kq_134 lq_134 (vp_lit (by decide)) (by decide) h (fun T4 h => ?_)
    refine r_aload_n C dX12_reset_159 rfl 0 rfl ?_
    refine r_callVN C M h [] [] mlX12_216 mcX12_pagesOwn (fun q9 e9 => s_X12_pagesOwn   e9) kq_133 rfl (by decide) (by decide) rfl rfl (Nat.le_of_ble_eq_true rfl) dX12_reset_160 (fun _ T5 h => ?_)
    exact r_vret C M dX12_reset_163 h
  · refine r_aload_n C dX12_reset_71 rfl 0 rfl ?_
    refine r_getp (f := 1200) (j := 134) C flX12_9 dX12_reset_72 kq_133 (by decide) rfl (fun W => pt_1200 kq_133 W) ?_
    refine r_bipush (v := 12) C dX12_reset_75 (by decide) ?_
    refine r_bipush (v := 8) C dX12_reset_77 (by decide) ?_
    refine r_iload_n C dX12_reset_79 rfl 1 rfl ?_
    show Jr _ _ _ _ _ _ 80 _
    refine r_imul C dX12_reset_80 rfl ?_
    refine r_iadd C dX12_reset_81 rfl ?_
    refine r_iconst (v := 1) C dX12_reset_82 (by decide) ?_
    refine r_iadd C dX12_reset_83 rfl ?_
    refine r_sipush (v := 720) C dX12_reset_84 (by decide) ?_
    refine r_iast (n := 192) C dX12_reset_87 kq_134 lq_134 h (fun j6 T8 hj7 h => ?_)
    show Jr _ _ _ _ _ _ 88 _
    refine r_aload_n C dX12_reset_88 rfl 0 rfl ?_
    refine r_getp (f := 1200) (j := 134) C flX12_9 dX12_reset_89 kq_133 (by decide) rfl (fun W => pt_1200 kq_133 W) ?_
    refine r_bipush (v := 12) C dX12_reset_92 (by decide) ?_
    refine r_bipush (v := 8) C dX12_reset_94 (by decide) ?_
    refine r_iload_n C dX12_reset_96 rfl 1 rfl ?_
    refine r_imul C dX12_reset_97 rfl ?_
    show Jr _ _ _ _ _ _ 98 _
    refine r_iadd C dX12_reset_98 rfl ?_
    refine r_iconst (v := 2) C dX12_reset_99 (by decide) ?_
    refine r_iadd C dX12_reset_100 rfl ?_
    refine r_bipush (v := 8) C dX12_reset_101 (by decide) ?_
    refine r_iast (n := 192) C dX12_reset_103 kq_134 lq_134 h (fun j9 T11 hj10 h => ?_)
    refine r_aload_n C dX12_reset_104 rfl 0 rfl ?_
    show Jr _ _ _ _ _ _ 105 _
    refine r_getp (f := 1200) (j := 134) C flX12_9 dX12_reset_105 kq_133 (by decide) rfl (fun W => pt_1200 kq_133 W) ?_
    refine r_bipush (v := 12) C dX12_reset_108 (by decide) ?_
    refine r_bipush (v := 8) C dX12_reset_110 (by decide) ?_
    refine r_iload_n C dX12_reset_112 rfl 1 rfl ?_
    refine r_imul C dX12_reset_113 rfl ?_
    refine r_iadd C dX12_reset_114 rfl ?_
    show Jr _ _ _ _ _ _ 115 _
    refine r_bipush (v := 7) C dX12_reset_115 (by decide) ?_
    refine r_iadd C dX12_reset_117 rfl ?_
    refine r_iconst (v := (-1)) C dX12_reset_118 (by decide) ?_
    refine r_iast (n := 192) C dX12_reset_119 kq_134 lq_134 h (fun j12 T14 hj13 h => ?_)
    refine r_iinc (q := 1) (v := (a3 + 1)) (lv' := [(3, .int (a3 + 1)), (0, .ref (ad 133))]) C dX12_reset_120 rfl (by rw [show Int32.ofInt (1) = 1 by decide]) (by rw [hn9]; decide) rfl ?_
    refine r_goto (tgt := 66) C dX12_reset_123 (by decide) ?_
    refine Jr.sub [1, 0] (lv' := [(0, .ref (ad 133)), (3, .int (a3 + 1))]) rfl ?_
    exact hk66 (a3 + 1) T14 h
noncomputable def f_X12_reset_l66 (n : Nat) : Int32 → Mm → Option (Unit × Mm) := Nat.rec (fun _ _ => none) (fun _ ih => f_X12_reset_b66 ih) n
theorem s_X12_reset_l66 {x : JX} {ad : Nat → Nat} {U : Mm} {S0 : Hp} {q : Unit × Mm}  (hn9 : x_n x = 4) (C : CB x RX12 cX12_reset) (M : CMr x 6 none S0 ad false U eV q) : ∀ (n : Nat), ∀ (a3 : Int32) (T : Mm), f_X12_reset_l66  n a3 T = some q → Jr x ad false U T [(0, .ref (ad 133)), (3, .int a3)] 66 [] := by
  intro n
  induction n with
  | zero => intro a3 T  h; exact absurd h (by intro h; cases h)
  | succ n ih => exact fun a3 T  h => s_X12_reset_b66 hn9 C M (ih) a3 T  h
noncomputable def f_X12_reset_b2 (k2 : Int32 → Int32 → Int32 → Mm → Option (Unit × Mm)) (a1 : Int32) (a2 : Int32) (a3 : Int32) (T : Mm) : Option (Unit × Mm) :=
  if 192 ≤ a3 then (lb (uA T 134 0 (a1)) fun T1 =>
  lb (uA T1 134 1 (a2)) fun T2 =>
  lb (uA T2 134 6 (1200)) fun T3 =>
  lb (uA T3 134 7 (720)) fun T4 =>
  lb (uA T4 134 8 (1)) fun T5 =>
  f_X12_reset_l66 FU 0 T5)
  else (ix a3 192 fun j6 => lb (uA T 134 j6 (0)) fun T8 =>
  k2 a1 a2 (a3 + 1) T8)
set_option maxRecDepth 100000 in
set_option maxHeartbeats 4000000 in
theorem s_X12_reset_b2 {x : JX} {ad : Nat → Nat} {U : Mm} {S0 : Hp} {q : Unit × Mm}  {k2 : Int32 → Int32 → Int32 → Mm → Option (Unit × Mm)} (hn9 : x_n x = 4) (C : CB x RX12 cX12_reset) (M : CMr x 6 none S0 ad false U eV q) (hk2 : ∀ (a1 : Int32) (a2 : Int32) (a3 : Int32) (T : Mm), k2 a1 a2 a3 T = some q → Jr x ad false U T [(0, .ref (ad 133)), (1, .int a1), (2, .int a2), (3, .int a3)] 2 []) (a1 : Int32) (a2 : Int32) (a3 : Int32) (T : Mm) (h : f_X12_reset_b2 k2 a1 a2 a3 T = some q) : Jr x ad false U T [(0, .ref (ad 133)), (1, .int a1), (2, .int a2), (3, .int a3)] 2 [] := by
  unfold f_X12_reset_b2 at h
  refine r_iload_n C dX12_reset_2 rfl 3 rfl ?_
  refine r_sipush (v := 192) C dX12_reset_3 (by decide) ?_
  refine r_ic_ge (tgt := 22) C dX12_reset_6 (by decide) h (fun h => ?_) (fun h => ?_)
  · refine r_aload_n C dX12_reset_22 rfl 0 rfl ?_
    refine r_getp (f := 1200) (j := 134) C flX12_9 dX12_reset_23 kq_133 (by decide) rfl (fun W => pt_1200 kq_133 W) ?_
    refine r_iconst (v := 0) C dX12_reset_26 (by decide) ?_
    refine r_iload_n C dX12_reset_27 rfl 1 rfl ?_
    refine r_iastc (n := 192) C 0 dX12_reset_28 kq_134 lq_134 (vp_lit (by decide)) (by decide) h (fun T1 h => ?_)
    show Jr _ _ _ _ _ _ 29 _
    refine r_aload_n C dX12_reset_29 rfl 0 rfl ?_
    refine r_getp (f := 1200) (j := 134) C flX12_9 dX12_reset_30 kq_133 (by decide) rfl (fun W => pt_1200 kq_133 W) ?_
    refine r_iconst (v := 1) C dX12_reset_33 (by decide) ?_
    refine r_iload_n C dX12_reset_34 rfl 2 rfl ?_
    refine r_iastc (n := 192) C 1 dX12_reset_35 kq_134 lq_134 (vp_lit (by decide)) (by decide) h (fun T2 h => ?_)
    refine r_aload_n C dX12_reset_36 rfl 0 rfl ?_
    show Jr _ _ _ _ _ _ 37 _
    refine r_getp (f := 1200) (j := 134) C flX12_9 dX12_reset_37 kq_133 (by decide) rfl (fun W => pt_1200 kq_133 W) ?_
    refine r_bipush (v := 6) C dX12_reset_40 (by decide) ?_
    refine r_sipush (v := 1200) C dX12_reset_42 (by decide) ?_
    refine r_iastc (n := 192) C 6 dX12_reset_45 kq_134 lq_134 (vp_lit (by decide)) (by decide) h (fun T3 h => ?_)
    refine r_aload_n C dX12_reset_46 rfl 0 rfl ?_
    refine r_getp (f := 1200) (j := 134) C flX12_9 dX12_reset_47 kq_133 (by decide) rfl (fun W => pt_1200 kq_133 W) ?_
    show Jr _ _ _ _ _ _ 50 _
    refine r_bipush (v := 7) C dX12_reset_50 (by decide) ?_
    refine r_sipush (v := 720) C dX12_reset_52 (by decide) ?_
    refine r_iastc (n := 192) C 7 dX12_reset_55 kq_134 lq_134 (vp_lit (by decide)) (by decide) h (fun T4 h => ?_)
    refine r_aload_n C dX12_reset_56 rfl 0 rfl ?_
    refine r_getp (f := 1200) (j := 134) C flX12_9 dX12_reset_57 kq_133 (by decide) rfl (fun W => pt_1200 kq_133 W) ?_
    refine r_bipush (v := 8) C dX12_reset_60 (by decide) ?_
    show Jr _ _ _ _ _ _ 62 _
    refine r_iconst (v := 1) C dX12_reset_62 (by decide) ?_
    refine r_iastc (n := 192) C 8 dX12_reset_63 kq_134 lq_134 (vp_lit (by decide)) (by decide) h (fun T5 h => ?_)
    refine r_iconst (v := 0) C dX12_reset_64 (by decide) ?_
    refine r_istore_n (lv' := [(3, .int 0), (0, .ref (ad 133)), (1, .int a1), (2, .int a2)]) C dX12_reset_65 rfl (by rw [hn9]; decide) rfl ?_
    refine Jr.sub [1, 0] (lv' := [(0, .ref (ad 133)), (3, .int 0)]) rfl ?_
    exact s_X12_reset_l66 hn9 C M  FU 0 T5 h
  · refine r_aload_n C dX12_reset_9 rfl 0 rfl ?_
    refine r_getp (f := 1200) (j := 134) C flX12_9 dX12_reset_10 kq_133 (by decide) rfl (fun W => pt_1200 kq_133 W) ?_
    refine r_iload_n C dX12_reset_13 rfl 3 rfl ?_
    refine r_iconst (v := 0) C dX12_reset_14 (by decide) ?_
    refine r_iast (n := 192) C dX12_reset_15 kq_134 lq_134 h (fun j6 T8 hj7 h => ?_)
    show Jr _ _ _ _ _ _ 16 _
    refine r_iinc (q := 3) (v := (a3 + 1)) (lv' := [(3, .int (a3 + 1)), (0, .ref (ad 133)), (1, .int a1), (2, .int a2)]) C dX12_reset_16 rfl (by rw [show Int32.ofInt (1) = 1 by decide]) (by rw [hn9]; decide) rfl ?_
    refine r_goto (tgt := 2) C dX12_reset_19 (by decide) ?_
    refine Jr.sub [1, 2, 3, 0] (lv' := [(0, .ref (ad 133)), (1, .int a1), (2, .int a2), (3, .int (a3 + 1))]) rfl ?_
    exact hk2 a1 a2 (a3 + 1) T8 h
noncomputable def f_X12_reset_l2 (n : Nat) : Int32 → Int32 → Int32 → Mm → Option (Unit × Mm) := Nat.rec (fun _ _ _ _ => none) (fun _ ih => f_X12_reset_b2 ih) n
theorem s_X12_reset_l2 {x : JX} {ad : Nat → Nat} {U : Mm} {S0 : Hp} {q : Unit × Mm}  (hn9 : x_n x = 4) (C : CB x RX12 cX12_reset) (M : CMr x 6 none S0 ad false U eV q) : ∀ (n : Nat), ∀ (a1 : Int32) (a2 : Int32) (a3 : Int32) (T : Mm), f_X12_reset_l2  n a1 a2 a3 T = some q → Jr x ad false U T [(0, .ref (ad 133)), (1, .int a1), (2, .int a2), (3, .int a3)] 2 [] := by
  intro n
  induction n with
  | zero => intro a1 a2 a3 T  h; exact absurd h (by intro h; cases h)
  | succ n ih => exact fun a1 a2 a3 T  h => s_X12_reset_b2 hn9 C M (ih) a1 a2 a3 T  h
noncomputable def f_X12_reset (p1 : Int32) (p2 : Int32) (T : Mm) : Option (Unit × Mm) :=
  f_X12_reset_l2 FU p1 p2 0 T
set_option maxRecDepth 100000 in
set_option maxHeartbeats 4000000 in
theorem s_X12_reset {ad : Nat → Nat} {U T : Mm} {q : Unit × Mm}  (p1 : Int32) (p2 : Int32) (h : f_X12_reset p1 p2 T = some q) : Cr 6 yX12_reset cX12_reset 4 none [.ref (ad 133), .int p1, .int p2] ad false U T eV q := by
  refine cr_of (by decide) (Nat.le_of_ble_eq_true rfl) fun x S0 hn9 C M => ?_
  have C : CB x RX12 cX12_reset := C
  refine Jr.eq (lv' := [(0, .ref (ad 133)), (1, .int p1), (2, .int p2)]) (st' := []) rfl rfl ?_
  unfold f_X12_reset at h
  refine r_iconst (v := 0) C dX12_reset_0 (by decide) ?_
  refine r_istore_n (lv' := [(3, .int 0), (0, .ref (ad 133)), (1, .int p1), (2, .int p2)]) C dX12_reset_1 rfl (by rw [hn9]; decide) rfl ?_
  refine Jr.sub [1, 2, 3, 0] (lv' := [(0, .ref (ad 133)), (1, .int p1), (2, .int p2), (3, .int 0)]) rfl ?_
  exact s_X12_reset_l2 hn9 C M  FU p1 p2 0 T h
theorem dX12_hasMore_0 : decode cX12_hasMore 0 = .ok (.aload_n 0, 1) := by decide +kernel
theorem dX12_hasMore_1 : decode cX12_hasMore 1 = .ok (.getfield 263, 3) := by decide +kernel
theorem dX12_hasMore_4 : decode cX12_hasMore 4 = .ok (.aload_n 0, 1) := by decide +kernel
theorem dX12_hasMore_5 : decode cX12_hasMore 5 = .ok (.getfield 266, 3) := by decide +kernel
theorem dX12_hasMore_8 : decode cX12_hasMore 8 = .ok (.if_icmp .ge 14, 3) := by decide +kernel
theorem dX12_hasMore_11 : decode cX12_hasMore 11 = .ok (.aload_n 0, 1) := by decide +kernel
theorem dX12_hasMore_12 : decode cX12_hasMore 12 = .ok (.getfield 191, 3) := by decide +kernel
theorem dX12_hasMore_15 : decode cX12_hasMore 15 = .ok (.ifCond .ne 7, 3) := by decide +kernel
theorem dX12_hasMore_18 : decode cX12_hasMore 18 = .ok (.iconst 1, 1) := by decide +kernel
theorem dX12_hasMore_19 : decode cX12_hasMore 19 = .ok (.goto 4, 3) := by decide +kernel
theorem dX12_hasMore_22 : decode cX12_hasMore 22 = .ok (.iconst 0, 1) := by decide +kernel
theorem dX12_hasMore_23 : decode cX12_hasMore 23 = .ok (.ireturn, 1) := by decide +kernel
noncomputable def f_X12_hasMore (T : Mm) : Option (Int32 × Mm) :=
  if (gI T 1228 133) ≤ (gI T 1227 133) then (some (0, T))
  else (if (gI T 1233 133) = 0 then (some (1, T))
  else (some (0, T)))
set_option maxRecDepth 100000 in
set_option maxHeartbeats 4000000 in
theorem s_X12_hasMore {ad : Nat → Nat} {U T : Mm} {q : Int32 × Mm}  (h : f_X12_hasMore  T = some q) : Cr 1 yX12_hasMore cX12_hasMore 1 (some .boolean) [.ref (ad 133)] ad false U T eI q := by
  refine cr_of (by decide) (Nat.le_of_ble_eq_true rfl) fun x S0 hn9 C M => ?_
  have C : CB x RX12 cX12_hasMore := C
  refine Jr.eq (lv' := [(0, .ref (ad 133))]) (st' := []) rfl rfl ?_
  unfold f_X12_hasMore at h
  refine r_aload_n C dX12_hasMore_0 rfl 0 rfl ?_
  refine r_geti (f := 1227) C flX12_263 dX12_hasMore_1 kq_133 (by decide) (by decide) rfl ?_
  refine r_aload_n C dX12_hasMore_4 rfl 0 rfl ?_
  refine r_geti (f := 1228) C flX12_266 dX12_hasMore_5 kq_133 (by decide) (by decide) rfl ?_
  refine r_ic_ge (tgt := 22) C dX12_hasMore_8 (by decide) h (fun h => ?_) (fun h => ?_)
  · refine r_iconst (v := 0) C dX12_hasMore_22 (by decide) ?_
    exact r_zret C M dX12_hasMore_23 (by decide) h
  · refine r_aload_n C dX12_hasMore_11 rfl 0 rfl ?_
    refine r_geti (f := 1233) C flX12_191 dX12_hasMore_12 kq_133 (by decide) (by decide) rfl ?_
    refine r_if_ne (tgt := 22) C dX12_hasMore_15 (by decide) h (fun h => ?_) (fun h => ?_)
    · refine r_iconst (v := 0) C dX12_hasMore_22 (by decide) ?_
      exact r_zret C M dX12_hasMore_23 (by decide) h
    · refine r_iconst (v := 1) C dX12_hasMore_18 (by decide) ?_
      refine r_goto (tgt := 23) C dX12_hasMore_19 (by decide) ?_
      exact r_zret C M dX12_hasMore_23 (by decide) h
theorem dX12_count_0 : decode cX12_count 0 = .ok (.aload_n 0, 1) := by decide +kernel
theorem dX12_count_1 : decode cX12_count 1 = .ok (.dup, 1) := by decide +kernel
theorem dX12_count_2 : decode cX12_count 2 = .ok (.getfield 275, 3) := by decide +kernel
theorem dX12_count_5 : decode cX12_count 5 = .ok (.iload_n 1, 1) := by decide +kernel
theorem dX12_count_6 : decode cX12_count 6 = .ok (.iadd, 1) := by decide +kernel
theorem dX12_count_7 : decode cX12_count 7 = .ok (.putfield 275, 3) := by decide +kernel
theorem dX12_count_10 : decode cX12_count 10 = .ok (.aload_n 0, 1) := by decide +kernel
theorem dX12_count_11 : decode cX12_count 11 = .ok (.aload_n 0, 1) := by decide +kernel
theorem dX12_count_12 : decode cX12_count 12 = .ok (.getfield 191, 3) := by decide +kernel
theorem dX12_count_15 : decode cX12_count 15 = .ok (.ifCond .ne 13, 3) := by decide +kernel
theorem dX12_count_18 : decode cX12_count 18 = .ok (.aload_n 0, 1) := by decide +kernel
theorem dX12_count_19 : decode cX12_count 19 = .ok (.getfield 275, 3) := by decide +kernel
theorem dX12_count_22 : decode cX12_count 22 = .ok (.ldc_w 278, 3) := by decide +kernel
theorem dX12_count_25 : decode cX12_count 25 = .ok (.if_icmp .le 7, 3) := by decide +kernel
theorem dX12_count_28 : decode cX12_count 28 = .ok (.iconst 1, 1) := by decide +kernel
theorem dX12_count_29 : decode cX12_count 29 = .ok (.goto 4, 3) := by decide +kernel
theorem dX12_count_32 : decode cX12_count 32 = .ok (.iconst 0, 1) := by decide +kernel
theorem dX12_count_33 : decode cX12_count 33 = .ok (.putfield 191, 3) := by decide +kernel
theorem dX12_count_36 : decode cX12_count 36 = .ok (.return_, 1) := by decide +kernel
noncomputable def f_X12_count (p1 : Int32) (T : Mm) : Option (Unit × Mm) :=
  lb (uI T 1232 133 ((gI T 1232 133) + p1)) fun T1 =>
  if (gI T1 1233 133) = 0 then (if (gI T1 1232 133) ≤ 60000 then (lb (uI T1 1233 133 0) fun T3 =>
  some ((), T3))
  else (lb (uI T1 1233 133 1) fun T4 =>
  some ((), T4)))
  else (lb (uI T1 1233 133 1) fun T2 =>
  some ((), T2))
set_option maxRecDepth 100000 in
set_option maxHeartbeats 4000000 in
theorem s_X12_count {ad : Nat → Nat} {U T : Mm} {q : Unit × Mm}  (p1 : Int32) (h : f_X12_count p1 T = some q) : Cr 1 yX12_count cX12_count 2 none [.ref (ad 133), .int p1] ad false U T eV q := by
  refine cr_of (by decide) (Nat.le_of_ble_eq_true rfl) fun x S0 hn9 C M => ?_
  have C : CB x RX12 cX12_count := C
  refine Jr.eq (lv' := [(0, .ref (ad 133)), (1, .int p1)]) (st' := []) rfl rfl ?_
  unfold f_X12_count at h
  refine r_aload_n C dX12_count_0 rfl 0 rfl ?_
  refine r_dup C dX12_count_1 rfl ?_
  refine r_geti (f := 1232) C flX12_275 dX12_count_2 kq_133 (by decide) (by decide) rfl ?_
  refine r_iload_n C dX12_count_5 rfl 1 rfl ?_
  refine r_iadd C dX12_count_6 rfl ?_
  show Jr _ _ _ _ _ _ 7 _
  refine r_puti (f := 1232) C flX12_275 (by decide) rfl rfl dX12_count_7 kq_133 rfl h (fun T1 h => ?_)
  refine r_aload_n C dX12_count_10 rfl 0 rfl ?_
  refine r_aload_n C dX12_count_11 rfl 0 rfl ?_
  refine r_geti (f := 1233) C flX12_191 dX12_count_12 kq_133 (by decide) (by decide) rfl ?_
  refine r_if_ne (tgt := 28) C dX12_count_15 (by decide) h (fun h => ?_) (fun h => ?_)
  · refine r_iconst (v := 1) C dX12_count_28 (by decide) ?_
    refine r_goto (tgt := 33) C dX12_count_29 (by decide) ?_
    refine r_putz (f := 1233) C flX12_191 (by decide) rfl rfl (by decide) dX12_count_33 kq_133 rfl h (fun T2 h => ?_)
    exact r_vret C M dX12_count_36 h
  · refine r_aload_n C dX12_count_18 rfl 0 rfl ?_
    refine r_geti (f := 1232) C flX12_275 dX12_count_19 kq_133 (by decide) (by decide) rfl ?_
    refine r_ldcw (v := 60000) C dX12_count_22 kcX12_278 ?_
    refine r_ic_le (tgt := 32) C dX12_count_25 (by decide) h (fun h => ?_) (fun h => ?_)
    · refine r_iconst (v := 0) C dX12_count_32 (by decide) ?_
      refine r_putz (f := 1233) C flX12_191 (by decide) rfl rfl (by decide) dX12_count_33 kq_133 rfl h (fun T3 h => ?_)
      exact r_vret C M dX12_count_36 h
    · refine r_iconst (v := 1) C dX12_count_28 (by decide) ?_
      refine r_goto (tgt := 33) C dX12_count_29 (by decide) ?_
      refine r_putz (f := 1233) C flX12_191 (by decide) rfl rfl (by decide) dX12_count_33 kq_133 rfl h (fun T4 h => ?_)
      exact r_vret C M dX12_count_36 h
theorem dX12_next_0 : decode cX12_next 0 = .ok (.aload_n 0, 1) := by decide +kernel
theorem dX12_next_1 : decode cX12_next 1 = .ok (.iconst 1, 1) := by decide +kernel
theorem dX12_next_2 : decode cX12_next 2 = .ok (.invokevirtual 269, 3) := by decide +kernel
theorem dX12_next_5 : decode cX12_next 5 = .ok (.aload_n 0, 1) := by decide +kernel
theorem dX12_next_6 : decode cX12_next 6 = .ok (.getfield 191, 3) := by decide +kernel
theorem dX12_next_9 : decode cX12_next 9 = .ok (.ifCond .eq 5, 3) := by decide +kernel
theorem dX12_next_12 : decode cX12_next 12 = .ok (.iconst 0, 1) := by decide +kernel
theorem dX12_next_13 : decode cX12_next 13 = .ok (.ireturn, 1) := by decide +kernel
theorem dX12_next_14 : decode cX12_next 14 = .ok (.aload_n 0, 1) := by decide +kernel
theorem dX12_next_15 : decode cX12_next 15 = .ok (.getfield 272, 3) := by decide +kernel
theorem dX12_next_18 : decode cX12_next 18 = .ok (.aload_n 0, 1) := by decide +kernel
theorem dX12_next_19 : decode cX12_next 19 = .ok (.getfield 263, 3) := by decide +kernel
theorem dX12_next_22 : decode cX12_next 22 = .ok (.baload, 1) := by decide +kernel
theorem dX12_next_23 : decode cX12_next 23 = .ok (.sipush 255, 3) := by decide +kernel
theorem dX12_next_26 : decode cX12_next 26 = .ok (.iand, 1) := by decide +kernel
theorem dX12_next_27 : decode cX12_next 27 = .ok (.istore_n 1, 1) := by decide +kernel
theorem dX12_next_28 : decode cX12_next 28 = .ok (.aload_n 0, 1) := by decide +kernel
theorem dX12_next_29 : decode cX12_next 29 = .ok (.dup, 1) := by decide +kernel
theorem dX12_next_30 : decode cX12_next 30 = .ok (.getfield 263, 3) := by decide +kernel
theorem dX12_next_33 : decode cX12_next 33 = .ok (.iconst 1, 1) := by decide +kernel
theorem dX12_next_34 : decode cX12_next 34 = .ok (.iadd, 1) := by decide +kernel
theorem dX12_next_35 : decode cX12_next 35 = .ok (.putfield 263, 3) := by decide +kernel
theorem dX12_next_38 : decode cX12_next 38 = .ok (.iload_n 1, 1) := by decide +kernel
theorem dX12_next_39 : decode cX12_next 39 = .ok (.ireturn, 1) := by decide +kernel
noncomputable def f_X12_next (T : Mm) : Option (Int32 × Mm) :=
  bd (f_X12_count 1 T) fun _ T1 =>
  if (gI T1 1233 133) = 0 then (rf false (gR T1 1226 133) 13 fun j2 =>
  ix (gI T1 1227 133) (LN j2) fun j4 =>
  lb (((gA T1 j2 j4) &&& 255)) fun v6 =>
  lb (uI T1 1227 133 ((gI T1 1227 133) + 1)) fun T7 =>
  some (v6, T7))
  else (some (0, T1))
set_option maxRecDepth 100000 in
set_option maxHeartbeats 4000000 in
theorem s_X12_next {ad : Nat → Nat} {U T : Mm} {q : Int32 × Mm}  (h : f_X12_next  T = some q) : Cr 2 yX12_next cX12_next 2 (some .int) [.ref (ad 133)] ad false U T eI q := by
  refine cr_of (by decide) (Nat.le_of_ble_eq_true rfl) fun x S0 hn9 C M => ?_
  have C : CB x RX12 cX12_next := C
  refine Jr.eq (lv' := [(0, .ref (ad 133))]) (st' := []) rfl rfl ?_
  unfold f_X12_next at h
  refine r_aload_n C dX12_next_0 rfl 0 rfl ?_
  refine r_iconst (v := 1) C dX12_next_1 (by decide) ?_
  refine r_callVN C M h [.int 1] [] mlX12_269 mcX12_count (fun q9 e9 => s_X12_count 1  e9) kq_133 rfl (by decide) (by decide) rfl rfl (Nat.le_of_ble_eq_true rfl) dX12_next_2 (fun _ T1 h => ?_)
  refine r_aload_n C dX12_next_5 rfl 0 rfl ?_
  refine r_geti (f := 1233) C flX12_191 dX12_next_6 kq_133 (by decide) (by decide) rfl ?_
  show Jr _ _ _ _ _ _ 9 _
  refine r_if_eq (tgt := 14) C dX12_next_9 (by decide) h (fun h => ?_) (fun h => ?_)
  · refine r_aload_n C dX12_next_14 rfl 0 rfl ?_
    refine r_getr (f := 1226) (c := 13) C flX12_272 dX12_next_15 kq_133 (by decide) rfl h (fun j2 hj3 h => ?_)
    refine r_aload_n C dX12_next_18 rfl 0 rfl ?_
    refine r_geti (f := 1227) C flX12_263 dX12_next_19 kq_133 (by decide) (by decide) rfl ?_
    refine r_bald (n := (LN j2)) C dX12_next_22 hj3 rfl h (fun j4 hj5 h => ?_)
    show Jr _ _ _ _ _ _ 23 _
    refine r_sipush (v := 255) C dX12_next_23 (by decide) ?_
    refine r_iand C dX12_next_26 rfl ?_
    refine r_lbI h (fun v6 h => ?_)
    refine r_istore_n (lv' := [(1, .int v6), (0, .ref (ad 133))]) C dX12_next_27 rfl (by rw [hn9]; decide) rfl ?_
    refine r_aload_n C dX12_next_28 rfl 1 rfl ?_
    refine r_dup C dX12_next_29 rfl ?_
    refine r_geti (f := 1227) C flX12_263 dX12_next_30 kq_133 (by decide) (by decide) rfl ?_
    show Jr _ _ _ _ _ _ 33 _
    refine r_iconst (v := 1) C dX12_next_33 (by decide) ?_
    refine r_iadd C dX12_next_34 rfl ?_
    refine r_puti (f := 1227) C flX12_263 (by decide) rfl rfl dX12_next_35 kq_133 rfl h (fun T7 h => ?_)
    refine r_iload_n C dX12_next_38 rfl 0 rfl ?_
    exact r_iret C M dX12_next_39 h
  · refine r_iconst (v := 0) C dX12_next_12 (by decide) ?_
    exact r_iret C M dX12_next_13 h
theorem dX12_peek_0 : decode cX12_peek 0 = .ok (.aload_n 0, 1) := by decide +kernel
theorem dX12_peek_1 : decode cX12_peek 1 = .ok (.getfield 263, 3) := by decide +kernel
theorem dX12_peek_4 : decode cX12_peek 4 = .ok (.aload_n 0, 1) := by decide +kernel
theorem dX12_peek_5 : decode cX12_peek 5 = .ok (.getfield 266, 3) := by decide +kernel
theorem dX12_peek_8 : decode cX12_peek 8 = .ok (.if_icmp .ge 19, 3) := by decide +kernel
theorem dX12_peek_11 : decode cX12_peek 11 = .ok (.aload_n 0, 1) := by decide +kernel
theorem dX12_peek_12 : decode cX12_peek 12 = .ok (.getfield 272, 3) := by decide +kernel
theorem dX12_peek_15 : decode cX12_peek 15 = .ok (.aload_n 0, 1) := by decide +kernel
theorem dX12_peek_16 : decode cX12_peek 16 = .ok (.getfield 263, 3) := by decide +kernel
theorem dX12_peek_19 : decode cX12_peek 19 = .ok (.baload, 1) := by decide +kernel
theorem dX12_peek_20 : decode cX12_peek 20 = .ok (.sipush 255, 3) := by decide +kernel
theorem dX12_peek_23 : decode cX12_peek 23 = .ok (.iand, 1) := by decide +kernel
theorem dX12_peek_24 : decode cX12_peek 24 = .ok (.goto 4, 3) := by decide +kernel
theorem dX12_peek_27 : decode cX12_peek 27 = .ok (.iconst (-1), 1) := by decide +kernel
theorem dX12_peek_28 : decode cX12_peek 28 = .ok (.ireturn, 1) := by decide +kernel
noncomputable def f_X12_peek (T : Mm) : Option (Int32 × Mm) :=
  if (gI T 1228 133) ≤ (gI T 1227 133) then (some ((-1), T))
  else (rf false (gR T 1226 133) 13 fun j1 =>
  ix (gI T 1227 133) (LN j1) fun j3 =>
  some (((gA T j1 j3) &&& 255), T))
set_option maxRecDepth 100000 in
set_option maxHeartbeats 4000000 in
theorem s_X12_peek {ad : Nat → Nat} {U T : Mm} {q : Int32 × Mm}  (h : f_X12_peek  T = some q) : Cr 1 yX12_peek cX12_peek 1 (some .int) [.ref (ad 133)] ad false U T eI q := by
  refine cr_of (by decide) (Nat.le_of_ble_eq_true rfl) fun x S0 hn9 C M => ?_
  have C : CB x RX12 cX12_peek := C
  refine Jr.eq (lv' := [(0, .ref (ad 133))]) (st' := []) rfl rfl ?_
  unfold f_X12_peek at h
  refine r_aload_n C dX12_peek_0 rfl 0 rfl ?_
  refine r_geti (f := 1227) C flX12_263 dX12_peek_1 kq_133 (by decide) (by decide) rfl ?_
  refine r_aload_n C dX12_peek_4 rfl 0 rfl ?_
  refine r_geti (f := 1228) C flX12_266 dX12_peek_5 kq_133 (by decide) (by decide) rfl ?_
  refine r_ic_ge (tgt := 27) C dX12_peek_8 (by decide) h (fun h => ?_) (fun h => ?_)
  · refine r_iconst (v := (-1)) C dX12_peek_27 (by decide) ?_
    exact r_iret C M dX12_peek_28 h
  · refine r_aload_n C dX12_peek_11 rfl 0 rfl ?_
    refine r_getr (f := 1226) (c := 13) C flX12_272 dX12_peek_12 kq_133 (by decide) rfl h (fun j1 hj2 h => ?_)
    refine r_aload_n C dX12_peek_15 rfl 0 rfl ?_
    refine r_geti (f := 1227) C flX12_263 dX12_peek_16 kq_133 (by decide) (by decide) rfl ?_
    refine r_bald (n := (LN j1)) C dX12_peek_19 hj2 rfl h (fun j3 hj4 h => ?_)
    show Jr _ _ _ _ _ _ 20 _
    refine r_sipush (v := 255) C dX12_peek_20 (by decide) ?_
    refine r_iand C dX12_peek_23 rfl ?_
    refine r_goto (tgt := 28) C dX12_peek_24 (by decide) ?_
    exact r_iret C M dX12_peek_28 h
theorem dX12_save_0 : decode cX12_save 0 = .ok (.iconst 0, 1) := by decide +kernel
theorem dX12_save_1 : decode cX12_save 1 = .ok (.istore_n 2, 1) := by decide +kernel
theorem dX12_save_2 : decode cX12_save 2 = .ok (.iload_n 2, 1) := by decide +kernel
theorem dX12_save_3 : decode cX12_save 3 = .ok (.sipush 192, 3) := by decide +kernel
theorem dX12_save_6 : decode cX12_save 6 = .ok (.if_icmp .ge 27, 3) := by decide +kernel
theorem dX12_save_9 : decode cX12_save 9 = .ok (.aload_n 0, 1) := by decide +kernel
theorem dX12_save_10 : decode cX12_save 10 = .ok (.getfield 13, 3) := by decide +kernel
theorem dX12_save_13 : decode cX12_save 13 = .ok (.iload_n 1, 1) := by decide +kernel
theorem dX12_save_14 : decode cX12_save 14 = .ok (.sipush 192, 3) := by decide +kernel
theorem dX12_save_17 : decode cX12_save 17 = .ok (.imul, 1) := by decide +kernel
theorem dX12_save_18 : decode cX12_save 18 = .ok (.iload_n 2, 1) := by decide +kernel
theorem dX12_save_19 : decode cX12_save 19 = .ok (.iadd, 1) := by decide +kernel
theorem dX12_save_20 : decode cX12_save 20 = .ok (.aload_n 0, 1) := by decide +kernel
theorem dX12_save_21 : decode cX12_save 21 = .ok (.getfield 9, 3) := by decide +kernel
theorem dX12_save_24 : decode cX12_save 24 = .ok (.iload_n 2, 1) := by decide +kernel
theorem dX12_save_25 : decode cX12_save 25 = .ok (.iaload, 1) := by decide +kernel
theorem dX12_save_26 : decode cX12_save 26 = .ok (.iastore, 1) := by decide +kernel
theorem dX12_save_27 : decode cX12_save 27 = .ok (.iinc 2 1, 3) := by decide +kernel
theorem dX12_save_30 : decode cX12_save 30 = .ok (.goto (-28), 3) := by decide +kernel
theorem dX12_save_33 : decode cX12_save 33 = .ok (.return_, 1) := by decide +kernel
noncomputable def f_X12_save_b2 (k2 : Int32 → Int32 → Mm → Option (Unit × Mm)) (a1 : Int32) (a2 : Int32) (T : Mm) : Option (Unit × Mm) :=
  if 192 ≤ a2 then (some ((), T))
  else (ix a2 192 fun j1 =>
  ix ((a1 * 192) + a2) 960 fun j3 => lb (uA T 135 j3 ((gA T 134 j1))) fun T5 =>
  k2 a1 (a2 + 1) T5)
set_option maxRecDepth 100000 in
set_option maxHeartbeats 4000000 in
theorem s_X12_save_b2 {x : JX} {ad : Nat → Nat} {U : Mm} {S0 : Hp} {q : Unit × Mm}  {k2 : Int32 → Int32 → Mm → Option (Unit × Mm)} (hn9 : x_n x = 3) (C : CB x RX12 cX12_save) (M : CMr x 1 none S0 ad false U eV q) (hk2 : ∀ (a1 : Int32) (a2 : Int32) (T : Mm), k2 a1 a2 T = some q → Jr x ad false U T [(0, .ref (ad 133)), (1, .int a1), (2, .int a2)] 2 []) (a1 : Int32) (a2 : Int32) (T : Mm) (h : f_X12_save_b2 k2 a1 a2 T = some q) : Jr x ad false U T [(0, .ref (ad 133)), (1, .int a1), (2, .int a2)] 2 [] := by
  unfold f_X12_save_b2 at h
  refine r_iload_n C dX12_save_2 rfl 2 rfl ?_
  refine r_sipush (v := 192) C dX12_save_3 (by decide) ?_
  refine r_ic_ge (tgt := 33) C dX12_save_6 (by decide) h (fun h => ?_) (fun h => ?_)
  · exact r_vret C M dX12_save_33 h
  · refine r_aload_n C dX12_save_9 rfl 0 rfl ?_
    refine r_getp (f := 1201) (j := 135) C flX12_13 dX12_save_10 kq_133 (by decide) rfl (fun W => pt_1201 kq_133 W) ?_
    refine r_iload_n C dX12_save_13 rfl 1 rfl ?_
    refine r_sipush (v := 192) C dX12_save_14 (by decide) ?_
    refine r_imul C dX12_save_17 rfl ?_
    show Jr _ _ _ _ _ _ 18 _
    refine r_iload_n C dX12_save_18 rfl 2 rfl ?_
    refine r_iadd C dX12_save_19 rfl ?_
    refine r_aload_n C dX12_save_20 rfl 0 rfl ?_
    refine r_getp (f := 1200) (j := 134) C flX12_9 dX12_save_21 kq_133 (by decide) rfl (fun W => pt_1200 kq_133 W) ?_
    refine r_iload_n C dX12_save_24 rfl 2 rfl ?_
    refine r_iald (n := 192) C dX12_save_25 kq_134 lq_134 h (fun j1 hj2 h => ?_)
    show Jr _ _ _ _ _ _ 26 _
    refine r_iast (n := 960) C dX12_save_26 kq_135 lq_135 h (fun j3 T5 hj4 h => ?_)
    refine r_iinc (q := 2) (v := (a2 + 1)) (lv' := [(2, .int (a2 + 1)), (0, .ref (ad 133)), (1, .int a1)]) C dX12_save_27 rfl (by rw [show Int32.ofInt (1) = 1 by decide]) (by rw [hn9]; decide) rfl ?_
    refine r_goto (tgt := 2) C dX12_save_30 (by decide) ?_
    refine Jr.sub [1, 2, 0] (lv' := [(0, .ref (ad 133)), (1, .int a1), (2, .int (a2 + 1))]) rfl ?_
    exact hk2 a1 (a2 + 1) T5 h
noncomputable def f_X12_save_l2 (n : Nat) : Int32 → Int32 → Mm → Option (Unit × Mm) := Nat.rec (fun _ _ _ => none) (fun _ ih => f_X12_save_b2 ih) n
theorem s_X12_save_l2 {x : JX} {ad : Nat → Nat} {U : Mm} {S0 : Hp} {q : Unit × Mm}  (hn9 : x_n x = 3) (C : CB x RX12 cX12_save) (M : CMr x 1 none S0 ad false U eV q) : ∀ (n : Nat), ∀ (a1 : Int32) (a2 : Int32) (T : Mm), f_X12_save_l2  n a1 a2 T = some q → Jr x ad false U T [(0, .ref (ad 133)), (1, .int a1), (2, .int a2)] 2 [] := by
  intro n
  induction n with
  | zero => intro a1 a2 T  h; exact absurd h (by intro h; cases h)
  | succ n ih => exact fun a1 a2 T  h => s_X12_save_b2 hn9 C M (ih) a1 a2 T  h
noncomputable def f_X12_save (p1 : Int32) (T : Mm) : Option (Unit × Mm) :=
  f_X12_save_l2 FU p1 0 T
set_option maxRecDepth 100000 in
set_option maxHeartbeats 4000000 in
theorem s_X12_save {ad : Nat → Nat} {U T : Mm} {q : Unit × Mm}  (p1 : Int32) (h : f_X12_save p1 T = some q) : Cr 1 yX12_save cX12_save 3 none [.ref (ad 133), .int p1] ad false U T eV q := by
  refine cr_of (by decide) (Nat.le_of_ble_eq_true rfl) fun x S0 hn9 C M => ?_
  have C : CB x RX12 cX12_save := C
  refine Jr.eq (lv' := [(0, .ref (ad 133)), (1, .int p1)]) (st' := []) rfl rfl ?_
  unfold f_X12_save at h
  refine r_iconst (v := 0) C dX12_save_0 (by decide) ?_
  refine r_istore_n (lv' := [(2, .int 0), (0, .ref (ad 133)), (1, .int p1)]) C dX12_save_1 rfl (by rw [hn9]; decide) rfl ?_
  refine Jr.sub [1, 2, 0] (lv' := [(0, .ref (ad 133)), (1, .int p1), (2, .int 0)]) rfl ?_
  exact s_X12_save_l2 hn9 C M  FU p1 0 T h
theorem dX12_back_0 : decode cX12_back 0 = .ok (.iconst 0, 1) := by decide +kernel
theorem dX12_back_1 : decode cX12_back 1 = .ok (.istore_n 2, 1) := by decide +kernel
theorem dX12_back_2 : decode cX12_back 2 = .ok (.iload_n 2, 1) := by decide +kernel
theorem dX12_back_3 : decode cX12_back 3 = .ok (.sipush 192, 3) := by decide +kernel
theorem dX12_back_6 : decode cX12_back 6 = .ok (.if_icmp .ge 27, 3) := by decide +kernel
theorem dX12_back_9 : decode cX12_back 9 = .ok (.aload_n 0, 1) := by decide +kernel
theorem dX12_back_10 : decode cX12_back 10 = .ok (.getfield 9, 3) := by decide +kernel
theorem dX12_back_13 : decode cX12_back 13 = .ok (.iload_n 2, 1) := by decide +kernel
theorem dX12_back_14 : decode cX12_back 14 = .ok (.aload_n 0, 1) := by decide +kernel
theorem dX12_back_15 : decode cX12_back 15 = .ok (.getfield 13, 3) := by decide +kernel
theorem dX12_back_18 : decode cX12_back 18 = .ok (.iload_n 1, 1) := by decide +kernel
theorem dX12_back_19 : decode cX12_back 19 = .ok (.sipush 192, 3) := by decide +kernel
theorem dX12_back_22 : decode cX12_back 22 = .ok (.imul, 1) := by decide +kernel
theorem dX12_back_23 : decode cX12_back 23 = .ok (.iload_n 2, 1) := by decide +kernel
theorem dX12_back_24 : decode cX12_back 24 = .ok (.iadd, 1) := by decide +kernel
theorem dX12_back_25 : decode cX12_back 25 = .ok (.iaload, 1) := by decide +kernel
theorem dX12_back_26 : decode cX12_back 26 = .ok (.iastore, 1) := by decide +kernel
theorem dX12_back_27 : decode cX12_back 27 = .ok (.iinc 2 1, 3) := by decide +kernel
theorem dX12_back_30 : decode cX12_back 30 = .ok (.goto (-28), 3) := by decide +kernel
theorem dX12_back_33 : decode cX12_back 33 = .ok (.return_, 1) := by decide +kernel
noncomputable def f_X12_back_b2 (k2 : Int32 → Int32 → Mm → Option (Unit × Mm)) (a1 : Int32) (a2 : Int32) (T : Mm) : Option (Unit × Mm) :=
  if 192 ≤ a2 then (some ((), T))
  else (ix ((a1 * 192) + a2) 960 fun j1 =>
  ix a2 192 fun j3 => lb (uA T 134 j3 ((gA T 135 j1))) fun T5 =>
  k2 a1 (a2 + 1) T5)
set_option maxRecDepth 100000 in
set_option maxHeartbeats 4000000 in
theorem s_X12_back_b2 {x : JX} {ad : Nat → Nat} {U : Mm} {S0 : Hp} {q : Unit × Mm}  {k2 : Int32 → Int32 → Mm → Option (Unit × Mm)} (hn9 : x_n x = 3) (C : CB x RX12 cX12_back) (M : CMr x 1 none S0 ad false U eV q) (hk2 : ∀ (a1 : Int32) (a2 : Int32) (T : Mm), k2 a1 a2 T = some q → Jr x ad false U T [(0, .ref (ad 133)), (1, .int a1), (2, .int a2)] 2 []) (a1 : Int32) (a2 : Int32) (T : Mm) (h : f_X12_back_b2 k2 a1 a2 T = some q) : Jr x ad false U T [(0, .ref (ad 133)), (1, .int a1), (2, .int a2)] 2 [] := by
  unfold f_X12_back_b2 at h
  refine r_iload_n C dX12_back_2 rfl 2 rfl ?_
  refine r_sipush (v := 192) C dX12_back_3 (by decide) ?_
  refine r_ic_ge (tgt := 33) C dX12_back_6 (by decide) h (fun h => ?_) (fun h => ?_)
  · exact r_vret C M dX12_back_33 h
  · refine r_aload_n C dX12_back_9 rfl 0 rfl ?_
    refine r_getp (f := 1200) (j := 134) C flX12_9 dX12_back_10 kq_133 (by decide) rfl (fun W => pt_1200 kq_133 W) ?_
    refine r_iload_n C dX12_back_13 rfl 2 rfl ?_
    refine r_aload_n C dX12_back_14 rfl 0 rfl ?_
    refine r_getp (f := 1201) (j := 135) C flX12_13 dX12_back_15 kq_133 (by decide) rfl (fun W => pt_1201 kq_133 W) ?_
    show Jr _ _ _ _ _ _ 18 _
    refine r_iload_n C dX12_back_18 rfl 1 rfl ?_
    refine r_sipush (v := 192) C dX12_back_19 (by decide) ?_
    refine r_imul C dX12_back_22 rfl ?_
    refine r_iload_n C dX12_back_23 rfl 2 rfl ?_
    refine r_iadd C dX12_back_24 rfl ?_
    refine r_iald (n := 960) C dX12_back_25 kq_135 lq_135 h (fun j1 hj2 h => ?_)
    show Jr _ _ _ _ _ _ 26 _
    refine r_iast (n := 192) C dX12_back_26 kq_134 lq_134 h (fun j3 T5 hj4 h => ?_)
    refine r_iinc (q := 2) (v := (a2 + 1)) (lv' := [(2, .int (a2 + 1)), (0, .ref (ad 133)), (1, .int a1)]) C dX12_back_27 rfl (by rw [show Int32.ofInt (1) = 1 by decide]) (by rw [hn9]; decide) rfl ?_
    refine r_goto (tgt := 2) C dX12_back_30 (by decide) ?_
    refine Jr.sub [1, 2, 0] (lv' := [(0, .ref (ad 133)), (1, .int a1), (2, .int (a2 + 1))]) rfl ?_
    exact hk2 a1 (a2 + 1) T5 h
noncomputable def f_X12_back_l2 (n : Nat) : Int32 → Int32 → Mm → Option (Unit × Mm) := Nat.rec (fun _ _ _ => none) (fun _ ih => f_X12_back_b2 ih) n
theorem s_X12_back_l2 {x : JX} {ad : Nat → Nat} {U : Mm} {S0 : Hp} {q : Unit × Mm}  (hn9 : x_n x = 3) (C : CB x RX12 cX12_back) (M : CMr x 1 none S0 ad false U eV q) : ∀ (n : Nat), ∀ (a1 : Int32) (a2 : Int32) (T : Mm), f_X12_back_l2  n a1 a2 T = some q → Jr x ad false U T [(0, .ref (ad 133)), (1, .int a1), (2, .int a2)] 2 [] := by
  intro n
  induction n with
  | zero => intro a1 a2 T  h; exact absurd h (by intro h; cases h)
  | succ n ih => exact fun a1 a2 T  h => s_X12_back_b2 hn9 C M (ih) a1 a2 T  h
noncomputable def f_X12_back (p1 : Int32) (T : Mm) : Option (Unit × Mm) :=
  f_X12_back_l2 FU p1 0 T
set_option maxRecDepth 100000 in
set_option maxHeartbeats 4000000 in
theorem s_X12_back {ad : Nat → Nat} {U T : Mm} {q : Unit × Mm}  (p1 : Int32) (h : f_X12_back p1 T = some q) : Cr 1 yX12_back cX12_back 3 none [.ref (ad 133), .int p1] ad false U T eV q := by
  refine cr_of (by decide) (Nat.le_of_ble_eq_true rfl) fun x S0 hn9 C M => ?_
  have C : CB x RX12 cX12_back := C
  refine Jr.eq (lv' := [(0, .ref (ad 133)), (1, .int p1)]) (st' := []) rfl rfl ?_
  unfold f_X12_back at h
  refine r_iconst (v := 0) C dX12_back_0 (by decide) ?_
  refine r_istore_n (lv' := [(2, .int 0), (0, .ref (ad 133)), (1, .int p1)]) C dX12_back_1 rfl (by rw [hn9]; decide) rfl ?_
  refine Jr.sub [1, 2, 0] (lv' := [(0, .ref (ad 133)), (1, .int p1), (2, .int 0)]) rfl ?_
  exact s_X12_back_l2 hn9 C M  FU p1 0 T h
theorem dX12_outByte_0 : decode cX12_outByte 0 = .ok (.aload_n 0, 1) := by decide +kernel
theorem dX12_outByte_1 : decode cX12_outByte 1 = .ok (.getfield 543, 3) := by decide +kernel
theorem dX12_outByte_4 : decode cX12_outByte 4 = .ok (.ldc_w 278, 3) := by decide +kernel
theorem dX12_outByte_7 : decode cX12_outByte 7 = .ok (.if_icmp .ne 11, 3) := by decide +kernel
theorem dX12_outByte_10 : decode cX12_outByte 10 = .ok (.aload_n 0, 1) := by decide +kernel
theorem dX12_outByte_11 : decode cX12_outByte 11 = .ok (.iconst 1, 1) := by decide +kernel
theorem dX12_outByte_12 : decode cX12_outByte 12 = .ok (.putfield 191, 3) := by decide +kernel
theorem dX12_outByte_15 : decode cX12_outByte 15 = .ok (.goto 24, 3) := by decide +kernel
theorem dX12_outByte_18 : decode cX12_outByte 18 = .ok (.aload_n 0, 1) := by decide +kernel
theorem dX12_outByte_19 : decode cX12_outByte 19 = .ok (.getfield 96, 3) := by decide +kernel
theorem dX12_outByte_22 : decode cX12_outByte 22 = .ok (.aload_n 0, 1) := by decide +kernel
theorem dX12_outByte_23 : decode cX12_outByte 23 = .ok (.getfield 543, 3) := by decide +kernel
theorem dX12_outByte_26 : decode cX12_outByte 26 = .ok (.iload_n 1, 1) := by decide +kernel
theorem dX12_outByte_27 : decode cX12_outByte 27 = .ok (.i2b, 1) := by decide +kernel
theorem dX12_outByte_28 : decode cX12_outByte 28 = .ok (.bastore, 1) := by decide +kernel
theorem dX12_outByte_29 : decode cX12_outByte 29 = .ok (.aload_n 0, 1) := by decide +kernel
theorem dX12_outByte_30 : decode cX12_outByte 30 = .ok (.dup, 1) := by decide +kernel
theorem dX12_outByte_31 : decode cX12_outByte 31 = .ok (.getfield 543, 3) := by decide +kernel
theorem dX12_outByte_34 : decode cX12_outByte 34 = .ok (.iconst 1, 1) := by decide +kernel
theorem dX12_outByte_35 : decode cX12_outByte 35 = .ok (.iadd, 1) := by decide +kernel
theorem dX12_outByte_36 : decode cX12_outByte 36 = .ok (.putfield 543, 3) := by decide +kernel
theorem dX12_outByte_39 : decode cX12_outByte 39 = .ok (.return_, 1) := by decide +kernel
noncomputable def f_X12_outByte (p1 : Int32) (T : Mm) : Option (Unit × Mm) :=
  if (gI T 1242 133) = 60000 then (lb (uI T 1233 133 1) fun T5 =>
  some ((), T5))
  else (ix (gI T 1242 133) 60008 fun j1 => lb (uA T 161 j1 (((p1).toInt8.toInt32).toInt8.toInt32)) fun T3 =>
  lb (uI T3 1242 133 ((gI T3 1242 133) + 1)) fun T4 =>
  some ((), T4))
set_option maxRecDepth 100000 in
set_option maxHeartbeats 4000000 in
theorem s_X12_outByte {ad : Nat → Nat} {U T : Mm} {q : Unit × Mm}  (p1 : Int32) (h : f_X12_outByte p1 T = some q) : Cr 1 yX12_outByte cX12_outByte 2 none [.ref (ad 133), .int p1] ad false U T eV q := by
  refine cr_of (by decide) (Nat.le_of_ble_eq_true rfl) fun x S0 hn9 C M => ?_
  have C : CB x RX12 cX12_outByte := C
  refine Jr.eq (lv' := [(0, .ref (ad 133)), (1, .int p1)]) (st' := []) rfl rfl ?_
  unfold f_X12_outByte at h
  refine r_aload_n C dX12_outByte_0 rfl 0 rfl ?_
  refine r_geti (f := 1242) C flX12_543 dX12_outByte_1 kq_133 (by decide) (by decide) rfl ?_
  refine r_ldcw (v := 60000) C dX12_outByte_4 kcX12_278 ?_
  refine r_ic_ne (tgt := 18) C dX12_outByte_7 (by decide) h (fun h => ?_) (fun h => ?_)
  · refine r_aload_n C dX12_outByte_18 rfl 0 rfl ?_
    refine r_getp (f := 1241) (j := 161) C flX12_96 dX12_outByte_19 kq_133 (by decide) rfl (fun W => pt_1241 kq_133 W) ?_
    refine r_aload_n C dX12_outByte_22 rfl 0 rfl ?_
    refine r_geti (f := 1242) C flX12_543 dX12_outByte_23 kq_133 (by decide) (by decide) rfl ?_
    refine r_iload_n C dX12_outByte_26 rfl 1 rfl ?_
    show Jr _ _ _ _ _ _ 27 _
    refine r_i2b C dX12_outByte_27 rfl ?_
    refine r_bast (n := 60008) C dX12_outByte_28 kq_161 lq_161 h (fun j1 T3 hj2 h => ?_)
    refine r_aload_n C dX12_outByte_29 rfl 0 rfl ?_
    refine r_dup C dX12_outByte_30 rfl ?_
    refine r_geti (f := 1242) C flX12_543 dX12_outByte_31 kq_133 (by decide) (by decide) rfl ?_
    refine r_iconst (v := 1) C dX12_outByte_34 (by decide) ?_
    show Jr _ _ _ _ _ _ 35 _
    refine r_iadd C dX12_outByte_35 rfl ?_
    refine r_puti (f := 1242) C flX12_543 (by decide) rfl rfl dX12_outByte_36 kq_133 rfl h (fun T4 h => ?_)
    exact r_vret C M dX12_outByte_39 h
  · refine r_aload_n C dX12_outByte_10 rfl 0 rfl ?_
    refine r_iconst (v := 1) C dX12_outByte_11 (by decide) ?_
    refine r_putz (f := 1233) C flX12_191 (by decide) rfl rfl (by decide) dX12_outByte_12 kq_133 rfl h (fun T5 h => ?_)
    refine r_goto (tgt := 39) C dX12_outByte_15 (by decide) ?_
    exact r_vret C M dX12_outByte_39 h
theorem dX12_outNumber_0 : decode cX12_outNumber 0 = .ok (.iconst 0, 1) := by decide +kernel
theorem dX12_outNumber_1 : decode cX12_outNumber 1 = .ok (.istore 4, 2) := by decide +kernel
theorem dX12_outNumber_3 : decode cX12_outNumber 3 = .ok (.iload 4, 2) := by decide +kernel
theorem dX12_outNumber_5 : decode cX12_outNumber 5 = .ok (.iload_n 1, 1) := by decide +kernel
theorem dX12_outNumber_6 : decode cX12_outNumber 6 = .ok (.if_icmp .ge 25, 3) := by decide +kernel
theorem dX12_outNumber_9 : decode cX12_outNumber 9 = .ok (.aload_n 0, 1) := by decide +kernel
theorem dX12_outNumber_10 : decode cX12_outNumber 10 = .ok (.lload_n 2, 1) := by decide +kernel
theorem dX12_outNumber_11 : decode cX12_outNumber 11 = .ok (.bipush 8, 2) := by decide +kernel
theorem dX12_outNumber_13 : decode cX12_outNumber 13 = .ok (.iload 4, 2) := by decide +kernel
theorem dX12_outNumber_15 : decode cX12_outNumber 15 = .ok (.imul, 1) := by decide +kernel
theorem dX12_outNumber_16 : decode cX12_outNumber 16 = .ok (.lshr, 1) := by decide +kernel
theorem dX12_outNumber_17 : decode cX12_outNumber 17 = .ok (.l2i, 1) := by decide +kernel
theorem dX12_outNumber_18 : decode cX12_outNumber 18 = .ok (.sipush 255, 3) := by decide +kernel
theorem dX12_outNumber_21 : decode cX12_outNumber 21 = .ok (.iand, 1) := by decide +kernel
theorem dX12_outNumber_22 : decode cX12_outNumber 22 = .ok (.invokevirtual 540, 3) := by decide +kernel
theorem dX12_outNumber_25 : decode cX12_outNumber 25 = .ok (.iinc 4 1, 3) := by decide +kernel
theorem dX12_outNumber_28 : decode cX12_outNumber 28 = .ok (.goto (-25), 3) := by decide +kernel
theorem dX12_outNumber_31 : decode cX12_outNumber 31 = .ok (.return_, 1) := by decide +kernel
noncomputable def f_X12_outNumber_b3 (k3 : Int32 → Int64 → Int32 → Mm → Option (Unit × Mm)) (a1 : Int32) (a2 : Int64) (a4 : Int32) (T : Mm) : Option (Unit × Mm) :=
  if a1 ≤ a4 then (some ((), T))
  else (bd (f_X12_outByte ((((a2 >>> ((((8 : Int32) * a4) : Int32).toInt64 &&& 63))).toInt32) &&& 255) T) fun _ T1 =>
  k3 a1 a2 (a4 + 1) T1)
set_option maxRecDepth 100000 in
set_option maxHeartbeats 4000000 in
theorem s_X12_outNumber_b3 {x : JX} {ad : Nat → Nat} {U : Mm} {S0 : Hp} {q : Unit × Mm}  {k3 : Int32 → Int64 → Int32 → Mm → Option (Unit × Mm)} (hn9 : x_n x = 5) (C : CB x RX12 cX12_outNumber) (M : CMr x 2 none S0 ad false U eV q) (hk3 : ∀ (a1 : Int32) (a2 : Int64) (a4 : Int32) (T : Mm), k3 a1 a2 a4 T = some q → Jr x ad false U T [(0, .ref (ad 133)), (1, .int a1), (2, .long a2), (4, .int a4)] 3 []) (a1 : Int32) (a2 : Int64) (a4 : Int32) (T : Mm) (h : f_X12_outNumber_b3 k3 a1 a2 a4 T = some q) : Jr x ad false U T [(0, .ref (ad 133)), (1, .int a1), (2, .long a2), (4, .int a4)] 3 [] := by
  unfold f_X12_outNumber_b3 at h
  refine r_iload C dX12_outNumber_3 3 rfl ?_
  refine r_iload_n C dX12_outNumber_5 rfl 1 rfl ?_
  refine r_ic_ge (tgt := 31) C dX12_outNumber_6 (by decide) h (fun h => ?_) (fun h => ?_)
  · exact r_vret C M dX12_outNumber_31 h
  · refine r_aload_n C dX12_outNumber_9 rfl 0 rfl ?_
    refine r_lload_n C dX12_outNumber_10 rfl 2 rfl ?_
    refine r_bipush (v := 8) C dX12_outNumber_11 (by decide) ?_
    refine r_iload C dX12_outNumber_13 3 rfl ?_
    refine r_imul C dX12_outNumber_15 rfl ?_
    show Jr _ _ _ _ _ _ 16 _
    refine r_lshr C dX12_outNumber_16 rfl ?_
    refine r_l2i C dX12_outNumber_17 rfl ?_
    refine r_sipush (v := 255) C dX12_outNumber_18 (by decide) ?_
    refine r_iand C dX12_outNumber_21 rfl ?_
    refine r_callVN C M h [.int ((((a2 >>> ((((8 : Int32) * a4) : Int32).toInt64 &&& 63))).toInt32) &&& 255)] [] mlX12_540 mcX12_outByte (fun q9 e9 => s_X12_outByte ((((a2 >>> ((((8 : Int32) * a4) : Int32).toInt64 &&& 63))).toInt32) &&& 255)  e9) kq_133 rfl (by decide) (by decide) rfl rfl (Nat.le_of_ble_eq_true rfl) dX12_outNumber_22 (fun _ T1 h => ?_)
    refine r_iinc (q := 3) (v := (a4 + 1)) (lv' := [(4, .int (a4 + 1)), (0, .ref (ad 133)), (1, .int a1), (2, .long a2)]) C dX12_outNumber_25 rfl (by rw [show Int32.ofInt (1) = 1 by decide]) (by rw [hn9]; decide) rfl ?_
    show Jr _ _ _ _ _ _ 28 _
    refine r_goto (tgt := 3) C dX12_outNumber_28 (by decide) ?_
    refine Jr.sub [1, 2, 3, 0] (lv' := [(0, .ref (ad 133)), (1, .int a1), (2, .long a2), (4, .int (a4 + 1))]) rfl ?_
    exact hk3 a1 a2 (a4 + 1) T1 h
noncomputable def f_X12_outNumber_l3 (n : Nat) : Int32 → Int64 → Int32 → Mm → Option (Unit × Mm) := Nat.rec (fun _ _ _ _ => none) (fun _ ih => f_X12_outNumber_b3 ih) n
theorem s_X12_outNumber_l3 {x : JX} {ad : Nat → Nat} {U : Mm} {S0 : Hp} {q : Unit × Mm}  (hn9 : x_n x = 5) (C : CB x RX12 cX12_outNumber) (M : CMr x 2 none S0 ad false U eV q) : ∀ (n : Nat), ∀ (a1 : Int32) (a2 : Int64) (a4 : Int32) (T : Mm), f_X12_outNumber_l3  n a1 a2 a4 T = some q → Jr x ad false U T [(0, .ref (ad 133)), (1, .int a1), (2, .long a2), (4, .int a4)] 3 [] := by
  intro n
  induction n with
  | zero => intro a1 a2 a4 T  h; exact absurd h (by intro h; cases h)
  | succ n ih => exact fun a1 a2 a4 T  h => s_X12_outNumber_b3 hn9 C M (ih) a1 a2 a4 T  h
noncomputable def f_X12_outNumber (p1 : Int32) (p2 : Int64) (T : Mm) : Option (Unit × Mm) :=
  f_X12_outNumber_l3 FU p1 p2 0 T
set_option maxRecDepth 100000 in
set_option maxHeartbeats 4000000 in
theorem s_X12_outNumber {ad : Nat → Nat} {U T : Mm} {q : Unit × Mm}  (p1 : Int32) (p2 : Int64) (h : f_X12_outNumber p1 p2 T = some q) : Cr 2 yX12_outNumber cX12_outNumber 5 none [.ref (ad 133), .int p1, .long p2] ad false U T eV q := by
  refine cr_of (by decide) (Nat.le_of_ble_eq_true rfl) fun x S0 hn9 C M => ?_
  have C : CB x RX12 cX12_outNumber := C
  refine Jr.eq (lv' := [(0, .ref (ad 133)), (1, .int p1), (2, .long p2)]) (st' := []) rfl rfl ?_
  unfold f_X12_outNumber at h
  refine r_iconst (v := 0) C dX12_outNumber_0 (by decide) ?_
  refine r_istore (lv' := [(4, .int 0), (0, .ref (ad 133)), (1, .int p1), (2, .long p2)]) C dX12_outNumber_1 (by rw [hn9]; decide) rfl ?_
  refine Jr.sub [1, 2, 3, 0] (lv' := [(0, .ref (ad 133)), (1, .int p1), (2, .long p2), (4, .int 0)]) rfl ?_
  exact s_X12_outNumber_l3 hn9 C M  FU p1 p2 0 T h
theorem dX12_change_0 : decode cX12_change 0 = .ok (.iload_n 1, 1) := by decide +kernel
theorem dX12_change_1 : decode cX12_change 1 = .ok (.istore_n 3, 1) := by decide +kernel
theorem dX12_change_2 : decode cX12_change 2 = .ok (.iload_n 3, 1) := by decide +kernel
theorem dX12_change_3 : decode cX12_change 3 = .ok (.aload_n 0, 1) := by decide +kernel
theorem dX12_change_4 : decode cX12_change 4 = .ok (.getfield 528, 3) := by decide +kernel
theorem dX12_change_7 : decode cX12_change 7 = .ok (.if_icmp .ge 19, 3) := by decide +kernel
theorem dX12_change_10 : decode cX12_change 10 = .ok (.aload_n 0, 1) := by decide +kernel
theorem dX12_change_11 : decode cX12_change 11 = .ok (.getfield 117, 3) := by decide +kernel
theorem dX12_change_14 : decode cX12_change 14 = .ok (.iload_n 3, 1) := by decide +kernel
theorem dX12_change_15 : decode cX12_change 15 = .ok (.iaload, 1) := by decide +kernel
theorem dX12_change_16 : decode cX12_change 16 = .ok (.iload_n 2, 1) := by decide +kernel
theorem dX12_change_17 : decode cX12_change 17 = .ok (.if_icmp .ne 9, 3) := by decide +kernel
theorem dX12_change_20 : decode cX12_change 20 = .ok (.iinc 3 1, 3) := by decide +kernel
theorem dX12_change_23 : decode cX12_change 23 = .ok (.goto (-21), 3) := by decide +kernel
theorem dX12_change_26 : decode cX12_change 26 = .ok (.iload_n 3, 1) := by decide +kernel
theorem dX12_change_27 : decode cX12_change 27 = .ok (.ireturn, 1) := by decide +kernel
noncomputable def f_X12_change_b2 (k2 : Int32 → Int32 → Mm → Option (Int32 × Mm)) (a2 : Int32) (a3 : Int32) (T : Mm) : Option (Int32 × Mm) :=
  if (gI T 1260 133) ≤ a3 then (some (a3, T))
  else (ix a3 640 fun j1 =>
  if (gA T 168 j1) = a2 then (k2 a2 (a3 + 1) T)
  else (some (a3, T)))
set_option maxRecDepth 100000 in
set_option maxHeartbeats 4000000 in
theorem s_X12_change_b2 {x : JX} {ad : Nat → Nat} {U : Mm} {S0 : Hp} {q : Int32 × Mm}  {k2 : Int32 → Int32 → Mm → Option (Int32 × Mm)} (hn9 : x_n x = 4) (C : CB x RX12 cX12_change) (M : CMr x 1 (some .int) S0 ad false U eI q) (hk2 : ∀ (a2 : Int32) (a3 : Int32) (T : Mm), k2 a2 a3 T = some q → Jr x ad false U T [(0, .ref (ad 133)), (2, .int a2), (3, .int a3)] 2 []) (a2 : Int32) (a3 : Int32) (T : Mm) (h : f_X12_change_b2 k2 a2 a3 T = some q) : Jr x ad false U T [(0, .ref (ad 133)), (2, .int a2), (3, .int a3)] 2 [] := by
  unfold f_X12_change_b2 at h
  refine r_iload_n C dX12_change_2 rfl 2 rfl ?_
  refine r_aload_n C dX12_change_3 rfl 0 rfl ?_
  refine r_geti (f := 1260) C flX12_528 dX12_change_4 kq_133 (by decide) (by decide) rfl ?_
  refine r_ic_ge (tgt := 26) C dX12_change_7 (by decide) h (fun h => ?_) (fun h => ?_)
  · refine r_iload_n C dX12_change_26 rfl 2 rfl ?_
    exact r_iret C M dX12_change_27 h
  · refine r_aload_n C dX12_change_10 rfl 0 rfl ?_
    refine r_getp (f := 1259) (j := 168) C flX12_117 dX12_change_11 kq_133 (by decide) rfl (fun W => pt_1259 kq_133 W) ?_
    refine r_iload_n C dX12_change_14 rfl 2 rfl ?_
    refine r_iald (n := 640) C dX12_change_15 kq_168 lq_168 h (fun j1 hj2 h => ?_)
    refine r_iload_n C dX12_change_16 rfl 1 rfl ?_
    show Jr _ _ _ _ _ _ 17 _
    refine r_ic_ne (tgt := 26) C dX12_change_17 (by decide) h (fun h => ?_) (fun h => ?_)
    · refine r_iload_n C dX12_change_26 rfl 2 rfl ?_
      exact r_iret C M dX12_change_27 h
    · refine r_iinc (q := 2) (v := (a3 + 1)) (lv' := [(3, .int (a3 + 1)), (0, .ref (ad 133)), (2, .int a2)]) C dX12_change_20 rfl (by rw [show Int32.ofInt (1) = 1 by decide]) (by rw [hn9]; decide) rfl ?_
      refine r_goto (tgt := 2) C dX12_change_23 (by decide) ?_
      refine Jr.sub [1, 2, 0] (lv' := [(0, .ref (ad 133)), (2, .int a2), (3, .int (a3 + 1))]) rfl ?_
      exact hk2 a2 (a3 + 1) T h
noncomputable def f_X12_change_l2 (n : Nat) : Int32 → Int32 → Mm → Option (Int32 × Mm) := Nat.rec (fun _ _ _ => none) (fun _ ih => f_X12_change_b2 ih) n
theorem s_X12_change_l2 {x : JX} {ad : Nat → Nat} {U : Mm} {S0 : Hp} {q : Int32 × Mm}  (hn9 : x_n x = 4) (C : CB x RX12 cX12_change) (M : CMr x 1 (some .int) S0 ad false U eI q) : ∀ (n : Nat), ∀ (a2 : Int32) (a3 : Int32) (T : Mm), f_X12_change_l2  n a2 a3 T = some q → Jr x ad false U T [(0, .ref (ad 133)), (2, .int a2), (3, .int a3)] 2 [] := by
  intro n
  induction n with
  | zero => intro a2 a3 T  h; exact absurd h (by intro h; cases h)
  | succ n ih => exact fun a2 a3 T  h => s_X12_change_b2 hn9 C M (ih) a2 a3 T  h
noncomputable def f_X12_change (p1 : Int32) (p2 : Int32) (T : Mm) : Option (Int32 × Mm) :=
  f_X12_change_l2 FU p2 p1 T
set_option maxRecDepth 100000 in
set_option maxHeartbeats 4000000 in
theorem s_X12_change {ad : Nat → Nat} {U T : Mm} {q : Int32 × Mm}  (p1 : Int32) (p2 : Int32) (h : f_X12_change p1 p2 T = some q) : Cr 1 yX12_change cX12_change 4 (some .int) [.ref (ad 133), .int p1, .int p2] ad false U T eI q := by
  refine cr_of (by decide) (Nat.le_of_ble_eq_true rfl) fun x S0 hn9 C M => ?_
  have C : CB x RX12 cX12_change := C
  refine Jr.eq (lv' := [(0, .ref (ad 133)), (1, .int p1), (2, .int p2)]) (st' := []) rfl rfl ?_
  unfold f_X12_change at h
  refine r_iload_n C dX12_change_0 rfl 1 rfl ?_
  refine r_istore_n (lv' := [(3, .int p1), (0, .ref (ad 133)), (1, .int p1), (2, .int p2)]) C dX12_change_1 rfl (by rw [hn9]; decide) rfl ?_
  refine Jr.sub [1, 3, 0] (lv' := [(0, .ref (ad 133)), (2, .int p2), (3, .int p1)]) rfl ?_
  exact s_X12_change_l2 hn9 C M  FU p2 p1 T h
theorem dX12_b1_0 : decode cX12_b1 0 = .ok (.aload_n 0, 1) := by decide +kernel
theorem dX12_b1_1 : decode cX12_b1 1 = .ok (.getfield 522, 3) := by decide +kernel
theorem dX12_b1_4 : decode cX12_b1 4 = .ok (.ifCond .eq 7, 3) := by decide +kernel
theorem dX12_b1_7 : decode cX12_b1 7 = .ok (.iconst 0, 1) := by decide +kernel
theorem dX12_b1_8 : decode cX12_b1 8 = .ok (.goto 9, 3) := by decide +kernel
theorem dX12_b1_11 : decode cX12_b1 11 = .ok (.aload_n 0, 1) := by decide +kernel
theorem dX12_b1_12 : decode cX12_b1 12 = .ok (.getfield 525, 3) := by decide +kernel
theorem dX12_b1_15 : decode cX12_b1 15 = .ok (.iconst 1, 1) := by decide +kernel
theorem dX12_b1_16 : decode cX12_b1 16 = .ok (.iadd, 1) := by decide +kernel
theorem dX12_b1_17 : decode cX12_b1 17 = .ok (.istore_n 1, 1) := by decide +kernel
theorem dX12_b1_18 : decode cX12_b1 18 = .ok (.iload_n 1, 1) := by decide +kernel
theorem dX12_b1_19 : decode cX12_b1 19 = .ok (.aload_n 0, 1) := by decide +kernel
theorem dX12_b1_20 : decode cX12_b1 20 = .ok (.getfield 528, 3) := by decide +kernel
theorem dX12_b1_23 : decode cX12_b1 23 = .ok (.if_icmp .ge 49, 3) := by decide +kernel
theorem dX12_b1_26 : decode cX12_b1 26 = .ok (.iload_n 1, 1) := by decide +kernel
theorem dX12_b1_27 : decode cX12_b1 27 = .ok (.ifCond .ne 7, 3) := by decide +kernel
theorem dX12_b1_30 : decode cX12_b1 30 = .ok (.iconst 0, 1) := by decide +kernel
theorem dX12_b1_31 : decode cX12_b1 31 = .ok (.goto 11, 3) := by decide +kernel
theorem dX12_b1_34 : decode cX12_b1 34 = .ok (.aload_n 0, 1) := by decide +kernel
theorem dX12_b1_35 : decode cX12_b1 35 = .ok (.getfield 114, 3) := by decide +kernel
theorem dX12_b1_38 : decode cX12_b1 38 = .ok (.iload_n 1, 1) := by decide +kernel
theorem dX12_b1_39 : decode cX12_b1 39 = .ok (.iconst 1, 1) := by decide +kernel
theorem dX12_b1_40 : decode cX12_b1 40 = .ok (.isub, 1) := by decide +kernel
theorem dX12_b1_41 : decode cX12_b1 41 = .ok (.iaload, 1) := by decide +kernel
theorem dX12_b1_42 : decode cX12_b1 42 = .ok (.istore_n 2, 1) := by decide +kernel
theorem dX12_b1_43 : decode cX12_b1 43 = .ok (.aload_n 0, 1) := by decide +kernel
theorem dX12_b1_44 : decode cX12_b1 44 = .ok (.getfield 114, 3) := by decide +kernel
theorem dX12_b1_47 : decode cX12_b1 47 = .ok (.iload_n 1, 1) := by decide +kernel
theorem dX12_b1_48 : decode cX12_b1 48 = .ok (.iaload, 1) := by decide +kernel
theorem dX12_b1_49 : decode cX12_b1 49 = .ok (.aload_n 0, 1) := by decide +kernel
theorem dX12_b1_50 : decode cX12_b1 50 = .ok (.getfield 531, 3) := by decide +kernel
theorem dX12_b1_53 : decode cX12_b1 53 = .ok (.if_icmp .eq 13, 3) := by decide +kernel
theorem dX12_b1_56 : decode cX12_b1 56 = .ok (.iload_n 2, 1) := by decide +kernel
theorem dX12_b1_57 : decode cX12_b1 57 = .ok (.aload_n 0, 1) := by decide +kernel
theorem dX12_b1_58 : decode cX12_b1 58 = .ok (.getfield 531, 3) := by decide +kernel
theorem dX12_b1_61 : decode cX12_b1 61 = .ok (.if_icmp .ne 5, 3) := by decide +kernel
theorem dX12_b1_64 : decode cX12_b1 64 = .ok (.iload_n 1, 1) := by decide +kernel
theorem dX12_b1_65 : decode cX12_b1 65 = .ok (.ireturn, 1) := by decide +kernel
theorem dX12_b1_66 : decode cX12_b1 66 = .ok (.iinc 1 1, 3) := by decide +kernel
theorem dX12_b1_69 : decode cX12_b1 69 = .ok (.goto (-51), 3) := by decide +kernel
theorem dX12_b1_72 : decode cX12_b1 72 = .ok (.aload_n 0, 1) := by decide +kernel
theorem dX12_b1_73 : decode cX12_b1 73 = .ok (.getfield 528, 3) := by decide +kernel
theorem dX12_b1_76 : decode cX12_b1 76 = .ok (.ireturn, 1) := by decide +kernel
noncomputable def f_X12_b1_42 (k18 : Int32 → Mm → Option (Int32 × Mm)) (a1 : Int32) (b0 : Int32) (T : Mm) : Option (Int32 × Mm) :=
  ix a1 640 fun j1 =>
  if (gA T 167 j1) = (gI T 1263 133) then (k18 (a1 + 1) T)
  else (if b0 = (gI T 1263 133) then (some (a1, T))
  else (k18 (a1 + 1) T))
set_option maxRecDepth 100000 in
set_option maxHeartbeats 4000000 in
theorem s_X12_b1_42 {x : JX} {ad : Nat → Nat} {U : Mm} {S0 : Hp} {q : Int32 × Mm}  {k18 : Int32 → Mm → Option (Int32 × Mm)} (hn9 : x_n x = 3) (C : CB x RX12 cX12_b1) (M : CMr x 1 (some .int) S0 ad false U eI q) (hk18 : ∀ (a1 : Int32) (T : Mm), k18 a1 T = some q → Jr x ad false U T [(0, .ref (ad 133)), (1, .int a1)] 18 []) (a1 : Int32) (b0 : Int32) (T : Mm) (h : f_X12_b1_42 k18 a1 b0 T = some q) : Jr x ad false U T [(0, .ref (ad 133)), (1, .int a1)] 42 [.int b0] := by
  unfold f_X12_b1_42 at h
  refine r_istore_n (lv' := [(2, .int b0), (0, .ref (ad 133)), (1, .int a1)]) C dX12_b1_42 rfl (by rw [hn9]; decide) rfl ?_
  refine r_aload_n C dX12_b1_43 rfl 1 rfl ?_
  refine r_getp (f := 1258) (j := 167) C flX12_114 dX12_b1_44 kq_133 (by decide) rfl (fun W => pt_1258 kq_133 W) ?_
  refine r_iload_n C dX12_b1_47 rfl 2 rfl ?_
  refine r_iald (n := 640) C dX12_b1_48 kq_167 lq_167 h (fun j1 hj2 h => ?_)
  show Jr _ _ _ _ _ _ 49 _
  refine r_aload_n C dX12_b1_49 rfl 1 rfl ?_
  refine r_geti (f := 1263) C flX12_531 dX12_b1_50 kq_133 (by decide) (by decide) rfl ?_
  refine r_ic_eq (tgt := 66) C dX12_b1_53 (by decide) h (fun h => ?_) (fun h => ?_)
  · refine r_iinc (q := 2) (v := (a1 + 1)) (lv' := [(1, .int (a1 + 1)), (2, .int b0), (0, .ref (ad 133))]) C dX12_b1_66 rfl (by rw [show Int32.ofInt (1) = 1 by decide]) (by rw [hn9]; decide) rfl ?_
    refine r_goto (tgt := 18) C dX12_b1_69 (by decide) ?_
    refine Jr.sub [2, 0] (lv' := [(0, .ref (ad 133)), (1, .int (a1 + 1))]) rfl ?_
    exact hk18 (a1 + 1) T h
  · refine r_iload_n C dX12_b1_56 rfl 0 rfl ?_
    refine r_aload_n C dX12_b1_57 rfl 1 rfl ?_
    refine r_geti (f := 1263) C flX12_531 dX12_b1_58 kq_133 (by decide) (by decide) rfl ?_
    refine r_ic_ne (tgt := 66) C dX12_b1_61 (by decide) h (fun h => ?_) (fun h => ?_)
    · refine r_iinc (q := 2) (v := (a1 + 1)) (lv' := [(1, .int (a1 + 1)), (2, .int b0), (0, .ref (ad 133))]) C dX12_b1_66 rfl (by rw [show Int32.ofInt (1) = 1 by decide]) (by rw [hn9]; decide) rfl ?_
      refine r_goto (tgt := 18) C dX12_b1_69 (by decide) ?_
      refine Jr.sub [2, 0] (lv' := [(0, .ref (ad 133)), (1, .int (a1 + 1))]) rfl ?_
      exact hk18 (a1 + 1) T h
    · refine r_iload_n C dX12_b1_64 rfl 2 rfl ?_
      exact r_iret C M dX12_b1_65 h
noncomputable def f_X12_b1_b18 (k18 : Int32 → Mm → Option (Int32 × Mm)) (a1 : Int32) (T : Mm) : Option (Int32 × Mm) :=
  if (gI T 1260 133) ≤ a1 then (some ((gI T 1260 133), T))
  else (if a1 = 0 then (f_X12_b1_42 k18 a1 0 T)
  else (ix (a1 - 1) 640 fun j1 =>
  f_X12_b1_42 k18 a1 (gA T 167 j1) T))
set_option maxRecDepth 100000 in
set_option maxHeartbeats 4000000 in
theorem s_X12_b1_b18 {x : JX} {ad : Nat → Nat} {U : Mm} {S0 : Hp} {q : Int32 × Mm}  {k18 : Int32 → Mm → Option (Int32 × Mm)} (hn9 : x_n x = 3) (C : CB x RX12 cX12_b1) (M : CMr x 1 (some .int) S0 ad false U eI q) (hk18 : ∀ (a1 : Int32) (T : Mm), k18 a1 T = some q → Jr x ad false U T [(0, .ref (ad 133)), (1, .int a1)] 18 []) (a1 : Int32) (T : Mm) (h : f_X12_b1_b18 k18 a1 T = some q) : Jr x ad false U T [(0, .ref (ad 133)), (1, .int a1)] 18 [] := by
  unfold f_X12_b1_b18 at h
  refine r_iload_n C dX12_b1_18 rfl 1 rfl ?_
  refine r_aload_n C dX12_b1_19 rfl 0 rfl ?_
  refine r_geti (f := 1260) C flX12_528 dX12_b1_20 kq_133 (by decide) (by decide) rfl ?_
  refine r_ic_ge (tgt := 72) C dX12_b1_23 (by decide) h (fun h => ?_) (fun h => ?_)
  · refine r_aload_n C dX12_b1_72 rfl 0 rfl ?_
    refine r_geti (f := 1260) C flX12_528 dX12_b1_73 kq_133 (by decide) (by decide) rfl ?_
    exact r_iret C M dX12_b1_76 h
  · refine r_iload_n C dX12_b1_26 rfl 1 rfl ?_
    refine r_if_ne (tgt := 34) C dX12_b1_27 (by decide) h (fun h => ?_) (fun h => ?_)
    · refine r_aload_n C dX12_b1_34 rfl 0 rfl ?_
      refine r_getp (f := 1258) (j := 167) C flX12_114 dX12_b1_35 kq_133 (by decide) rfl (fun W => pt_1258 kq_133 W) ?_
      refine r_iload_n C dX12_b1_38 rfl 1 rfl ?_
      refine r_iconst (v := 1) C dX12_b1_39 (by decide) ?_
      refine r_isub C dX12_b1_40 rfl ?_
      show Jr _ _ _ _ _ _ 41 _
      refine r_iald (n := 640) C dX12_b1_41 kq_167 lq_167 h (fun j1 hj2 h => ?_)
      exact s_X12_b1_42 hn9 C M hk18 a1 (gA T 167 j1) T h
    · refine r_iconst (v := 0) C dX12_b1_30 (by decide) ?_
      refine r_goto (tgt := 42) C dX12_b1_31 (by decide) ?_
      exact s_X12_b1_42 hn9 C M hk18 a1 0 T h
noncomputable def f_X12_b1_l18 (n : Nat) : Int32 → Mm → Option (Int32 × Mm) := Nat.rec (fun _ _ => none) (fun _ ih => f_X12_b1_b18 ih) n
theorem s_X12_b1_l18 {x : JX} {ad : Nat → Nat} {U : Mm} {S0 : Hp} {q : Int32 × Mm}  (hn9 : x_n x = 3) (C : CB x RX12 cX12_b1) (M : CMr x 1 (some .int) S0 ad false U eI q) : ∀ (n : Nat), ∀ (a1 : Int32) (T : Mm), f_X12_b1_l18  n a1 T = some q → Jr x ad false U T [(0, .ref (ad 133)), (1, .int a1)] 18 [] := by
  intro n
  induction n with
  | zero => intro a1 T  h; exact absurd h (by intro h; cases h)
  | succ n ih => exact fun a1 T  h => s_X12_b1_b18 hn9 C M (ih) a1 T  h
noncomputable def f_X12_b1 (T : Mm) : Option (Int32 × Mm) :=
  if (gI T 1262 133) = 0 then (lb (((gI T 1261 133) + 1)) fun v1 =>
  f_X12_b1_l18 FU v1 T)
  else (f_X12_b1_l18 FU 0 T)
set_option maxRecDepth 100000 in
set_option maxHeartbeats 4000000 in
theorem s_X12_b1 {ad : Nat → Nat} {U T : Mm} {q : Int32 × Mm}  (h : f_X12_b1  T = some q) : Cr 1 yX12_b1 cX12_b1 3 (some .int) [.ref (ad 133)] ad false U T eI q := by
  refine cr_of (by decide) (Nat.le_of_ble_eq_true rfl) fun x S0 hn9 C M => ?_
  have C : CB x RX12 cX12_b1 := C
  refine Jr.eq (lv' := [(0, .ref (ad 133))]) (st' := []) rfl rfl ?_
  unfold f_X12_b1 at h
  refine r_aload_n C dX12_b1_0 rfl 0 rfl ?_
  refine r_geti (f := 1262) C flX12_522 dX12_b1_1 kq_133 (by decide) (by decide) rfl ?_
  refine r_if_eq (tgt := 11) C dX12_b1_4 (by decide) h (fun h => ?_) (fun h => ?_)
  · refine r_aload_n C dX12_b1_11 rfl 0 rfl ?_
    refine r_geti (f := 1261) C flX12_525 dX12_b1_12 kq_133 (by decide) (by decide) rfl ?_
    refine r_iconst (v := 1) C dX12_b1_15 (by decide) ?_
    refine r_iadd C dX12_b1_16 rfl ?_
    refine r_lbI h (fun v1 h => ?_)
    refine r_istore_n (lv' := [(1, .int v1), (0, .ref (ad 133))]) C dX12_b1_17 rfl (by rw [hn9]; decide) rfl ?_
    refine Jr.sub [1, 0] (lv' := [(0, .ref (ad 133)), (1, .int v1)]) rfl ?_
    exact s_X12_b1_l18 hn9 C M  FU v1 T h
  · refine r_iconst (v := 0) C dX12_b1_7 (by decide) ?_
    refine r_goto (tgt := 17) C dX12_b1_8 (by decide) ?_
    refine r_istore_n (lv' := [(1, .int 0), (0, .ref (ad 133))]) C dX12_b1_17 rfl (by rw [hn9]; decide) rfl ?_
    refine Jr.sub [1, 0] (lv' := [(0, .ref (ad 133)), (1, .int 0)]) rfl ?_
    exact s_X12_b1_l18 hn9 C M  FU 0 T h
theorem dX12_b2_0 : decode cX12_b2 0 = .ok (.iload_n 1, 1) := by decide +kernel
theorem dX12_b2_1 : decode cX12_b2 1 = .ok (.iconst 1, 1) := by decide +kernel
theorem dX12_b2_2 : decode cX12_b2 2 = .ok (.iadd, 1) := by decide +kernel
theorem dX12_b2_3 : decode cX12_b2 3 = .ok (.istore_n 2, 1) := by decide +kernel
theorem dX12_b2_4 : decode cX12_b2 4 = .ok (.iload_n 2, 1) := by decide +kernel
theorem dX12_b2_5 : decode cX12_b2 5 = .ok (.aload_n 0, 1) := by decide +kernel
theorem dX12_b2_6 : decode cX12_b2 6 = .ok (.getfield 528, 3) := by decide +kernel
theorem dX12_b2_9 : decode cX12_b2 9 = .ok (.if_icmp .ge 24, 3) := by decide +kernel
theorem dX12_b2_12 : decode cX12_b2 12 = .ok (.aload_n 0, 1) := by decide +kernel
theorem dX12_b2_13 : decode cX12_b2 13 = .ok (.getfield 114, 3) := by decide +kernel
theorem dX12_b2_16 : decode cX12_b2 16 = .ok (.iload_n 2, 1) := by decide +kernel
theorem dX12_b2_17 : decode cX12_b2 17 = .ok (.iaload, 1) := by decide +kernel
theorem dX12_b2_18 : decode cX12_b2 18 = .ok (.aload_n 0, 1) := by decide +kernel
theorem dX12_b2_19 : decode cX12_b2 19 = .ok (.getfield 114, 3) := by decide +kernel
theorem dX12_b2_22 : decode cX12_b2 22 = .ok (.iload_n 1, 1) := by decide +kernel
theorem dX12_b2_23 : decode cX12_b2 23 = .ok (.iaload, 1) := by decide +kernel
theorem dX12_b2_24 : decode cX12_b2 24 = .ok (.if_icmp .ne 9, 3) := by decide +kernel
theorem dX12_b2_27 : decode cX12_b2 27 = .ok (.iinc 2 1, 3) := by decide +kernel
theorem dX12_b2_30 : decode cX12_b2 30 = .ok (.goto (-26), 3) := by decide +kernel
theorem dX12_b2_33 : decode cX12_b2 33 = .ok (.iload_n 1, 1) := by decide +kernel
theorem dX12_b2_34 : decode cX12_b2 34 = .ok (.aload_n 0, 1) := by decide +kernel
theorem dX12_b2_35 : decode cX12_b2 35 = .ok (.getfield 528, 3) := by decide +kernel
theorem dX12_b2_38 : decode cX12_b2 38 = .ok (.if_icmp .lt 10, 3) := by decide +kernel
theorem dX12_b2_41 : decode cX12_b2 41 = .ok (.aload_n 0, 1) := by decide +kernel
theorem dX12_b2_42 : decode cX12_b2 42 = .ok (.getfield 528, 3) := by decide +kernel
theorem dX12_b2_45 : decode cX12_b2 45 = .ok (.goto 4, 3) := by decide +kernel
theorem dX12_b2_48 : decode cX12_b2 48 = .ok (.iload_n 2, 1) := by decide +kernel
theorem dX12_b2_49 : decode cX12_b2 49 = .ok (.ireturn, 1) := by decide +kernel
noncomputable def f_X12_b2_33 (a1 : Int32) (a2 : Int32) (T : Mm) : Option (Int32 × Mm) :=
  if a1 < (gI T 1260 133) then (some (a2, T))
  else (some ((gI T 1260 133), T))
set_option maxRecDepth 100000 in
set_option maxHeartbeats 4000000 in
theorem s_X12_b2_33 {x : JX} {ad : Nat → Nat} {U : Mm} {S0 : Hp} {q : Int32 × Mm}  (hn9 : x_n x = 3) (C : CB x RX12 cX12_b2) (M : CMr x 1 (some .int) S0 ad false U eI q) (a1 : Int32) (a2 : Int32) (T : Mm) (h : f_X12_b2_33  a1 a2 T = some q) : Jr x ad false U T [(0, .ref (ad 133)), (1, .int a1), (2, .int a2)] 33 [] := by
  unfold f_X12_b2_33 at h
  refine r_iload_n C dX12_b2_33 rfl 1 rfl ?_
  refine r_aload_n C dX12_b2_34 rfl 0 rfl ?_
  refine r_geti (f := 1260) C flX12_528 dX12_b2_35 kq_133 (by decide) (by decide) rfl ?_
  refine r_ic_lt (tgt := 48) C dX12_b2_38 (by decide) h (fun h => ?_) (fun h => ?_)
  · refine r_iload_n C dX12_b2_48 rfl 2 rfl ?_
    exact r_iret C M dX12_b2_49 h
  · refine r_aload_n C dX12_b2_41 rfl 0 rfl ?_
    refine r_geti (f := 1260) C flX12_528 dX12_b2_42 kq_133 (by decide) (by decide) rfl ?_
    refine r_goto (tgt := 49) C dX12_b2_45 (by decide) ?_
    exact r_iret C M dX12_b2_49 h
noncomputable def f_X12_b2_b4 (k4 : Int32 → Int32 → Mm → Option (Int32 × Mm)) (a1 : Int32) (a2 : Int32) (T : Mm) : Option (Int32 × Mm) :=
  if (gI T 1260 133) ≤ a2 then (f_X12_b2_33 a1 a2 T)
  else (ix a2 640 fun j1 =>
  ix a1 640 fun j3 =>
  if (gA T 167 j1) = (gA T 167 j3) then (k4 a1 (a2 + 1) T)
  else (f_X12_b2_33 a1 a2 T))
set_option maxRecDepth 100000 in
set_option maxHeartbeats 4000000 in
theorem s_X12_b2_b4 {x : JX} {ad : Nat → Nat} {U : Mm} {S0 : Hp} {q : Int32 × Mm}  {k4 : Int32 → Int32 → Mm → Option (Int32 × Mm)} (hn9 : x_n x = 3) (C : CB x RX12 cX12_b2) (M : CMr x 1 (some .int) S0 ad false U eI q) (hk4 : ∀ (a1 : Int32) (a2 : Int32) (T : Mm), k4 a1 a2 T = some q → Jr x ad false U T [(0, .ref (ad 133)), (1, .int a1), (2, .int a2)] 4 []) (a1 : Int32) (a2 : Int32) (T : Mm) (h : f_X12_b2_b4 k4 a1 a2 T = some q) : Jr x ad false U T [(0, .ref (ad 133)), (1, .int a1), (2, .int a2)] 4 [] := by
  unfold f_X12_b2_b4 at h
  refine r_iload_n C dX12_b2_4 rfl 2 rfl ?_
  refine r_aload_n C dX12_b2_5 rfl 0 rfl ?_
  refine r_geti (f := 1260) C flX12_528 dX12_b2_6 kq_133 (by decide) (by decide) rfl ?_
  refine r_ic_ge (tgt := 33) C dX12_b2_9 (by decide) h (fun h => ?_) (fun h => ?_)
  · exact s_X12_b2_33 hn9 C M  a1 a2 T h
  · refine r_aload_n C dX12_b2_12 rfl 0 rfl ?_
    refine r_getp (f := 1258) (j := 167) C flX12_114 dX12_b2_13 kq_133 (by decide) rfl (fun W => pt_1258 kq_133 W) ?_
    refine r_iload_n C dX12_b2_16 rfl 2 rfl ?_
    refine r_iald (n := 640) C dX12_b2_17 kq_167 lq_167 h (fun j1 hj2 h => ?_)
    refine r_aload_n C dX12_b2_18 rfl 0 rfl ?_
    show Jr _ _ _ _ _ _ 19 _
    refine r_getp (f := 1258) (j := 167) C flX12_114 dX12_b2_19 kq_133 (by decide) rfl (fun W => pt_1258 kq_133 W) ?_
    refine r_iload_n C dX12_b2_22 rfl 1 rfl ?_
    refine r_iald (n := 640) C dX12_b2_23 kq_167 lq_167 h (fun j3 hj4 h => ?_)
    refine r_ic_ne (tgt := 33) C dX12_b2_24 (by decide) h (fun h => ?_) (fun h => ?_)
    · exact s_X12_b2_33 hn9 C M  a1 a2 T h
    · refine r_iinc (q := 2) (v := (a2 + 1)) (lv' := [(2, .int (a2 + 1)), (0, .ref (ad 133)), (1, .int a1)]) C dX12_b2_27 rfl (by rw [show Int32.ofInt (1) = 1 by decide]) (by rw [hn9]; decide) rfl ?_
      refine r_goto (tgt := 4) C dX12_b2_30 (by decide) ?_
      refine Jr.sub [1, 2, 0] (lv' := [(0, .ref (ad 133)), (1, .int a1), (2, .int (a2 + 1))]) rfl ?_
      exact hk4 a1 (a2 + 1) T h
noncomputable def f_X12_b2_l4 (n : Nat) : Int32 → Int32 → Mm → Option (Int32 × Mm) := Nat.rec (fun _ _ _ => none) (fun _ ih => f_X12_b2_b4 ih) n
theorem s_X12_b2_l4 {x : JX} {ad : Nat → Nat} {U : Mm} {S0 : Hp} {q : Int32 × Mm}  (hn9 : x_n x = 3) (C : CB x RX12 cX12_b2) (M : CMr x 1 (some .int) S0 ad false U eI q) : ∀ (n : Nat), ∀ (a1 : Int32) (a2 : Int32) (T : Mm), f_X12_b2_l4  n a1 a2 T = some q → Jr x ad false U T [(0, .ref (ad 133)), (1, .int a1), (2, .int a2)] 4 [] := by
  intro n
  induction n with
  | zero => intro a1 a2 T  h; exact absurd h (by intro h; cases h)
  | succ n ih => exact fun a1 a2 T  h => s_X12_b2_b4 hn9 C M (ih) a1 a2 T  h
noncomputable def f_X12_b2 (p1 : Int32) (T : Mm) : Option (Int32 × Mm) :=
  lb ((p1 + 1)) fun v1 =>
  f_X12_b2_l4 FU p1 v1 T
set_option maxRecDepth 100000 in
set_option maxHeartbeats 4000000 in
theorem s_X12_b2 {ad : Nat → Nat} {U T : Mm} {q : Int32 × Mm}  (p1 : Int32) (h : f_X12_b2 p1 T = some q) : Cr 1 yX12_b2 cX12_b2 3 (some .int) [.ref (ad 133), .int p1] ad false U T eI q := by
  refine cr_of (by decide) (Nat.le_of_ble_eq_true rfl) fun x S0 hn9 C M => ?_
  have C : CB x RX12 cX12_b2 := C
  refine Jr.eq (lv' := [(0, .ref (ad 133)), (1, .int p1)]) (st' := []) rfl rfl ?_
  unfold f_X12_b2 at h
  refine r_iload_n C dX12_b2_0 rfl 1 rfl ?_
  refine r_iconst (v := 1) C dX12_b2_1 (by decide) ?_
  refine r_iadd C dX12_b2_2 rfl ?_
  refine r_lbI h (fun v1 h => ?_)
  refine r_istore_n (lv' := [(2, .int v1), (0, .ref (ad 133)), (1, .int p1)]) C dX12_b2_3 rfl (by rw [hn9]; decide) rfl ?_
  refine Jr.sub [1, 2, 0] (lv' := [(0, .ref (ad 133)), (1, .int p1), (2, .int v1)]) rfl ?_
  exact s_X12_b2_l4 hn9 C M  FU p1 v1 T h
theorem dX12_bits_0 : decode cX12_bits 0 = .ok (.iload_n 1, 1) := by decide +kernel
theorem dX12_bits_1 : decode cX12_bits 1 = .ok (.iconst 1, 1) := by decide +kernel
theorem dX12_bits_2 : decode cX12_bits 2 = .ok (.isub, 1) := by decide +kernel
theorem dX12_bits_3 : decode cX12_bits 3 = .ok (.istore_n 3, 1) := by decide +kernel
theorem dX12_bits_4 : decode cX12_bits 4 = .ok (.iload_n 3, 1) := by decide +kernel
theorem dX12_bits_5 : decode cX12_bits 5 = .ok (.ifCond .lt 62, 3) := by decide +kernel
theorem dX12_bits_8 : decode cX12_bits 8 = .ok (.aload_n 0, 1) := by decide +kernel
theorem dX12_bits_9 : decode cX12_bits 9 = .ok (.aload_n 0, 1) := by decide +kernel
theorem dX12_bits_10 : decode cX12_bits 10 = .ok (.getfield 534, 3) := by decide +kernel
theorem dX12_bits_13 : decode cX12_bits 13 = .ok (.iconst 1, 1) := by decide +kernel
theorem dX12_bits_14 : decode cX12_bits 14 = .ok (.ishl, 1) := by decide +kernel
theorem dX12_bits_15 : decode cX12_bits 15 = .ok (.iload_n 2, 1) := by decide +kernel
theorem dX12_bits_16 : decode cX12_bits 16 = .ok (.iload_n 3, 1) := by decide +kernel
theorem dX12_bits_17 : decode cX12_bits 17 = .ok (.ishr, 1) := by decide +kernel
theorem dX12_bits_18 : decode cX12_bits 18 = .ok (.iconst 1, 1) := by decide +kernel
theorem dX12_bits_19 : decode cX12_bits 19 = .ok (.iand, 1) := by decide +kernel
theorem dX12_bits_20 : decode cX12_bits 20 = .ok (.ior, 1) := by decide +kernel
theorem dX12_bits_21 : decode cX12_bits 21 = .ok (.putfield 534, 3) := by decide +kernel
theorem dX12_bits_24 : decode cX12_bits 24 = .ok (.aload_n 0, 1) := by decide +kernel
theorem dX12_bits_25 : decode cX12_bits 25 = .ok (.dup, 1) := by decide +kernel
theorem dX12_bits_26 : decode cX12_bits 26 = .ok (.getfield 537, 3) := by decide +kernel
theorem dX12_bits_29 : decode cX12_bits 29 = .ok (.iconst 1, 1) := by decide +kernel
theorem dX12_bits_30 : decode cX12_bits 30 = .ok (.iadd, 1) := by decide +kernel
theorem dX12_bits_31 : decode cX12_bits 31 = .ok (.putfield 537, 3) := by decide +kernel
theorem dX12_bits_34 : decode cX12_bits 34 = .ok (.aload_n 0, 1) := by decide +kernel
theorem dX12_bits_35 : decode cX12_bits 35 = .ok (.getfield 537, 3) := by decide +kernel
theorem dX12_bits_38 : decode cX12_bits 38 = .ok (.bipush 8, 2) := by decide +kernel
theorem dX12_bits_40 : decode cX12_bits 40 = .ok (.if_icmp .ne 21, 3) := by decide +kernel
theorem dX12_bits_43 : decode cX12_bits 43 = .ok (.aload_n 0, 1) := by decide +kernel
theorem dX12_bits_44 : decode cX12_bits 44 = .ok (.aload_n 0, 1) := by decide +kernel
theorem dX12_bits_45 : decode cX12_bits 45 = .ok (.getfield 534, 3) := by decide +kernel
theorem dX12_bits_48 : decode cX12_bits 48 = .ok (.invokevirtual 540, 3) := by decide +kernel
theorem dX12_bits_51 : decode cX12_bits 51 = .ok (.aload_n 0, 1) := by decide +kernel
theorem dX12_bits_52 : decode cX12_bits 52 = .ok (.iconst 0, 1) := by decide +kernel
theorem dX12_bits_53 : decode cX12_bits 53 = .ok (.putfield 537, 3) := by decide +kernel
theorem dX12_bits_56 : decode cX12_bits 56 = .ok (.aload_n 0, 1) := by decide +kernel
theorem dX12_bits_57 : decode cX12_bits 57 = .ok (.iconst 0, 1) := by decide +kernel
theorem dX12_bits_58 : decode cX12_bits 58 = .ok (.putfield 534, 3) := by decide +kernel
theorem dX12_bits_61 : decode cX12_bits 61 = .ok (.iinc 3 (-1), 3) := by decide +kernel
theorem dX12_bits_64 : decode cX12_bits 64 = .ok (.goto (-60), 3) := by decide +kernel
theorem dX12_bits_67 : decode cX12_bits 67 = .ok (.return_, 1) := by decide +kernel
noncomputable def f_X12_bits_b4 (k4 : Int32 → Int32 → Mm → Option (Unit × Mm)) (a2 : Int32) (a3 : Int32) (T : Mm) : Option (Unit × Mm) :=
  if a3 < 0 then (some ((), T))
  else (lb (uI T 1265 133 (((gI T 1265 133) <<< ((1 : Int32) &&& 31)) ||| ((a2 >>> (a3 &&& 31)) &&& 1))) fun T1 =>
  lb (uI T1 1264 133 ((gI T1 1264 133) + 1)) fun T2 =>
  if (gI T2 1264 133) = 8 then (bd (f_X12_outByte (gI T2 1265 133) T2) fun _ T3 =>
  lb (uI T3 1264 133 0) fun T4 =>
  lb (uI T4 1265 133 0) fun T5 =>
  k4 a2 (a3 + (-1)) T5)
  else (k4 a2 (a3 + (-1)) T2))
set_option maxRecDepth 100000 in
set_option maxHeartbeats 4000000 in
theorem s_X12_bits_b4 {x : JX} {ad : Nat → Nat} {U : Mm} {S0 : Hp} {q : Unit × Mm}  {k4 : Int32 → Int32 → Mm → Option (Unit × Mm)} (hn9 : x_n x = 4) (C : CB x RX12 cX12_bits) (M : CMr x 2 none S0 ad false U eV q) (hk4 : ∀ (a2 : Int32) (a3 : Int32) (T : Mm), k4 a2 a3 T = some q → Jr x ad false U T [(0, .ref (ad 133)), (2, .int a2), (3, .int a3)] 4 []) (a2 : Int32) (a3 : Int32) (T : Mm) (h : f_X12_bits_b4 k4 a2 a3 T = some q) : Jr x ad false U T [(0, .ref (ad 133)), (2, .int a2), (3, .int a3)] 4 [] := by
  unfold f_X12_bits_b4 at h
  refine r_iload_n C dX12_bits_4 rfl 2 rfl ?_
  refine r_if_lt (tgt := 67) C dX12_bits_5 (by decide) h (fun h => ?_) (fun h => ?_)
  · exact r_vret C M dX12_bits_67 h
  · refine r_aload_n C dX12_bits_8 rfl 0 rfl ?_
    refine r_aload_n C dX12_bits_9 rfl 0 rfl ?_
    refine r_geti (f := 1265) C flX12_534 dX12_bits_10 kq_133 (by decide) (by decide) rfl ?_
    refine r_iconst (v := 1) C dX12_bits_13 (by decide) ?_
    refine r_ishl C dX12_bits_14 rfl ?_
    show Jr _ _ _ _ _ _ 15 _
    refine r_iload_n C dX12_bits_15 rfl 1 rfl ?_
    refine r_iload_n C dX12_bits_16 rfl 2 rfl ?_
    refine r_ishr C dX12_bits_17 rfl ?_
    refine r_iconst (v := 1) C dX12_bits_18 (by decide) ?_
    refine r_iand C dX12_bits_19 rfl ?_
    refine r_ior C dX12_bits_20 rfl ?_
    show Jr _ _ _ _ _ _ 21 _
    refine r_puti (f := 1265) C flX12_534 (by decide) rfl rfl dX12_bits_21 kq_133 rfl h (fun T1 h => ?_)
    refine r_aload_n C dX12_bits_24 rfl 0 rfl ?_
    refine r_dup C dX12_bits_25 rfl ?_
    refine r_geti (f := 1264) C flX12_537 dX12_bits_26 kq_133 (by decide) (by decide) rfl ?_
    refine r_iconst (v := 1) C dX12_bits_29 (by decide) ?_
    refine r_iadd C dX12_bits_30 rfl ?_
    show Jr _ _ _ _ _ _ 31 _
    refine r_puti (f := 1264) C flX12_537 (by decide) rfl rfl dX12_bits_31 kq_133 rfl h (fun T2 h => ?_)
    refine r_aload_n C dX12_bits_34 rfl 0 rfl ?_
    refine r_geti (f := 1264) C flX12_537 dX12_bits_35 kq_133 (by decide) (by decide) rfl ?_
    refine r_bipush (v := 8) C dX12_bits_38 (by decide) ?_
    refine r_ic_ne (tgt := 61) C dX12_bits_40 (by decide) h (fun h => ?_) (fun h => ?_)
    · refine r_iinc (q := 2) (v := (a3 + (-1))) (lv' := [(3, .int (a3 + (-1))), (0, .ref (ad 133)), (2, .int a2)]) C dX12_bits_61 rfl (by rw [show Int32.ofInt (-1) = (-1) by decide]) (by rw [hn9]; decide) rfl ?_
      refine r_goto (tgt := 4) C dX12_bits_64 (by decide) ?_
      refine Jr.sub [1, 2, 0] (lv' := [(0, .ref (ad 133)), (2, .int a2), (3, .int (a3 + (-1)))]) rfl ?_
      exact hk4 a2 (a3 + (-1)) T2 h
    · refine r_aload_n C dX12_bits_43 rfl 0 rfl ?_
      refine r_aload_n C dX12_bits_44 rfl 0 rfl ?_
      refine r_geti (f := 1265) C flX12_534 dX12_bits_45 kq_133 (by decide) (by decide) rfl ?_
      refine r_callVN C M h [.int (gI T2 1265 133)] [] mlX12_540 mcX12_outByte (fun q9 e9 => s_X12_outByte (gI T2 1265 133)  e9) kq_133 rfl (by decide) (by decide) rfl rfl (Nat.le_of_ble_eq_true rfl) dX12_bits_48 (fun _ T3 h => ?_)
      refine r_aload_n C dX12_bits_51 rfl 0 rfl ?_
      show Jr _ _ _ _ _ _ 52 _
      refine r_iconst (v := 0) C dX12_bits_52 (by decide) ?_
      refine r_puti (f := 1264) C flX12_537 (by decide) rfl rfl dX12_bits_53 kq_133 rfl h (fun T4 h => ?_)
      refine r_aload_n C dX12_bits_56 rfl 0 rfl ?_
      refine r_iconst (v := 0) C dX12_bits_57 (by decide) ?_
      refine r_puti (f := 1265) C flX12_534 (by decide) rfl rfl dX12_bits_58 kq_133 rfl h (fun T5 h => ?_)
      refine r_iinc (q := 2) (v := (a3 + (-1))) (lv' := [(3, .int (a3 + (-1))), (0, .ref (ad 133)), (2, .int a2)]) C dX12_bits_61 rfl (by rw [show Int32.ofInt (-1) = (-1) by decide]) (by rw [hn9]; decide) rfl ?_
      show Jr _ _ _ _ _ _ 64 _
      refine r_goto (tgt := 4) C dX12_bits_64 (by decide) ?_
      refine Jr.sub [1, 2, 0] (lv' := [(0, .ref (ad 133)), (2, .int a2), (3, .int (a3 + (-1)))]) rfl ?_
      exact hk4 a2 (a3 + (-1)) T5 h
noncomputable def f_X12_bits_l4 (n : Nat) : Int32 → Int32 → Mm → Option (Unit × Mm) := Nat.rec (fun _ _ _ => none) (fun _ ih => f_X12_bits_b4 ih) n
theorem s_X12_bits_l4 {x : JX} {ad : Nat → Nat} {U : Mm} {S0 : Hp} {q : Unit × Mm}  (hn9 : x_n x = 4) (C : CB x RX12 cX12_bits) (M : CMr x 2 none S0 ad false U eV q) : ∀ (n : Nat), ∀ (a2 : Int32) (a3 : Int32) (T : Mm), f_X12_bits_l4  n a2 a3 T = some q → Jr x ad false U T [(0, .ref (ad 133)), (2, .int a2), (3, .int a3)] 4 [] := by
  intro n
  induction n with
  | zero => intro a2 a3 T  h; exact absurd h (by intro h; cases h)
  | succ n ih => exact fun a2 a3 T  h => s_X12_bits_b4 hn9 C M (ih) a2 a3 T  h
noncomputable def f_X12_bits (p1 : Int32) (p2 : Int32) (T : Mm) : Option (Unit × Mm) :=
  lb ((p1 - 1)) fun v1 =>
  f_X12_bits_l4 FU p2 v1 T
set_option maxRecDepth 100000 in
set_option maxHeartbeats 4000000 in
theorem s_X12_bits {ad : Nat → Nat} {U T : Mm} {q : Unit × Mm}  (p1 : Int32) (p2 : Int32) (h : f_X12_bits p1 p2 T = some q) : Cr 2 yX12_bits cX12_bits 4 none [.ref (ad 133), .int p1, .int p2] ad false U T eV q := by
  refine cr_of (by decide) (Nat.le_of_ble_eq_true rfl) fun x S0 hn9 C M => ?_
  have C : CB x RX12 cX12_bits := C
  refine Jr.eq (lv' := [(0, .ref (ad 133)), (1, .int p1), (2, .int p2)]) (st' := []) rfl rfl ?_
  unfold f_X12_bits at h
  refine r_iload_n C dX12_bits_0 rfl 1 rfl ?_
  refine r_iconst (v := 1) C dX12_bits_1 (by decide) ?_
  refine r_isub C dX12_bits_2 rfl ?_
  refine r_lbI h (fun v1 h => ?_)
  refine r_istore_n (lv' := [(3, .int v1), (0, .ref (ad 133)), (1, .int p1), (2, .int p2)]) C dX12_bits_3 rfl (by rw [hn9]; decide) rfl ?_
  refine Jr.sub [1, 3, 0] (lv' := [(0, .ref (ad 133)), (2, .int p2), (3, .int v1)]) rfl ?_
  exact s_X12_bits_l4 hn9 C M  FU p2 v1 T h
theorem dX12_writeRun_0 : decode cX12_writeRun 0 = .ok (.iload_n 2, 1) := by decide +kernel
theorem dX12_writeRun_1 : decode cX12_writeRun 1 = .ok (.bipush 64, 2) := by decide +kernel
theorem dX12_writeRun_3 : decode cX12_writeRun 3 = .ok (.if_icmp .lt 41, 3) := by decide +kernel
theorem dX12_writeRun_6 : decode cX12_writeRun 6 = .ok (.aload_n 0, 1) := by decide +kernel
theorem dX12_writeRun_7 : decode cX12_writeRun 7 = .ok (.aload_n 0, 1) := by decide +kernel
theorem dX12_writeRun_8 : decode cX12_writeRun 8 = .ok (.getfield 108, 3) := by decide +kernel
theorem dX12_writeRun_11 : decode cX12_writeRun 11 = .ok (.bipush 74, 2) := by decide +kernel
theorem dX12_writeRun_13 : decode cX12_writeRun 13 = .ok (.iload_n 1, 1) := by decide +kernel
theorem dX12_writeRun_14 : decode cX12_writeRun 14 = .ok (.imul, 1) := by decide +kernel
theorem dX12_writeRun_15 : decode cX12_writeRun 15 = .ok (.bipush 63, 2) := by decide +kernel
theorem dX12_writeRun_17 : decode cX12_writeRun 17 = .ok (.iadd, 1) := by decide +kernel
theorem dX12_writeRun_18 : decode cX12_writeRun 18 = .ok (.iload_n 2, 1) := by decide +kernel
theorem dX12_writeRun_19 : decode cX12_writeRun 19 = .ok (.bipush 64, 2) := by decide +kernel
theorem dX12_writeRun_21 : decode cX12_writeRun 21 = .ok (.idiv, 1) := by decide +kernel
theorem dX12_writeRun_22 : decode cX12_writeRun 22 = .ok (.iadd, 1) := by decide +kernel
theorem dX12_writeRun_23 : decode cX12_writeRun 23 = .ok (.iaload, 1) := by decide +kernel
theorem dX12_writeRun_24 : decode cX12_writeRun 24 = .ok (.aload_n 0, 1) := by decide +kernel
theorem dX12_writeRun_25 : decode cX12_writeRun 25 = .ok (.getfield 111, 3) := by decide +kernel
theorem dX12_writeRun_28 : decode cX12_writeRun 28 = .ok (.bipush 74, 2) := by decide +kernel
theorem dX12_writeRun_30 : decode cX12_writeRun 30 = .ok (.iload_n 1, 1) := by decide +kernel
theorem dX12_writeRun_31 : decode cX12_writeRun 31 = .ok (.imul, 1) := by decide +kernel
theorem dX12_writeRun_32 : decode cX12_writeRun 32 = .ok (.bipush 63, 2) := by decide +kernel
theorem dX12_writeRun_34 : decode cX12_writeRun 34 = .ok (.iadd, 1) := by decide +kernel
theorem dX12_writeRun_35 : decode cX12_writeRun 35 = .ok (.iload_n 2, 1) := by decide +kernel
theorem dX12_writeRun_36 : decode cX12_writeRun 36 = .ok (.bipush 64, 2) := by decide +kernel
theorem dX12_writeRun_38 : decode cX12_writeRun 38 = .ok (.idiv, 1) := by decide +kernel
theorem dX12_writeRun_39 : decode cX12_writeRun 39 = .ok (.iadd, 1) := by decide +kernel
theorem dX12_writeRun_40 : decode cX12_writeRun 40 = .ok (.iaload, 1) := by decide +kernel
theorem dX12_writeRun_41 : decode cX12_writeRun 41 = .ok (.invokevirtual 546, 3) := by decide +kernel
theorem dX12_writeRun_44 : decode cX12_writeRun 44 = .ok (.aload_n 0, 1) := by decide +kernel
theorem dX12_writeRun_45 : decode cX12_writeRun 45 = .ok (.aload_n 0, 1) := by decide +kernel
theorem dX12_writeRun_46 : decode cX12_writeRun 46 = .ok (.getfield 108, 3) := by decide +kernel
theorem dX12_writeRun_49 : decode cX12_writeRun 49 = .ok (.bipush 74, 2) := by decide +kernel
theorem dX12_writeRun_51 : decode cX12_writeRun 51 = .ok (.iload_n 1, 1) := by decide +kernel
theorem dX12_writeRun_52 : decode cX12_writeRun 52 = .ok (.imul, 1) := by decide +kernel
theorem dX12_writeRun_53 : decode cX12_writeRun 53 = .ok (.iload_n 2, 1) := by decide +kernel
theorem dX12_writeRun_54 : decode cX12_writeRun 54 = .ok (.bipush 64, 2) := by decide +kernel
theorem dX12_writeRun_56 : decode cX12_writeRun 56 = .ok (.irem, 1) := by decide +kernel
theorem dX12_writeRun_57 : decode cX12_writeRun 57 = .ok (.iadd, 1) := by decide +kernel
theorem dX12_writeRun_58 : decode cX12_writeRun 58 = .ok (.iaload, 1) := by decide +kernel
theorem dX12_writeRun_59 : decode cX12_writeRun 59 = .ok (.aload_n 0, 1) := by decide +kernel
theorem dX12_writeRun_60 : decode cX12_writeRun 60 = .ok (.getfield 111, 3) := by decide +kernel
theorem dX12_writeRun_63 : decode cX12_writeRun 63 = .ok (.bipush 74, 2) := by decide +kernel
theorem dX12_writeRun_65 : decode cX12_writeRun 65 = .ok (.iload_n 1, 1) := by decide +kernel
theorem dX12_writeRun_66 : decode cX12_writeRun 66 = .ok (.imul, 1) := by decide +kernel
theorem dX12_writeRun_67 : decode cX12_writeRun 67 = .ok (.iload_n 2, 1) := by decide +kernel
theorem dX12_writeRun_68 : decode cX12_writeRun 68 = .ok (.bipush 64, 2) := by decide +kernel
theorem dX12_writeRun_70 : decode cX12_writeRun 70 = .ok (.irem, 1) := by decide +kernel
theorem dX12_writeRun_71 : decode cX12_writeRun 71 = .ok (.iadd, 1) := by decide +kernel
theorem dX12_writeRun_72 : decode cX12_writeRun 72 = .ok (.iaload, 1) := by decide +kernel
theorem dX12_writeRun_73 : decode cX12_writeRun 73 = .ok (.invokevirtual 546, 3) := by decide +kernel
theorem dX12_writeRun_76 : decode cX12_writeRun 76 = .ok (.return_, 1) := by decide +kernel
noncomputable def f_X12_writeRun_44 (a1 : Int32) (a2 : Int32) (T : Mm) : Option (Unit × Mm) :=
  ix (((74 : Int32) * a1) + (a2 - a2 / 64 * 64)) 148 fun j1 =>
  ix (((74 : Int32) * a1) + (a2 - a2 / 64 * 64)) 148 fun j3 =>
  bd (f_X12_bits (gA T 165 j1) (gA T 166 j3) T) fun _ T5 =>
  some ((), T5)
set_option maxRecDepth 100000 in
set_option maxHeartbeats 4000000 in
theorem s_X12_writeRun_44 {x : JX} {ad : Nat → Nat} {U : Mm} {S0 : Hp} {q : Unit × Mm}  (hn9 : x_n x = 3) (C : CB x RX12 cX12_writeRun) (M : CMr x 3 none S0 ad false U eV q) (a1 : Int32) (a2 : Int32) (T : Mm) (h : f_X12_writeRun_44  a1 a2 T = some q) : Jr x ad false U T [(0, .ref (ad 133)), (1, .int a1), (2, .int a2)] 44 [] := by
  unfold f_X12_writeRun_44 at h
  refine r_aload_n C dX12_writeRun_44 rfl 0 rfl ?_
  refine r_aload_n C dX12_writeRun_45 rfl 0 rfl ?_
  refine r_getp (f := 1256) (j := 165) C flX12_108 dX12_writeRun_46 kq_133 (by decide) rfl (fun W => pt_1256 kq_133 W) ?_
  refine r_bipush (v := 74) C dX12_writeRun_49 (by decide) ?_
  refine r_iload_n C dX12_writeRun_51 rfl 1 rfl ?_
  show Jr _ _ _ _ _ _ 52 _
  refine r_imul C dX12_writeRun_52 rfl ?_
  refine r_iload_n C dX12_writeRun_53 rfl 2 rfl ?_
  refine r_bipush (v := 64) C dX12_writeRun_54 (by decide) ?_
  refine r_irem C dX12_writeRun_56 (by decide) rfl ?_
  refine r_iadd C dX12_writeRun_57 rfl ?_
  refine r_iald (n := 148) C dX12_writeRun_58 kq_165 lq_165 h (fun j1 hj2 h => ?_)
  show Jr _ _ _ _ _ _ 59 _
  refine r_aload_n C dX12_writeRun_59 rfl 0 rfl ?_
  refine r_getp (f := 1257) (j := 166) C flX12_111 dX12_writeRun_60 kq_133 (by decide) rfl (fun W => pt_1257 kq_133 W) ?_
  refine r_bipush (v := 74) C dX12_writeRun_63 (by decide) ?_
  refine r_iload_n C dX12_writeRun_65 rfl 1 rfl ?_
  refine r_imul C dX12_writeRun_66 rfl ?_
  refine r_iload_n C dX12_writeRun_67 rfl 2 rfl ?_
  show Jr _ _ _ _ _ _ 68 _
  refine r_bipush (v := 64) C dX12_writeRun_68 (by decide) ?_
  refine r_irem C dX12_writeRun_70 (by decide) rfl ?_
  refine r_iadd C dX12_writeRun_71 rfl ?_
  refine r_iald (n := 148) C dX12_writeRun_72 kq_166 lq_166 h (fun j3 hj4 h => ?_)
  refine r_callVN C M h [.int (gA T 165 j1), .int (gA T 166 j3)] [] mlX12_546 mcX12_bits (fun q9 e9 => s_X12_bits (gA T 165 j1) (gA T 166 j3)  e9) kq_133 rfl (by decide) (by decide) rfl rfl (Nat.le_of_ble_eq_true rfl) dX12_writeRun_73 (fun _ T5 h => ?_)
  exact r_vret C M dX12_writeRun_76 h
noncomputable def f_X12_writeRun (p1 : Int32) (p2 : Int32) (T : Mm) : Option (Unit × Mm) :=
  if p2 < 64 then (f_X12_writeRun_44 p1 p2 T)
  else (ix ((((74 : Int32) * p1) + 63) + (p2 / 64)) 148 fun j1 =>
  ix ((((74 : Int32) * p1) + 63) + (p2 / 64)) 148 fun j3 =>
  bd (f_X12_bits (gA T 165 j1) (gA T 166 j3) T) fun _ T5 =>
  f_X12_writeRun_44 p1 p2 T5)
set_option maxRecDepth 100000 in
set_option maxHeartbeats 4000000 in
theorem s_X12_writeRun {ad : Nat → Nat} {U T : Mm} {q : Unit × Mm}  (p1 : Int32) (p2 : Int32) (h : f_X12_writeRun p1 p2 T = some q) : Cr 3 yX12_writeRun cX12_writeRun 3 none [.ref (ad 133), .int p1, .int p2] ad false U T eV q := by
  refine cr_of (by decide) (Nat.le_of_ble_eq_true rfl) fun x S0 hn9 C M => ?_
  have C : CB x RX12 cX12_writeRun := C
  refine Jr.eq (lv' := [(0, .ref (ad 133)), (1, .int p1), (2, .int p2)]) (st' := []) rfl rfl ?_
  unfold f_X12_writeRun at h
  refine r_iload_n C dX12_writeRun_0 rfl 2 rfl ?_
  refine r_bipush (v := 64) C dX12_writeRun_1 (by decide) ?_
  refine r_ic_lt (tgt := 44) C dX12_writeRun_3 (by decide) h (fun h => ?_) (fun h => ?_)
  · exact s_X12_writeRun_44 hn9 C M  p1 p2 T h
  · refine r_aload_n C dX12_writeRun_6 rfl 0 rfl ?_
    refine r_aload_n C dX12_writeRun_7 rfl 0 rfl ?_
    refine r_getp (f := 1256) (j := 165) C flX12_108 dX12_writeRun_8 kq_133 (by decide) rfl (fun W => pt_1256 kq_133 W) ?_
    refine r_bipush (v := 74) C dX12_writeRun_11 (by decide) ?_
    refine r_iload_n C dX12_writeRun_13 rfl 1 rfl ?_
    show Jr _ _ _ _ _ _ 14 _
    refine r_imul C dX12_writeRun_14 rfl ?_
    refine r_bipush (v := 63) C dX12_writeRun_15 (by decide) ?_
    refine r_iadd C dX12_writeRun_17 rfl ?_
    refine r_iload_n C dX12_writeRun_18 rfl 2 rfl ?_
    refine r_bipush (v := 64) C dX12_writeRun_19 (by decide) ?_
    refine r_idiv C dX12_writeRun_21 (by decide) rfl ?_
    show Jr _ _ _ _ _ _ 22 _
    refine r_iadd C dX12_writeRun_22 rfl ?_
    refine r_iald (n := 148) C dX12_writeRun_23 kq_165 lq_165 h (fun j1 hj2 h => ?_)
    refine r_aload_n C dX12_writeRun_24 rfl 0 rfl ?_
    refine r_getp (f := 1257) (j := 166) C flX12_111 dX12_writeRun_25 kq_133 (by decide) rfl (fun W => pt_1257 kq_133 W) ?_
    refine r_bipush (v := 74) C dX12_writeRun_28 (by decide) ?_
    refine r_iload_n C dX12_writeRun_30 rfl 1 rfl ?_
    show Jr _ _ _ _ _ _ 31 _
    refine r_imul C dX12_writeRun_31 rfl ?_
    refine r_bipush (v := 63) C dX12_writeRun_32 (by decide) ?_
    refine r_iadd C dX12_writeRun_34 rfl ?_
    refine r_iload_n C dX12_writeRun_35 rfl 2 rfl ?_
    refine r_bipush (v := 64) C dX12_writeRun_36 (by decide) ?_
    refine r_idiv C dX12_writeRun_38 (by decide) rfl ?_
    show Jr _ _ _ _ _ _ 39 _
    refine r_iadd C dX12_writeRun_39 rfl ?_
    refine r_iald (n := 148) C dX12_writeRun_40 kq_166 lq_166 h (fun j3 hj4 h => ?_)
    refine r_callVN C M h [.int (gA T 165 j1), .int (gA T 166 j3)] [] mlX12_546 mcX12_bits (fun q9 e9 => s_X12_bits (gA T 165 j1) (gA T 166 j3)  e9) kq_133 rfl (by decide) (by decide) rfl rfl (Nat.le_of_ble_eq_true rfl) dX12_writeRun_41 (fun _ T5 h => ?_)
    exact s_X12_writeRun_44 hn9 C M  p1 p2 T5 h
theorem dX12_writeRow_0 : decode cX12_writeRow 0 = .ok (.aload_n 0, 1) := by decide +kernel
theorem dX12_writeRow_1 : decode cX12_writeRow 1 = .ok (.iconst 0, 1) := by decide +kernel
theorem dX12_writeRow_2 : decode cX12_writeRow 2 = .ok (.putfield 525, 3) := by decide +kernel
theorem dX12_writeRow_5 : decode cX12_writeRow 5 = .ok (.aload_n 0, 1) := by decide +kernel
theorem dX12_writeRow_6 : decode cX12_writeRow 6 = .ok (.iconst 1, 1) := by decide +kernel
theorem dX12_writeRow_7 : decode cX12_writeRow 7 = .ok (.putfield 522, 3) := by decide +kernel
theorem dX12_writeRow_10 : decode cX12_writeRow 10 = .ok (.aload_n 0, 1) := by decide +kernel
theorem dX12_writeRow_11 : decode cX12_writeRow 11 = .ok (.iconst 0, 1) := by decide +kernel
theorem dX12_writeRow_12 : decode cX12_writeRow 12 = .ok (.putfield 531, 3) := by decide +kernel
theorem dX12_writeRow_15 : decode cX12_writeRow 15 = .ok (.aload_n 0, 1) := by decide +kernel
theorem dX12_writeRow_16 : decode cX12_writeRow 16 = .ok (.getfield 525, 3) := by decide +kernel
theorem dX12_writeRow_19 : decode cX12_writeRow 19 = .ok (.aload_n 0, 1) := by decide +kernel
theorem dX12_writeRow_20 : decode cX12_writeRow 20 = .ok (.getfield 528, 3) := by decide +kernel
theorem dX12_writeRow_23 : decode cX12_writeRow 23 = .ok (.if_icmp .ge 244, 3) := by decide +kernel
theorem dX12_writeRow_26 : decode cX12_writeRow 26 = .ok (.aload_n 0, 1) := by decide +kernel
theorem dX12_writeRow_27 : decode cX12_writeRow 27 = .ok (.aload_n 0, 1) := by decide +kernel
theorem dX12_writeRow_28 : decode cX12_writeRow 28 = .ok (.getfield 525, 3) := by decide +kernel
theorem dX12_writeRow_31 : decode cX12_writeRow 31 = .ok (.aload_n 0, 1) := by decide +kernel
theorem dX12_writeRow_32 : decode cX12_writeRow 32 = .ok (.getfield 531, 3) := by decide +kernel
theorem dX12_writeRow_35 : decode cX12_writeRow 35 = .ok (.invokevirtual 549, 3) := by decide +kernel
theorem dX12_writeRow_38 : decode cX12_writeRow 38 = .ok (.istore_n 1, 1) := by decide +kernel
theorem dX12_writeRow_39 : decode cX12_writeRow 39 = .ok (.aload_n 0, 1) := by decide +kernel
theorem dX12_writeRow_40 : decode cX12_writeRow 40 = .ok (.invokevirtual 552, 3) := by decide +kernel
theorem dX12_writeRow_43 : decode cX12_writeRow 43 = .ok (.istore_n 2, 1) := by decide +kernel
theorem dX12_writeRow_44 : decode cX12_writeRow 44 = .ok (.aload_n 0, 1) := by decide +kernel
theorem dX12_writeRow_45 : decode cX12_writeRow 45 = .ok (.iload_n 2, 1) := by decide +kernel
theorem dX12_writeRow_46 : decode cX12_writeRow 46 = .ok (.invokevirtual 555, 3) := by decide +kernel
theorem dX12_writeRow_49 : decode cX12_writeRow 49 = .ok (.istore_n 3, 1) := by decide +kernel
theorem dX12_writeRow_50 : decode cX12_writeRow 50 = .ok (.iload_n 3, 1) := by decide +kernel
theorem dX12_writeRow_51 : decode cX12_writeRow 51 = .ok (.iload_n 1, 1) := by decide +kernel
theorem dX12_writeRow_52 : decode cX12_writeRow 52 = .ok (.if_icmp .ge 17, 3) := by decide +kernel
theorem dX12_writeRow_55 : decode cX12_writeRow 55 = .ok (.aload_n 0, 1) := by decide +kernel
theorem dX12_writeRow_56 : decode cX12_writeRow 56 = .ok (.iconst 4, 1) := by decide +kernel
theorem dX12_writeRow_57 : decode cX12_writeRow 57 = .ok (.iconst 1, 1) := by decide +kernel
theorem dX12_writeRow_58 : decode cX12_writeRow 58 = .ok (.invokevirtual 546, 3) := by decide +kernel
theorem dX12_writeRow_61 : decode cX12_writeRow 61 = .ok (.aload_n 0, 1) := by decide +kernel
theorem dX12_writeRow_62 : decode cX12_writeRow 62 = .ok (.iload_n 3, 1) := by decide +kernel
theorem dX12_writeRow_63 : decode cX12_writeRow 63 = .ok (.putfield 525, 3) := by decide +kernel
theorem dX12_writeRow_66 : decode cX12_writeRow 66 = .ok (.goto 193, 3) := by decide +kernel
theorem dX12_writeRow_69 : decode cX12_writeRow 69 = .ok (.iload_n 1, 1) := by decide +kernel
theorem dX12_writeRow_70 : decode cX12_writeRow 70 = .ok (.iload_n 2, 1) := by decide +kernel
theorem dX12_writeRow_71 : decode cX12_writeRow 71 = .ok (.isub, 1) := by decide +kernel
theorem dX12_writeRow_72 : decode cX12_writeRow 72 = .ok (.iconst 3, 1) := by decide +kernel
theorem dX12_writeRow_73 : decode cX12_writeRow 73 = .ok (.if_icmp .gt 133, 3) := by decide +kernel
theorem dX12_writeRow_76 : decode cX12_writeRow 76 = .ok (.iload_n 2, 1) := by decide +kernel
theorem dX12_writeRow_77 : decode cX12_writeRow 77 = .ok (.iload_n 1, 1) := by decide +kernel
theorem dX12_writeRow_78 : decode cX12_writeRow 78 = .ok (.isub, 1) := by decide +kernel
theorem dX12_writeRow_79 : decode cX12_writeRow 79 = .ok (.iconst 3, 1) := by decide +kernel
theorem dX12_writeRow_80 : decode cX12_writeRow 80 = .ok (.if_icmp .gt 126, 3) := by decide +kernel
theorem dX12_writeRow_83 : decode cX12_writeRow 83 = .ok (.iload_n 1, 1) := by decide +kernel
theorem dX12_writeRow_84 : decode cX12_writeRow 84 = .ok (.iload_n 2, 1) := by decide +kernel
theorem dX12_writeRow_85 : decode cX12_writeRow 85 = .ok (.isub, 1) := by decide +kernel
theorem dX12_writeRow_86 : decode cX12_writeRow 86 = .ok (.istore 4, 2) := by decide +kernel
theorem dX12_writeRow_88 : decode cX12_writeRow 88 = .ok (.iload 4, 2) := by decide +kernel
theorem dX12_writeRow_90 : decode cX12_writeRow 90 = .ok (.ifCond .ne 12, 3) := by decide +kernel
theorem dX12_writeRow_93 : decode cX12_writeRow 93 = .ok (.aload_n 0, 1) := by decide +kernel
theorem dX12_writeRow_94 : decode cX12_writeRow 94 = .ok (.iconst 1, 1) := by decide +kernel
theorem dX12_writeRow_95 : decode cX12_writeRow 95 = .ok (.iconst 1, 1) := by decide +kernel
theorem dX12_writeRow_96 : decode cX12_writeRow 96 = .ok (.invokevirtual 546, 3) := by decide +kernel
theorem dX12_writeRow_99 : decode cX12_writeRow 99 = .ok (.goto 89, 3) := by decide +kernel
theorem dX12_writeRow_102 : decode cX12_writeRow 102 = .ok (.iload 4, 2) := by decide +kernel
theorem dX12_writeRow_104 : decode cX12_writeRow 104 = .ok (.iconst 1, 1) := by decide +kernel
theorem dX12_writeRow_105 : decode cX12_writeRow 105 = .ok (.if_icmp .ne 12, 3) := by decide +kernel
theorem dX12_writeRow_108 : decode cX12_writeRow 108 = .ok (.aload_n 0, 1) := by decide +kernel
theorem dX12_writeRow_109 : decode cX12_writeRow 109 = .ok (.iconst 3, 1) := by decide +kernel
theorem dX12_writeRow_110 : decode cX12_writeRow 110 = .ok (.iconst 3, 1) := by decide +kernel
theorem dX12_writeRow_111 : decode cX12_writeRow 111 = .ok (.invokevirtual 546, 3) := by decide +kernel
theorem dX12_writeRow_114 : decode cX12_writeRow 114 = .ok (.goto 74, 3) := by decide +kernel
theorem dX12_writeRow_117 : decode cX12_writeRow 117 = .ok (.iload 4, 2) := by decide +kernel
theorem dX12_writeRow_119 : decode cX12_writeRow 119 = .ok (.iconst 2, 1) := by decide +kernel
theorem dX12_writeRow_120 : decode cX12_writeRow 120 = .ok (.if_icmp .ne 13, 3) := by decide +kernel
theorem dX12_writeRow_123 : decode cX12_writeRow 123 = .ok (.aload_n 0, 1) := by decide +kernel
theorem dX12_writeRow_124 : decode cX12_writeRow 124 = .ok (.bipush 6, 2) := by decide +kernel
theorem dX12_writeRow_126 : decode cX12_writeRow 126 = .ok (.iconst 3, 1) := by decide +kernel
theorem dX12_writeRow_127 : decode cX12_writeRow 127 = .ok (.invokevirtual 546, 3) := by decide +kernel
theorem dX12_writeRow_130 : decode cX12_writeRow 130 = .ok (.goto 58, 3) := by decide +kernel
theorem dX12_writeRow_133 : decode cX12_writeRow 133 = .ok (.iload 4, 2) := by decide +kernel
theorem dX12_writeRow_135 : decode cX12_writeRow 135 = .ok (.iconst 3, 1) := by decide +kernel
theorem dX12_writeRow_136 : decode cX12_writeRow 136 = .ok (.if_icmp .ne 13, 3) := by decide +kernel
theorem dX12_writeRow_139 : decode cX12_writeRow 139 = .ok (.aload_n 0, 1) := by decide +kernel
theorem dX12_writeRow_140 : decode cX12_writeRow 140 = .ok (.bipush 7, 2) := by decide +kernel
theorem dX12_writeRow_142 : decode cX12_writeRow 142 = .ok (.iconst 3, 1) := by decide +kernel
theorem dX12_writeRow_143 : decode cX12_writeRow 143 = .ok (.invokevirtual 546, 3) := by decide +kernel
theorem dX12_writeRow_146 : decode cX12_writeRow 146 = .ok (.goto 42, 3) := by decide +kernel
theorem dX12_writeRow_149 : decode cX12_writeRow 149 = .ok (.iload 4, 2) := by decide +kernel
theorem dX12_writeRow_151 : decode cX12_writeRow 151 = .ok (.iconst (-1), 1) := by decide +kernel
theorem dX12_writeRow_152 : decode cX12_writeRow 152 = .ok (.if_icmp .ne 12, 3) := by decide +kernel
theorem dX12_writeRow_155 : decode cX12_writeRow 155 = .ok (.aload_n 0, 1) := by decide +kernel
theorem dX12_writeRow_156 : decode cX12_writeRow 156 = .ok (.iconst 3, 1) := by decide +kernel
theorem dX12_writeRow_157 : decode cX12_writeRow 157 = .ok (.iconst 2, 1) := by decide +kernel
theorem dX12_writeRow_158 : decode cX12_writeRow 158 = .ok (.invokevirtual 546, 3) := by decide +kernel
theorem dX12_writeRow_161 : decode cX12_writeRow 161 = .ok (.goto 27, 3) := by decide +kernel
theorem dX12_writeRow_164 : decode cX12_writeRow 164 = .ok (.iload 4, 2) := by decide +kernel
theorem dX12_writeRow_166 : decode cX12_writeRow 166 = .ok (.bipush (-2), 2) := by decide +kernel
theorem dX12_writeRow_168 : decode cX12_writeRow 168 = .ok (.if_icmp .ne 13, 3) := by decide +kernel
theorem dX12_writeRow_171 : decode cX12_writeRow 171 = .ok (.aload_n 0, 1) := by decide +kernel
theorem dX12_writeRow_172 : decode cX12_writeRow 172 = .ok (.bipush 6, 2) := by decide +kernel
theorem dX12_writeRow_174 : decode cX12_writeRow 174 = .ok (.iconst 2, 1) := by decide +kernel
theorem dX12_writeRow_175 : decode cX12_writeRow 175 = .ok (.invokevirtual 546, 3) := by decide +kernel
theorem dX12_writeRow_178 : decode cX12_writeRow 178 = .ok (.goto 10, 3) := by decide +kernel
theorem dX12_writeRow_181 : decode cX12_writeRow 181 = .ok (.aload_n 0, 1) := by decide +kernel
theorem dX12_writeRow_182 : decode cX12_writeRow 182 = .ok (.bipush 7, 2) := by decide +kernel
theorem dX12_writeRow_184 : decode cX12_writeRow 184 = .ok (.iconst 2, 1) := by decide +kernel
theorem dX12_writeRow_185 : decode cX12_writeRow 185 = .ok (.invokevirtual 546, 3) := by decide +kernel
theorem dX12_writeRow_188 : decode cX12_writeRow 188 = .ok (.aload_n 0, 1) := by decide +kernel
theorem dX12_writeRow_189 : decode cX12_writeRow 189 = .ok (.iload_n 1, 1) := by decide +kernel
theorem dX12_writeRow_190 : decode cX12_writeRow 190 = .ok (.putfield 525, 3) := by decide +kernel
theorem dX12_writeRow_193 : decode cX12_writeRow 193 = .ok (.aload_n 0, 1) := by decide +kernel
theorem dX12_writeRow_194 : decode cX12_writeRow 194 = .ok (.iconst 1, 1) := by decide +kernel
theorem dX12_writeRow_195 : decode cX12_writeRow 195 = .ok (.aload_n 0, 1) := by decide +kernel
theorem dX12_writeRow_196 : decode cX12_writeRow 196 = .ok (.getfield 531, 3) := by decide +kernel
theorem dX12_writeRow_199 : decode cX12_writeRow 199 = .ok (.isub, 1) := by decide +kernel
theorem dX12_writeRow_200 : decode cX12_writeRow 200 = .ok (.putfield 531, 3) := by decide +kernel
theorem dX12_writeRow_203 : decode cX12_writeRow 203 = .ok (.goto 56, 3) := by decide +kernel
theorem dX12_writeRow_206 : decode cX12_writeRow 206 = .ok (.aload_n 0, 1) := by decide +kernel
theorem dX12_writeRow_207 : decode cX12_writeRow 207 = .ok (.iload_n 1, 1) := by decide +kernel
theorem dX12_writeRow_208 : decode cX12_writeRow 208 = .ok (.iconst 1, 1) := by decide +kernel
theorem dX12_writeRow_209 : decode cX12_writeRow 209 = .ok (.aload_n 0, 1) := by decide +kernel
theorem dX12_writeRow_210 : decode cX12_writeRow 210 = .ok (.getfield 531, 3) := by decide +kernel
theorem dX12_writeRow_213 : decode cX12_writeRow 213 = .ok (.isub, 1) := by decide +kernel
theorem dX12_writeRow_214 : decode cX12_writeRow 214 = .ok (.invokevirtual 549, 3) := by decide +kernel
theorem dX12_writeRow_217 : decode cX12_writeRow 217 = .ok (.istore 4, 2) := by decide +kernel
theorem dX12_writeRow_219 : decode cX12_writeRow 219 = .ok (.aload_n 0, 1) := by decide +kernel
theorem dX12_writeRow_220 : decode cX12_writeRow 220 = .ok (.iconst 3, 1) := by decide +kernel
theorem dX12_writeRow_221 : decode cX12_writeRow 221 = .ok (.iconst 1, 1) := by decide +kernel
theorem dX12_writeRow_222 : decode cX12_writeRow 222 = .ok (.invokevirtual 546, 3) := by decide +kernel
theorem dX12_writeRow_225 : decode cX12_writeRow 225 = .ok (.aload_n 0, 1) := by decide +kernel
theorem dX12_writeRow_226 : decode cX12_writeRow 226 = .ok (.aload_n 0, 1) := by decide +kernel
theorem dX12_writeRow_227 : decode cX12_writeRow 227 = .ok (.getfield 531, 3) := by decide +kernel
theorem dX12_writeRow_230 : decode cX12_writeRow 230 = .ok (.iload_n 1, 1) := by decide +kernel
theorem dX12_writeRow_231 : decode cX12_writeRow 231 = .ok (.aload_n 0, 1) := by decide +kernel
theorem dX12_writeRow_232 : decode cX12_writeRow 232 = .ok (.getfield 525, 3) := by decide +kernel
theorem dX12_writeRow_235 : decode cX12_writeRow 235 = .ok (.isub, 1) := by decide +kernel
theorem dX12_writeRow_236 : decode cX12_writeRow 236 = .ok (.invokevirtual 558, 3) := by decide +kernel
theorem dX12_writeRow_239 : decode cX12_writeRow 239 = .ok (.aload_n 0, 1) := by decide +kernel
theorem dX12_writeRow_240 : decode cX12_writeRow 240 = .ok (.iconst 1, 1) := by decide +kernel
theorem dX12_writeRow_241 : decode cX12_writeRow 241 = .ok (.aload_n 0, 1) := by decide +kernel
theorem dX12_writeRow_242 : decode cX12_writeRow 242 = .ok (.getfield 531, 3) := by decide +kernel
theorem dX12_writeRow_245 : decode cX12_writeRow 245 = .ok (.isub, 1) := by decide +kernel
theorem dX12_writeRow_246 : decode cX12_writeRow 246 = .ok (.iload 4, 2) := by decide +kernel
theorem dX12_writeRow_248 : decode cX12_writeRow 248 = .ok (.iload_n 1, 1) := by decide +kernel
theorem dX12_writeRow_249 : decode cX12_writeRow 249 = .ok (.isub, 1) := by decide +kernel
theorem dX12_writeRow_250 : decode cX12_writeRow 250 = .ok (.invokevirtual 558, 3) := by decide +kernel
theorem dX12_writeRow_253 : decode cX12_writeRow 253 = .ok (.aload_n 0, 1) := by decide +kernel
theorem dX12_writeRow_254 : decode cX12_writeRow 254 = .ok (.iload 4, 2) := by decide +kernel
theorem dX12_writeRow_256 : decode cX12_writeRow 256 = .ok (.putfield 525, 3) := by decide +kernel
theorem dX12_writeRow_259 : decode cX12_writeRow 259 = .ok (.aload_n 0, 1) := by decide +kernel
theorem dX12_writeRow_260 : decode cX12_writeRow 260 = .ok (.iconst 0, 1) := by decide +kernel
theorem dX12_writeRow_261 : decode cX12_writeRow 261 = .ok (.putfield 522, 3) := by decide +kernel
theorem dX12_writeRow_264 : decode cX12_writeRow 264 = .ok (.goto (-249), 3) := by decide +kernel
theorem dX12_writeRow_267 : decode cX12_writeRow 267 = .ok (.return_, 1) := by decide +kernel
noncomputable def f_X12_writeRow_206 (k15 : Mm → Option (Unit × Mm)) (a1 : Int32) (T : Mm) : Option (Unit × Mm) :=
  bd (f_X12_change a1 ((1 : Int32) - (gI T 1263 133)) T) fun v1 T2 =>
  bd (f_X12_bits 3 1 T2) fun _ T3 =>
  bd (f_X12_writeRun (gI T3 1263 133) (a1 - (gI T3 1261 133)) T3) fun _ T4 =>
  bd (f_X12_writeRun ((1 : Int32) - (gI T4 1263 133)) (v1 - a1) T4) fun _ T5 =>
  lb (uI T5 1261 133 v1) fun T6 =>
  lb (uI T6 1262 133 0) fun T7 =>
  k15 T7
set_option maxRecDepth 100000 in
set_option maxHeartbeats 4000000 in
theorem s_X12_writeRow_206 {x : JX} {ad : Nat → Nat} {U : Mm} {S0 : Hp} {q : Unit × Mm}  {k15 : Mm → Option (Unit × Mm)} (hn9 : x_n x = 5) (C : CB x RX12 cX12_writeRow) (M : CMr x 4 none S0 ad false U eV q) (hk15 : ∀ (T : Mm), k15  T = some q → Jr x ad false U T [(0, .ref (ad 133))] 15 []) (a1 : Int32) (T : Mm) (h : f_X12_writeRow_206 k15 a1 T = some q) : Jr x ad false U T [(0, .ref (ad 133)), (1, .int a1)] 206 [] := by
  unfold f_X12_writeRow_206 at h
  refine r_aload_n C dX12_writeRow_206 rfl 0 rfl ?_
  refine r_iload_n C dX12_writeRow_207 rfl 1 rfl ?_
  refine r_iconst (v := 1) C dX12_writeRow_208 (by decide) ?_
  refine r_aload_n C dX12_writeRow_209 rfl 0 rfl ?_
  refine r_geti (f := 1263) C flX12_531 dX12_writeRow_210 kq_133 (by decide) (by decide) rfl ?_
  show Jr _ _ _ _ _ _ 213 _
  refine r_isub C dX12_writeRow_213 rfl ?_
  refine r_callVI C M h [.int a1, .int ((1 : Int32) - (gI T 1263 133))] [] mlX12_549 mcX12_change (fun q9 e9 => s_X12_change a1 ((1 : Int32) - (gI T 1263 133))  e9) kq_133 rfl (by decide) (by decide) rfl rfl (Nat.le_of_ble_eq_true rfl) dX12_writeRow_214 (fun v1 T2 h => ?_)
  refine r_istore (lv' := [(4, .int v1), (0, .ref (ad 133)), (1, .int a1)]) C dX12_writeRow_217 (by rw [hn9]; decide) rfl ?_
  refine r_aload_n C dX12_writeRow_219 rfl 1 rfl ?_
  refine r_iconst (v := 3) C dX12_writeRow_220 (by decide) ?_
  refine r_iconst (v := 1) C dX12_writeRow_221 (by decide) ?_
  show Jr _ _ _ _ _ _ 222 _
  refine r_callVN C M h [.int 3, .int 1] [] mlX12_546 mcX12_bits (fun q9 e9 => s_X12_bits 3 1  e9) kq_133 rfl (by decide) (by decide) rfl rfl (Nat.le_of_ble_eq_true rfl) dX12_writeRow_222 (fun _ T3 h => ?_)
  refine r_aload_n C dX12_writeRow_225 rfl 1 rfl ?_
  refine r_aload_n C dX12_writeRow_226 rfl 1 rfl ?_
  refine r_geti (f := 1263) C flX12_531 dX12_writeRow_227 kq_133 (by decide) (by decide) rfl ?_
  refine r_iload_n C dX12_writeRow_230 rfl 2 rfl ?_
  refine r_aload_n C dX12_writeRow_231 rfl 1 rfl ?_
  show Jr _ _ _ _ _ _ 232 _
  refine r_geti (f := 1261) C flX12_525 dX12_writeRow_232 kq_133 (by decide) (by decide) rfl ?_
  refine r_isub C dX12_writeRow_235 rfl ?_
  refine r_callVN C M h [.int (gI T3 1263 133), .int (a1 - (gI T3 1261 133))] [] mlX12_558 mcX12_writeRun (fun q9 e9 => s_X12_writeRun (gI T3 1263 133) (a1 - (gI T3 1261 133))  e9) kq_133 rfl (by decide) (by decide) rfl rfl (Nat.le_of_ble_eq_true rfl) dX12_writeRow_236 (fun _ T4 h => ?_)
  refine r_aload_n C dX12_writeRow_239 rfl 1 rfl ?_
  refine r_iconst (v := 1) C dX12_writeRow_240 (by decide) ?_
  refine r_aload_n C dX12_writeRow_241 rfl 1 rfl ?_
  show Jr _ _ _ _ _ _ 242 _
  refine r_geti (f := 1263) C flX12_531 dX12_writeRow_242 kq_133 (by decide) (by decide) rfl ?_
  refine r_isub C dX12_writeRow_245 rfl ?_
  refine r_iload C dX12_writeRow_246 0 rfl ?_
  refine r_iload_n C dX12_writeRow_248 rfl 2 rfl ?_
  refine r_isub C dX12_writeRow_249 rfl ?_
  refine r_callVN C M h [.int ((1 : Int32) - (gI T4 1263 133)), .int (v1 - a1)] [] mlX12_558 mcX12_writeRun (fun q9 e9 => s_X12_writeRun ((1 : Int32) - (gI T4 1263 133)) (v1 - a1)  e9) kq_133 rfl (by decide) (by decide) rfl rfl (Nat.le_of_ble_eq_true rfl) dX12_writeRow_250 (fun _ T5 h => ?_)
  show Jr _ _ _ _ _ _ 253 _
  refine r_aload_n C dX12_writeRow_253 rfl 1 rfl ?_
  refine r_iload C dX12_writeRow_254 0 rfl ?_
  refine r_puti (f := 1261) C flX12_525 (by decide) rfl rfl dX12_writeRow_256 kq_133 rfl h (fun T6 h => ?_)
  refine r_aload_n C dX12_writeRow_259 rfl 1 rfl ?_
  refine r_iconst (v := 0) C dX12_writeRow_260 (by decide) ?_
  refine r_putz (f := 1262) C flX12_522 (by decide) rfl rfl (by decide) dX12_writeRow_261 kq_133 rfl h (fun T7 h => ?_)
  show Jr _ _ _ _ _ _ 264 _
  refine r_goto (tgt := 15) C dX12_writeRow_264 (by decide) ?_
  refine Jr.sub [1] (lv' := [(0, .ref (ad 133))]) rfl ?_
  exact hk15 T7 h
noncomputable def f_X12_writeRow_188 (k15 : Mm → Option (Unit × Mm)) (a1 : Int32) (T : Mm) : Option (Unit × Mm) :=
  lb (uI T 1261 133 a1) fun T1 =>
  lb (uI T1 1263 133 ((1 : Int32) - (gI T1 1263 133))) fun T2 =>
  lb (uI T2 1262 133 0) fun T3 =>
  k15 T3
set_option maxRecDepth 100000 in
set_option maxHeartbeats 4000000 in
theorem s_X12_writeRow_188 {x : JX} {ad : Nat → Nat} {U : Mm} {S0 : Hp} {q : Unit × Mm}  {k15 : Mm → Option (Unit × Mm)} (hn9 : x_n x = 5) (C : CB x RX12 cX12_writeRow) (M : CMr x 4 none S0 ad false U eV q) (hk15 : ∀ (T : Mm), k15  T = some q → Jr x ad false U T [(0, .ref (ad 133))] 15 []) (a1 : Int32) (T : Mm) (h : f_X12_writeRow_188 k15 a1 T = some q) : Jr x ad false U T [(0, .ref (ad 133)), (1, .int a1)] 188 [] := by
  unfold f_X12_writeRow_188 at h
  refine r_aload_n C dX12_writeRow_188 rfl 0 rfl ?_
  refine r_iload_n C dX12_writeRow_189 rfl 1 rfl ?_
  refine r_puti (f := 1261) C flX12_525 (by decide) rfl rfl dX12_writeRow_190 kq_133 rfl h (fun T1 h => ?_)
  refine r_aload_n C dX12_writeRow_193 rfl 0 rfl ?_
  refine r_iconst (v := 1) C dX12_writeRow_194 (by decide) ?_
  show Jr _ _ _ _ _ _ 195 _
  refine r_aload_n C dX12_writeRow_195 rfl 0 rfl ?_
  refine r_geti (f := 1263) C flX12_531 dX12_writeRow_196 kq_133 (by decide) (by decide) rfl ?_
  refine r_isub C dX12_writeRow_199 rfl ?_
  refine r_puti (f := 1263) C flX12_531 (by decide) rfl rfl dX12_writeRow_200 kq_133 rfl h (fun T2 h => ?_)
  refine r_goto (tgt := 259) C dX12_writeRow_203 (by decide) ?_
  refine r_aload_n C dX12_writeRow_259 rfl 0 rfl ?_
  show Jr _ _ _ _ _ _ 260 _
  refine r_iconst (v := 0) C dX12_writeRow_260 (by decide) ?_
  refine r_putz (f := 1262) C flX12_522 (by decide) rfl rfl (by decide) dX12_writeRow_261 kq_133 rfl h (fun T3 h => ?_)
  refine r_goto (tgt := 15) C dX12_writeRow_264 (by decide) ?_
  refine Jr.sub [0] (lv' := [(0, .ref (ad 133))]) rfl ?_
  exact hk15 T3 h
noncomputable def f_X12_writeRow_b15 (k15 : Mm → Option (Unit × Mm)) (T : Mm) : Option (Unit × Mm) :=
  if (gI T 1260 133) ≤ (gI T 1261 133) then (some ((), T))
  else (bd (f_X12_change (gI T 1261 133) (gI T 1263 133) T) fun v1 T2 =>
  bd (f_X12_b1 T2) fun v3 T4 =>
  bd (f_X12_b2 v3 T4) fun v5 T6 =>
  if v1 ≤ v5 then (if 3 < (v1 - v3) then (f_X12_writeRow_206 k15 v1 T6)
  else (if 3 < (v3 - v1) then (f_X12_writeRow_206 k15 v1 T6)
  else (lb ((v1 - v3)) fun v7 =>
  if v7 = 0 then (bd (f_X12_bits 1 1 T6) fun _ T14 =>
  f_X12_writeRow_188 k15 v1 T14)
  else (if v7 = 1 then (bd (f_X12_bits 3 3 T6) fun _ T13 =>
  f_X12_writeRow_188 k15 v1 T13)
  else (if v7 = 2 then (bd (f_X12_bits 6 3 T6) fun _ T12 =>
  f_X12_writeRow_188 k15 v1 T12)
  else (if v7 = 3 then (bd (f_X12_bits 7 3 T6) fun _ T11 =>
  f_X12_writeRow_188 k15 v1 T11)
  else (if v7 = (-1) then (bd (f_X12_bits 3 2 T6) fun _ T10 =>
  f_X12_writeRow_188 k15 v1 T10)
  else (if v7 = (-2) then (bd (f_X12_bits 6 2 T6) fun _ T9 =>
  f_X12_writeRow_188 k15 v1 T9)
  else (bd (f_X12_bits 7 2 T6) fun _ T8 =>
  f_X12_writeRow_188 k15 v1 T8)))))))))
  else (bd (f_X12_bits 4 1 T6) fun _ T15 =>
  lb (uI T15 1261 133 v5) fun T16 =>
  lb (uI T16 1262 133 0) fun T17 =>
  k15 T17))
set_option maxRecDepth 100000 in
set_option maxHeartbeats 4000000 in
theorem s_X12_writeRow_b15 {x : JX} {ad : Nat → Nat} {U : Mm} {S0 : Hp} {q : Unit × Mm}  {k15 : Mm → Option (Unit × Mm)} (hn9 : x_n x = 5) (C : CB x RX12 cX12_writeRow) (M : CMr x 4 none S0 ad false U eV q) (hk15 : ∀ (T : Mm), k15  T = some q → Jr x ad false U T [(0, .ref (ad 133))] 15 []) (T : Mm) (h : f_X12_writeRow_b15 k15  T = some q) : Jr x ad false U T [(0, .ref (ad 133))] 15 [] := by
  unfold f_X12_writeRow_b15 at h
  refine r_aload_n C dX12_writeRow_15 rfl 0 rfl ?_
  refine r_geti (f := 1261) C flX12_525 dX12_writeRow_16 kq_133 (by decide) (by decide) rfl ?_
  refine r_aload_n C dX12_writeRow_19 rfl 0 rfl ?_
  refine r_geti (f := 1260) C flX12_528 dX12_writeRow_20 kq_133 (by decide) (by decide) rfl ?_
  refine r_ic_ge (tgt := 267) C dX12_writeRow_23 (by decide) h (fun h => ?_) (fun h => ?_)
  · exact r_vret C M dX12_writeRow_267 h
  · refine r_aload_n C dX12_writeRow_26 rfl 0 rfl ?_
    refine r_aload_n C dX12_writeRow_27 rfl 0 rfl ?_
    refine r_geti (f := 1261) C flX12_525 dX12_writeRow_28 kq_133 (by decide) (by decide) rfl ?_
    refine r_aload_n C dX12_writeRow_31 rfl 0 rfl ?_
    refine r_geti (f := 1263) C flX12_531 dX12_writeRow_32 kq_133 (by decide) (by decide) rfl ?_
    show Jr _ _ _ _ _ _ 35 _
    refine r_callVI C M h [.int (gI T 1261 133), .int (gI T 1263 133)] [] mlX12_549 mcX12_change (fun q9 e9 => s_X12_change (gI T 1261 133) (gI T 1263 133)  e9) kq_133 rfl (by decide) (by decide) rfl rfl (Nat.le_of_ble_eq_true rfl) dX12_writeRow_35 (fun v1 T2 h => ?_)
    refine r_istore_n (lv' := [(1, .int v1), (0, .ref (ad 133))]) C dX12_writeRow_38 rfl (by rw [hn9]; decide) rfl ?_
    refine r_aload_n C dX12_writeRow_39 rfl 1 rfl ?_
    refine r_callVI C M h [] [] mlX12_552 mcX12_b1 (fun q9 e9 => s_X12_b1   e9) kq_133 rfl (by decide) (by decide) rfl rfl (Nat.le_of_ble_eq_true rfl) dX12_writeRow_40 (fun v3 T4 h => ?_)
    refine r_istore_n (lv' := [(2, .int v3), (1, .int v1), (0, .ref (ad 133))]) C dX12_writeRow_43 rfl (by rw [hn9]; decide) rfl ?_
    refine r_aload_n C dX12_writeRow_44 rfl 2 rfl ?_
    show Jr _ _ _ _ _ _ 45 _
    refine r_iload_n C dX12_writeRow_45 rfl 0 rfl ?_
    refine r_callVI C M h [.int v3] [] mlX12_555 mcX12_b2 (fun q9 e9 => s_X12_b2 v3  e9) kq_133 rfl (by decide) (by decide) rfl rfl (Nat.le_of_ble_eq_true rfl) dX12_writeRow_46 (fun v5 T6 h => ?_)
    refine r_istore_n (lv' := [(3, .int v5), (2, .int v3), (1, .int v1), (0, .ref (ad 133))]) C dX12_writeRow_49 rfl (by rw [hn9]; decide) rfl ?_
    refine r_iload_n C dX12_writeRow_50 rfl 0 rfl ?_
    refine r_iload_n C dX12_writeRow_51 rfl 2 rfl ?_
    refine r_ic_ge (tgt := 69) C dX12_writeRow_52 (by decide) h (fun h => ?_) (fun h => ?_)
    · refine r_iload_n C dX12_writeRow_69 rfl 2 rfl ?_
      refine r_iload_n C dX12_writeRow_70 rfl 1 rfl ?_
      refine r_isub C dX12_writeRow_71 rfl ?_
      refine r_iconst (v := 3) C dX12_writeRow_72 (by decide) ?_
      refine r_ic_gt (tgt := 206) C dX12_writeRow_73 (by decide) h (fun h => ?_) (fun h => ?_)
      · refine Jr.sub [3, 2] (lv' := [(0, .ref (ad 133)), (1, .int v1)]) rfl ?_
        exact s_X12_writeRow_206 hn9 C M hk15 v1 T6 h
      · refine r_iload_n C dX12_writeRow_76 rfl 1 rfl ?_
        refine r_iload_n C dX12_writeRow_77 rfl 2 rfl ?_
        refine r_isub C dX12_writeRow_78 rfl ?_
        refine r_iconst (v := 3) C dX12_writeRow_79 (by decide) ?_
        refine r_ic_gt (tgt := 206) C dX12_writeRow_80 (by decide) h (fun h => ?_) (fun h => ?_)
        · refine Jr.sub [3, 2] (lv' := [(0, .ref (ad 133)), (1, .int v1)]) rfl ?_
          exact s_X12_writeRow_206 hn9 C M hk15 v1 T6 h
        · refine r_iload_n C dX12_writeRow_83 rfl 2 rfl ?_
          refine r_iload_n C dX12_writeRow_84 rfl 1 rfl ?_
          refine r_isub C dX12_writeRow_85 rfl ?_
          refine r_lbI h (fun v7 h => ?_)
          refine r_istore (lv' := [(4, .int v7), (3, .int v5), (2, .int v3), (1, .int v1), (0, .ref (ad 133))]) C dX12_writeRow_86 (by rw [hn9]; decide) rfl ?_
          refine r_iload C dX12_writeRow_88 0 rfl ?_
          show Jr _ _ _ _ _ _ 90 _
          refine r_if_ne (tgt := 102) C dX12_writeRow_90 (by decide) h (fun h => ?_) (fun h => ?_)
          · refine r_iload C dX12_writeRow_102 0 rfl ?_
            refine r_iconst (v := 1) C dX12_writeRow_104 (by decide) ?_
            refine r_ic_ne (tgt := 117) C dX12_writeRow_105 (by decide) h (fun h => ?_) (fun h => ?_)
            · refine r_iload C dX12_writeRow_117 0 rfl ?_
              refine r_iconst (v := 2) C dX12_writeRow_119 (by decide) ?_
              refine r_ic_ne (tgt := 133) C dX12_writeRow_120 (by decide) h (fun h => ?_) (fun h => ?_)
              · refine r_iload C dX12_writeRow_133 0 rfl ?_
                refine r_iconst (v := 3) C dX12_writeRow_135 (by decide) ?_
                refine r_ic_ne (tgt := 149) C dX12_writeRow_136 (by decide) h (fun h => ?_) (fun h => ?_)
                · refine r_iload C dX12_writeRow_149 0 rfl ?_
                  refine r_iconst (v := (-1)) C dX12_writeRow_151 (by decide) ?_
                  refine r_ic_ne (tgt := 164) C dX12_writeRow_152 (by decide) h (fun h => ?_) (fun h => ?_)
                  · refine r_iload C dX12_writeRow_164 0 rfl ?_
                    refine r_bipush (v := (-2)) C dX12_writeRow_166 (by decide) ?_
                    refine r_ic_ne (tgt := 181) C dX12_writeRow_168 (by decide) h (fun h => ?_) (fun h => ?_)
                    · refine r_aload_n C dX12_writeRow_181 rfl 4 rfl ?_
                      refine r_bipush (v := 7) C dX12_writeRow_182 (by decide) ?_
                      refine r_iconst (v := 2) C dX12_writeRow_184 (by decide) ?_
                      refine r_callVN C M h [.int 7, .int 2] [] mlX12_546 mcX12_bits (fun q9 e9 => s_X12_bits 7 2  e9) kq_133 rfl (by decide) (by decide) rfl rfl (Nat.le_of_ble_eq_true rfl) dX12_writeRow_185 (fun _ T8 h => ?_)
                      refine Jr.sub [4, 3] (lv' := [(0, .ref (ad 133)), (1, .int v1)]) rfl ?_
                      exact s_X12_writeRow_188 hn9 C M hk15 v1 T8 h
                    · refine r_aload_n C dX12_writeRow_171 rfl 4 rfl ?_
                      refine r_bipush (v := 6) C dX12_writeRow_172 (by decide) ?_
                      refine r_iconst (v := 2) C dX12_writeRow_174 (by decide) ?_
                      refine r_callVN C M h [.int 6, .int 2] [] mlX12_546 mcX12_bits (fun q9 e9 => s_X12_bits 6 2  e9) kq_133 rfl (by decide) (by decide) rfl rfl (Nat.le_of_ble_eq_true rfl) dX12_writeRow_175 (fun _ T9 h => ?_)
                      refine r_goto (tgt := 188) C dX12_writeRow_178 (by decide) ?_
                      refine Jr.sub [4, 3] (lv' := [(0, .ref (ad 133)), (1, .int v1)]) rfl ?_
                      exact s_X12_writeRow_188 hn9 C M hk15 v1 T9 h
                  · refine r_aload_n C dX12_writeRow_155 rfl 4 rfl ?_
                    refine r_iconst (v := 3) C dX12_writeRow_156 (by decide) ?_
                    refine r_iconst (v := 2) C dX12_writeRow_157 (by decide) ?_
                    refine r_callVN C M h [.int 3, .int 2] [] mlX12_546 mcX12_bits (fun q9 e9 => s_X12_bits 3 2  e9) kq_133 rfl (by decide) (by decide) rfl rfl (Nat.le_of_ble_eq_true rfl) dX12_writeRow_158 (fun _ T10 h => ?_)
                    refine r_goto (tgt := 188) C dX12_writeRow_161 (by decide) ?_
                    refine Jr.sub [4, 3] (lv' := [(0, .ref (ad 133)), (1, .int v1)]) rfl ?_
                    exact s_X12_writeRow_188 hn9 C M hk15 v1 T10 h
                · refine r_aload_n C dX12_writeRow_139 rfl 4 rfl ?_
                  refine r_bipush (v := 7) C dX12_writeRow_140 (by decide) ?_
                  refine r_iconst (v := 3) C dX12_writeRow_142 (by decide) ?_
                  refine r_callVN C M h [.int 7, .int 3] [] mlX12_546 mcX12_bits (fun q9 e9 => s_X12_bits 7 3  e9) kq_133 rfl (by decide) (by decide) rfl rfl (Nat.le_of_ble_eq_true rfl) dX12_writeRow_143 (fun _ T11 h => ?_)
                  refine r_goto (tgt := 188) C dX12_writeRow_146 (by decide) ?_
                  refine Jr.sub [4, 3] (lv' := [(0, .ref (ad 133)), (1, .int v1)]) rfl ?_
                  exact s_X12_writeRow_188 hn9 C M hk15 v1 T11 h
              · refine r_aload_n C dX12_writeRow_123 rfl 4 rfl ?_
                refine r_bipush (v := 6) C dX12_writeRow_124 (by decide) ?_
                refine r_iconst (v := 3) C dX12_writeRow_126 (by decide) ?_
                refine r_callVN C M h [.int 6, .int 3] [] mlX12_546 mcX12_bits (fun q9 e9 => s_X12_bits 6 3  e9) kq_133 rfl (by decide) (by decide) rfl rfl (Nat.le_of_ble_eq_true rfl) dX12_writeRow_127 (fun _ T12 h => ?_)
                refine r_goto (tgt := 188) C dX12_writeRow_130 (by decide) ?_
                refine Jr.sub [4, 3] (lv' := [(0, .ref (ad 133)), (1, .int v1)]) rfl ?_
                exact s_X12_writeRow_188 hn9 C M hk15 v1 T12 h
            · refine r_aload_n C dX12_writeRow_108 rfl 4 rfl ?_
              refine r_iconst (v := 3) C dX12_writeRow_109 (by decide) ?_
              refine r_iconst (v := 3) C dX12_writeRow_110 (by decide) ?_
              refine r_callVN C M h [.int 3, .int 3] [] mlX12_546 mcX12_bits (fun q9 e9 => s_X12_bits 3 3  e9) kq_133 rfl (by decide) (by decide) rfl rfl (Nat.le_of_ble_eq_true rfl) dX12_writeRow_111 (fun _ T13 h => ?_)
              refine r_goto (tgt := 188) C dX12_writeRow_114 (by decide) ?_
              refine Jr.sub [4, 3] (lv' := [(0, .ref (ad 133)), (1, .int v1)]) rfl ?_
              exact s_X12_writeRow_188 hn9 C M hk15 v1 T13 h
          · refine r_aload_n C dX12_writeRow_93 rfl 4 rfl ?_
            refine r_iconst (v := 1) C dX12_writeRow_94 (by decide) ?_
            refine r_iconst (v := 1) C dX12_writeRow_95 (by decide) ?_
            refine r_callVN C M h [.int 1, .int 1] [] mlX12_546 mcX12_bits (fun q9 e9 => s_X12_bits 1 1  e9) kq_133 rfl (by decide) (by decide) rfl rfl (Nat.le_of_ble_eq_true rfl) dX12_writeRow_96 (fun _ T14 h => ?_)
            refine r_goto (tgt := 188) C dX12_writeRow_99 (by decide) ?_
            refine Jr.sub [4, 3] (lv' := [(0, .ref (ad 133)), (1, .int v1)]) rfl ?_
            exact s_X12_writeRow_188 hn9 C M hk15 v1 T14 h
    · refine r_aload_n C dX12_writeRow_55 rfl 3 rfl ?_
      refine r_iconst (v := 4) C dX12_writeRow_56 (by decide) ?_
      refine r_iconst (v := 1) C dX12_writeRow_57 (by decide) ?_
      refine r_callVN C M h [.int 4, .int 1] [] mlX12_546 mcX12_bits (fun q9 e9 => s_X12_bits 4 1  e9) kq_133 rfl (by decide) (by decide) rfl rfl (Nat.le_of_ble_eq_true rfl) dX12_writeRow_58 (fun _ T15 h => ?_)
      refine r_aload_n C dX12_writeRow_61 rfl 3 rfl ?_
      show Jr _ _ _ _ _ _ 62 _
      refine r_iload_n C dX12_writeRow_62 rfl 0 rfl ?_
      refine r_puti (f := 1261) C flX12_525 (by decide) rfl rfl dX12_writeRow_63 kq_133 rfl h (fun T16 h => ?_)
      refine r_goto (tgt := 259) C dX12_writeRow_66 (by decide) ?_
      refine r_aload_n C dX12_writeRow_259 rfl 3 rfl ?_
      refine r_iconst (v := 0) C dX12_writeRow_260 (by decide) ?_
      refine r_putz (f := 1262) C flX12_522 (by decide) rfl rfl (by decide) dX12_writeRow_261 kq_133 rfl h (fun T17 h => ?_)
      show Jr _ _ _ _ _ _ 264 _
      refine r_goto (tgt := 15) C dX12_writeRow_264 (by decide) ?_
      refine Jr.sub [3] (lv' := [(0, .ref (ad 133))]) rfl ?_
      exact hk15 T17 h
noncomputable def f_X12_writeRow_l15 (n : Nat) : Mm → Option (Unit × Mm) := Nat.rec (fun  _ => none) (fun _ ih => f_X12_writeRow_b15 ih) n
theorem s_X12_writeRow_l15 {x : JX} {ad : Nat → Nat} {U : Mm} {S0 : Hp} {q : Unit × Mm}  (hn9 : x_n x = 5) (C : CB x RX12 cX12_writeRow) (M : CMr x 4 none S0 ad false U eV q) : ∀ (n : Nat), ∀ (T : Mm), f_X12_writeRow_l15  n  T = some q → Jr x ad false U T [(0, .ref (ad 133))] 15 [] := by
  intro n
  induction n with
  | zero => intro  T  h; exact absurd h (by intro h; cases h)
  | succ n ih => exact fun  T  h => s_X12_writeRow_b15 hn9 C M (ih)  T  h
noncomputable def f_X12_writeRow (T : Mm) : Option (Unit × Mm) :=
  lb (uI T 1261 133 0) fun T1 =>
  lb (uI T1 1262 133 1) fun T2 =>
  lb (uI T2 1263 133 0) fun T3 =>
  f_X12_writeRow_l15 FU T3
set_option maxRecDepth 100000 in
set_option maxHeartbeats 4000000 in
theorem s_X12_writeRow {ad : Nat → Nat} {U T : Mm} {q : Unit × Mm}  (h : f_X12_writeRow  T = some q) : Cr 4 yX12_writeRow cX12_writeRow 5 none [.ref (ad 133)] ad false U T eV q := by
  refine cr_of (by decide) (Nat.le_of_ble_eq_true rfl) fun x S0 hn9 C M => ?_
  have C : CB x RX12 cX12_writeRow := C
  refine Jr.eq (lv' := [(0, .ref (ad 133))]) (st' := []) rfl rfl ?_
  unfold f_X12_writeRow at h
  refine r_aload_n C dX12_writeRow_0 rfl 0 rfl ?_
  refine r_iconst (v := 0) C dX12_writeRow_1 (by decide) ?_
  refine r_puti (f := 1261) C flX12_525 (by decide) rfl rfl dX12_writeRow_2 kq_133 rfl h (fun T1 h => ?_)
  refine r_aload_n C dX12_writeRow_5 rfl 0 rfl ?_
  refine r_iconst (v := 1) C dX12_writeRow_6 (by decide) ?_
  show Jr _ _ _ _ _ _ 7 _
  refine r_putz (f := 1262) C flX12_522 (by decide) rfl rfl (by decide) dX12_writeRow_7 kq_133 rfl h (fun T2 h => ?_)
  refine r_aload_n C dX12_writeRow_10 rfl 0 rfl ?_
  refine r_iconst (v := 0) C dX12_writeRow_11 (by decide) ?_
  refine r_puti (f := 1263) C flX12_531 (by decide) rfl rfl dX12_writeRow_12 kq_133 rfl h (fun T3 h => ?_)
  exact s_X12_writeRow_l15 hn9 C M  FU T3 h
theorem dX12_entry_0 : decode cX12_entry 0 = .ok (.aload_n 0, 1) := by decide +kernel
theorem dX12_entry_1 : decode cX12_entry 1 = .ok (.iconst 2, 1) := by decide +kernel
theorem dX12_entry_2 : decode cX12_entry 2 = .ok (.iload_n 1, 1) := by decide +kernel
theorem dX12_entry_3 : decode cX12_entry 3 = .ok (.i2l, 1) := by decide +kernel
theorem dX12_entry_4 : decode cX12_entry 4 = .ok (.invokevirtual 563, 3) := by decide +kernel
theorem dX12_entry_7 : decode cX12_entry 7 = .ok (.aload_n 0, 1) := by decide +kernel
theorem dX12_entry_8 : decode cX12_entry 8 = .ok (.iconst 2, 1) := by decide +kernel
theorem dX12_entry_9 : decode cX12_entry 9 = .ok (.iload_n 2, 1) := by decide +kernel
theorem dX12_entry_10 : decode cX12_entry 10 = .ok (.i2l, 1) := by decide +kernel
theorem dX12_entry_11 : decode cX12_entry 11 = .ok (.invokevirtual 563, 3) := by decide +kernel
theorem dX12_entry_14 : decode cX12_entry 14 = .ok (.aload_n 0, 1) := by decide +kernel
theorem dX12_entry_15 : decode cX12_entry 15 = .ok (.iconst 4, 1) := by decide +kernel
theorem dX12_entry_16 : decode cX12_entry 16 = .ok (.lconst 1, 1) := by decide +kernel
theorem dX12_entry_17 : decode cX12_entry 17 = .ok (.invokevirtual 563, 3) := by decide +kernel
theorem dX12_entry_20 : decode cX12_entry 20 = .ok (.aload_n 0, 1) := by decide +kernel
theorem dX12_entry_21 : decode cX12_entry 21 = .ok (.iconst 4, 1) := by decide +kernel
theorem dX12_entry_22 : decode cX12_entry 22 = .ok (.iload_n 3, 1) := by decide +kernel
theorem dX12_entry_23 : decode cX12_entry 23 = .ok (.i2l, 1) := by decide +kernel
theorem dX12_entry_24 : decode cX12_entry 24 = .ok (.invokevirtual 563, 3) := by decide +kernel
theorem dX12_entry_27 : decode cX12_entry 27 = .ok (.return_, 1) := by decide +kernel
noncomputable def f_X12_entry (p1 : Int32) (p2 : Int32) (p3 : Int32) (T : Mm) : Option (Unit × Mm) :=
  bd (f_X12_outNumber 2 ((p1).toInt64) T) fun _ T1 =>
  bd (f_X12_outNumber 2 ((p2).toInt64) T1) fun _ T2 =>
  bd (f_X12_outNumber 4 1 T2) fun _ T3 =>
  bd (f_X12_outNumber 4 ((p3).toInt64) T3) fun _ T4 =>
  some ((), T4)
set_option maxRecDepth 100000 in
set_option maxHeartbeats 4000000 in
theorem s_X12_entry {ad : Nat → Nat} {U T : Mm} {q : Unit × Mm}  (p1 : Int32) (p2 : Int32) (p3 : Int32) (h : f_X12_entry p1 p2 p3 T = some q) : Cr 3 yX12_entry cX12_entry 4 none [.ref (ad 133), .int p1, .int p2, .int p3] ad false U T eV q := by
  refine cr_of (by decide) (Nat.le_of_ble_eq_true rfl) fun x S0 hn9 C M => ?_
  have C : CB x RX12 cX12_entry := C
  refine Jr.eq (lv' := [(0, .ref (ad 133)), (1, .int p1), (2, .int p2), (3, .int p3)]) (st' := []) rfl rfl ?_
  unfold f_X12_entry at h
  refine r_aload_n C dX12_entry_0 rfl 0 rfl ?_
  refine r_iconst (v := 2) C dX12_entry_1 (by decide) ?_
  refine r_iload_n C dX12_entry_2 rfl 1 rfl ?_
  refine r_i2l C dX12_entry_3 rfl ?_
  refine r_callVN C M h [.int 2, .long ((p1).toInt64)] [] mlX12_563 mcX12_outNumber (fun q9 e9 => s_X12_outNumber 2 ((p1).toInt64)  e9) kq_133 rfl (by decide) (by decide) rfl rfl (Nat.le_of_ble_eq_true rfl) dX12_entry_4 (fun _ T1 h => ?_)
  show Jr _ _ _ _ _ _ 7 _
  refine r_aload_n C dX12_entry_7 rfl 0 rfl ?_
  refine r_iconst (v := 2) C dX12_entry_8 (by decide) ?_
  refine r_iload_n C dX12_entry_9 rfl 2 rfl ?_
  refine r_i2l C dX12_entry_10 rfl ?_
  refine r_callVN C M h [.int 2, .long ((p2).toInt64)] [] mlX12_563 mcX12_outNumber (fun q9 e9 => s_X12_outNumber 2 ((p2).toInt64)  e9) kq_133 rfl (by decide) (by decide) rfl rfl (Nat.le_of_ble_eq_true rfl) dX12_entry_11 (fun _ T2 h => ?_)
  refine r_aload_n C dX12_entry_14 rfl 0 rfl ?_
  show Jr _ _ _ _ _ _ 15 _
  refine r_iconst (v := 4) C dX12_entry_15 (by decide) ?_
  refine r_lconst (v := 1) C dX12_entry_16 (by decide) ?_
  refine r_callVN C M h [.int 4, .long 1] [] mlX12_563 mcX12_outNumber (fun q9 e9 => s_X12_outNumber 4 1  e9) kq_133 rfl (by decide) (by decide) rfl rfl (Nat.le_of_ble_eq_true rfl) dX12_entry_17 (fun _ T3 h => ?_)
  refine r_aload_n C dX12_entry_20 rfl 0 rfl ?_
  refine r_iconst (v := 4) C dX12_entry_21 (by decide) ?_
  refine r_iload_n C dX12_entry_22 rfl 3 rfl ?_
  show Jr _ _ _ _ _ _ 23 _
  refine r_i2l C dX12_entry_23 rfl ?_
  refine r_callVN C M h [.int 4, .long ((p3).toInt64)] [] mlX12_563 mcX12_outNumber (fun q9 e9 => s_X12_outNumber 4 ((p3).toInt64)  e9) kq_133 rfl (by decide) (by decide) rfl rfl (Nat.le_of_ble_eq_true rfl) dX12_entry_24 (fun _ T4 h => ?_)
  exact r_vret C M dX12_entry_27 h
theorem dX12_written_0 : decode cX12_written 0 = .ok (.iload_n 1, 1) := by decide +kernel
theorem dX12_written_1 : decode cX12_written 1 = .ok (.ifCond .ne 37, 3) := by decide +kernel
theorem dX12_written_4 : decode cX12_written 4 = .ok (.aload_n 0, 1) := by decide +kernel
theorem dX12_written_5 : decode cX12_written 5 = .ok (.bipush 73, 2) := by decide +kernel
theorem dX12_written_7 : decode cX12_written 7 = .ok (.invokevirtual 540, 3) := by decide +kernel
theorem dX12_written_10 : decode cX12_written 10 = .ok (.aload_n 0, 1) := by decide +kernel
theorem dX12_written_11 : decode cX12_written 11 = .ok (.bipush 73, 2) := by decide +kernel
theorem dX12_written_13 : decode cX12_written 13 = .ok (.invokevirtual 540, 3) := by decide +kernel
theorem dX12_written_16 : decode cX12_written 16 = .ok (.aload_n 0, 1) := by decide +kernel
theorem dX12_written_17 : decode cX12_written 17 = .ok (.iconst 2, 1) := by decide +kernel
theorem dX12_written_18 : decode cX12_written 18 = .ok (.ldc2_w 561, 3) := by decide +kernel
theorem dX12_written_21 : decode cX12_written 21 = .ok (.invokevirtual 563, 3) := by decide +kernel
theorem dX12_written_24 : decode cX12_written 24 = .ok (.aload_n 0, 1) := by decide +kernel
theorem dX12_written_25 : decode cX12_written 25 = .ok (.aload_n 0, 1) := by decide +kernel
theorem dX12_written_26 : decode cX12_written 26 = .ok (.getfield 543, 3) := by decide +kernel
theorem dX12_written_29 : decode cX12_written 29 = .ok (.putfield 567, 3) := by decide +kernel
theorem dX12_written_32 : decode cX12_written 32 = .ok (.aload_n 0, 1) := by decide +kernel
theorem dX12_written_33 : decode cX12_written 33 = .ok (.iconst 4, 1) := by decide +kernel
theorem dX12_written_34 : decode cX12_written 34 = .ok (.lconst 0, 1) := by decide +kernel
theorem dX12_written_35 : decode cX12_written 35 = .ok (.invokevirtual 563, 3) := by decide +kernel
theorem dX12_written_38 : decode cX12_written 38 = .ok (.aload_n 0, 1) := by decide +kernel
theorem dX12_written_39 : decode cX12_written 39 = .ok (.getfield 543, 3) := by decide +kernel
theorem dX12_written_42 : decode cX12_written 42 = .ok (.istore_n 2, 1) := by decide +kernel
theorem dX12_written_43 : decode cX12_written 43 = .ok (.aload_n 0, 1) := by decide +kernel
theorem dX12_written_44 : decode cX12_written 44 = .ok (.aload_n 0, 1) := by decide +kernel
theorem dX12_written_45 : decode cX12_written 45 = .ok (.getfield 89, 3) := by decide +kernel
theorem dX12_written_48 : decode cX12_written 48 = .ok (.iload_n 1, 1) := by decide +kernel
theorem dX12_written_49 : decode cX12_written 49 = .ok (.iaload, 1) := by decide +kernel
theorem dX12_written_50 : decode cX12_written 50 = .ok (.putfield 528, 3) := by decide +kernel
theorem dX12_written_53 : decode cX12_written 53 = .ok (.aload_n 0, 1) := by decide +kernel
theorem dX12_written_54 : decode cX12_written 54 = .ok (.iconst 0, 1) := by decide +kernel
theorem dX12_written_55 : decode cX12_written 55 = .ok (.putfield 537, 3) := by decide +kernel
theorem dX12_written_58 : decode cX12_written 58 = .ok (.aload_n 0, 1) := by decide +kernel
theorem dX12_written_59 : decode cX12_written 59 = .ok (.iconst 0, 1) := by decide +kernel
theorem dX12_written_60 : decode cX12_written 60 = .ok (.putfield 534, 3) := by decide +kernel
theorem dX12_written_63 : decode cX12_written 63 = .ok (.iconst 0, 1) := by decide +kernel
theorem dX12_written_64 : decode cX12_written 64 = .ok (.istore_n 3, 1) := by decide +kernel
theorem dX12_written_65 : decode cX12_written 65 = .ok (.iload_n 3, 1) := by decide +kernel
theorem dX12_written_66 : decode cX12_written 66 = .ok (.aload_n 0, 1) := by decide +kernel
theorem dX12_written_67 : decode cX12_written 67 = .ok (.getfield 528, 3) := by decide +kernel
theorem dX12_written_70 : decode cX12_written 70 = .ok (.if_icmp .ge 16, 3) := by decide +kernel
theorem dX12_written_73 : decode cX12_written 73 = .ok (.aload_n 0, 1) := by decide +kernel
theorem dX12_written_74 : decode cX12_written 74 = .ok (.getfield 114, 3) := by decide +kernel
theorem dX12_written_77 : decode cX12_written 77 = .ok (.iload_n 3, 1) := by decide +kernel
theorem dX12_written_78 : decode cX12_written 78 = .ok (.iconst 0, 1) := by decide +kernel
theorem dX12_written_79 : decode cX12_written 79 = .ok (.iastore, 1) := by decide +kernel
theorem dX12_written_80 : decode cX12_written 80 = .ok (.iinc 3 1, 3) := by decide +kernel
theorem dX12_written_83 : decode cX12_written 83 = .ok (.goto (-18), 3) := by decide +kernel
theorem dX12_written_86 : decode cX12_written 86 = .ok (.iconst 0, 1) := by decide +kernel
theorem dX12_written_87 : decode cX12_written 87 = .ok (.istore_n 3, 1) := by decide +kernel
theorem dX12_written_88 : decode cX12_written 88 = .ok (.iload_n 3, 1) := by decide +kernel
theorem dX12_written_89 : decode cX12_written 89 = .ok (.aload_n 0, 1) := by decide +kernel
theorem dX12_written_90 : decode cX12_written 90 = .ok (.getfield 92, 3) := by decide +kernel
theorem dX12_written_93 : decode cX12_written 93 = .ok (.iload_n 1, 1) := by decide +kernel
theorem dX12_written_94 : decode cX12_written 94 = .ok (.iaload, 1) := by decide +kernel
theorem dX12_written_95 : decode cX12_written 95 = .ok (.if_icmp .ge 108, 3) := by decide +kernel
theorem dX12_written_98 : decode cX12_written 98 = .ok (.aload_n 0, 1) := by decide +kernel
theorem dX12_written_99 : decode cX12_written 99 = .ok (.getfield 191, 3) := by decide +kernel
theorem dX12_written_102 : decode cX12_written 102 = .ok (.ifCond .ne 101, 3) := by decide +kernel
theorem dX12_written_105 : decode cX12_written 105 = .ok (.iconst 0, 1) := by decide +kernel
theorem dX12_written_106 : decode cX12_written 106 = .ok (.istore 4, 2) := by decide +kernel
theorem dX12_written_108 : decode cX12_written 108 = .ok (.iload 4, 2) := by decide +kernel
theorem dX12_written_110 : decode cX12_written 110 = .ok (.aload_n 0, 1) := by decide +kernel
theorem dX12_written_111 : decode cX12_written 111 = .ok (.getfield 528, 3) := by decide +kernel
theorem dX12_written_114 : decode cX12_written 114 = .ok (.if_icmp .ge 47, 3) := by decide +kernel
theorem dX12_written_117 : decode cX12_written 117 = .ok (.aload_n 0, 1) := by decide +kernel
theorem dX12_written_118 : decode cX12_written 118 = .ok (.getfield 117, 3) := by decide +kernel
theorem dX12_written_121 : decode cX12_written 121 = .ok (.iload 4, 2) := by decide +kernel
theorem dX12_written_123 : decode cX12_written 123 = .ok (.aload_n 0, 1) := by decide +kernel
theorem dX12_written_124 : decode cX12_written 124 = .ok (.getfield 86, 3) := by decide +kernel
theorem dX12_written_127 : decode cX12_written 127 = .ok (.iload_n 1, 1) := by decide +kernel
theorem dX12_written_128 : decode cX12_written 128 = .ok (.ldc 81, 2) := by decide +kernel
theorem dX12_written_130 : decode cX12_written 130 = .ok (.imul, 1) := by decide +kernel
theorem dX12_written_131 : decode cX12_written 131 = .ok (.bipush 80, 2) := by decide +kernel
theorem dX12_written_133 : decode cX12_written 133 = .ok (.iload_n 3, 1) := by decide +kernel
theorem dX12_written_134 : decode cX12_written 134 = .ok (.imul, 1) := by decide +kernel
theorem dX12_written_135 : decode cX12_written 135 = .ok (.iadd, 1) := by decide +kernel
theorem dX12_written_136 : decode cX12_written 136 = .ok (.iload 4, 2) := by decide +kernel
theorem dX12_written_138 : decode cX12_written 138 = .ok (.bipush 8, 2) := by decide +kernel
theorem dX12_written_140 : decode cX12_written 140 = .ok (.idiv, 1) := by decide +kernel
theorem dX12_written_141 : decode cX12_written 141 = .ok (.iadd, 1) := by decide +kernel
theorem dX12_written_142 : decode cX12_written 142 = .ok (.baload, 1) := by decide +kernel
theorem dX12_written_143 : decode cX12_written 143 = .ok (.bipush 7, 2) := by decide +kernel
theorem dX12_written_145 : decode cX12_written 145 = .ok (.iload 4, 2) := by decide +kernel
theorem dX12_written_147 : decode cX12_written 147 = .ok (.bipush 8, 2) := by decide +kernel
theorem dX12_written_149 : decode cX12_written 149 = .ok (.irem, 1) := by decide +kernel
theorem dX12_written_150 : decode cX12_written 150 = .ok (.isub, 1) := by decide +kernel
theorem dX12_written_151 : decode cX12_written 151 = .ok (.ishr, 1) := by decide +kernel
theorem dX12_written_152 : decode cX12_written 152 = .ok (.iconst 1, 1) := by decide +kernel
theorem dX12_written_153 : decode cX12_written 153 = .ok (.iand, 1) := by decide +kernel
theorem dX12_written_154 : decode cX12_written 154 = .ok (.iastore, 1) := by decide +kernel
theorem dX12_written_155 : decode cX12_written 155 = .ok (.iinc 4 1, 3) := by decide +kernel
theorem dX12_written_158 : decode cX12_written 158 = .ok (.goto (-50), 3) := by decide +kernel
theorem dX12_written_161 : decode cX12_written 161 = .ok (.aload_n 0, 1) := by decide +kernel
theorem dX12_written_162 : decode cX12_written 162 = .ok (.invokevirtual 570, 3) := by decide +kernel
theorem dX12_written_165 : decode cX12_written 165 = .ok (.iconst 0, 1) := by decide +kernel
theorem dX12_written_166 : decode cX12_written 166 = .ok (.istore 4, 2) := by decide +kernel
theorem dX12_written_168 : decode cX12_written 168 = .ok (.iload 4, 2) := by decide +kernel
theorem dX12_written_170 : decode cX12_written 170 = .ok (.aload_n 0, 1) := by decide +kernel
theorem dX12_written_171 : decode cX12_written 171 = .ok (.getfield 528, 3) := by decide +kernel
theorem dX12_written_174 : decode cX12_written 174 = .ok (.if_icmp .ge 23, 3) := by decide +kernel
theorem dX12_written_177 : decode cX12_written 177 = .ok (.aload_n 0, 1) := by decide +kernel
theorem dX12_written_178 : decode cX12_written 178 = .ok (.getfield 114, 3) := by decide +kernel
theorem dX12_written_181 : decode cX12_written 181 = .ok (.iload 4, 2) := by decide +kernel
theorem dX12_written_183 : decode cX12_written 183 = .ok (.aload_n 0, 1) := by decide +kernel
theorem dX12_written_184 : decode cX12_written 184 = .ok (.getfield 117, 3) := by decide +kernel
theorem dX12_written_187 : decode cX12_written 187 = .ok (.iload 4, 2) := by decide +kernel
theorem dX12_written_189 : decode cX12_written 189 = .ok (.iaload, 1) := by decide +kernel
theorem dX12_written_190 : decode cX12_written 190 = .ok (.iastore, 1) := by decide +kernel
theorem dX12_written_191 : decode cX12_written 191 = .ok (.iinc 4 1, 3) := by decide +kernel
theorem dX12_written_194 : decode cX12_written 194 = .ok (.goto (-26), 3) := by decide +kernel
theorem dX12_written_197 : decode cX12_written 197 = .ok (.iinc 3 1, 3) := by decide +kernel
theorem dX12_written_200 : decode cX12_written 200 = .ok (.goto (-112), 3) := by decide +kernel
theorem dX12_written_203 : decode cX12_written 203 = .ok (.aload_n 0, 1) := by decide +kernel
theorem dX12_written_204 : decode cX12_written 204 = .ok (.bipush 12, 2) := by decide +kernel
theorem dX12_written_206 : decode cX12_written 206 = .ok (.iconst 1, 1) := by decide +kernel
theorem dX12_written_207 : decode cX12_written 207 = .ok (.invokevirtual 546, 3) := by decide +kernel
theorem dX12_written_210 : decode cX12_written 210 = .ok (.aload_n 0, 1) := by decide +kernel
theorem dX12_written_211 : decode cX12_written 211 = .ok (.bipush 12, 2) := by decide +kernel
theorem dX12_written_213 : decode cX12_written 213 = .ok (.iconst 1, 1) := by decide +kernel
theorem dX12_written_214 : decode cX12_written 214 = .ok (.invokevirtual 546, 3) := by decide +kernel
theorem dX12_written_217 : decode cX12_written 217 = .ok (.aload_n 0, 1) := by decide +kernel
theorem dX12_written_218 : decode cX12_written 218 = .ok (.getfield 537, 3) := by decide +kernel
theorem dX12_written_221 : decode cX12_written 221 = .ok (.ifCond .le 15, 3) := by decide +kernel
theorem dX12_written_224 : decode cX12_written 224 = .ok (.aload_n 0, 1) := by decide +kernel
theorem dX12_written_225 : decode cX12_written 225 = .ok (.bipush 8, 2) := by decide +kernel
theorem dX12_written_227 : decode cX12_written 227 = .ok (.aload_n 0, 1) := by decide +kernel
theorem dX12_written_228 : decode cX12_written 228 = .ok (.getfield 537, 3) := by decide +kernel
theorem dX12_written_231 : decode cX12_written 231 = .ok (.isub, 1) := by decide +kernel
theorem dX12_written_232 : decode cX12_written 232 = .ok (.iconst 0, 1) := by decide +kernel
theorem dX12_written_233 : decode cX12_written 233 = .ok (.invokevirtual 546, 3) := by decide +kernel
theorem dX12_written_236 : decode cX12_written 236 = .ok (.aload_n 0, 1) := by decide +kernel
theorem dX12_written_237 : decode cX12_written 237 = .ok (.getfield 543, 3) := by decide +kernel
theorem dX12_written_240 : decode cX12_written 240 = .ok (.iload_n 2, 1) := by decide +kernel
theorem dX12_written_241 : decode cX12_written 241 = .ok (.isub, 1) := by decide +kernel
theorem dX12_written_242 : decode cX12_written 242 = .ok (.istore_n 3, 1) := by decide +kernel
theorem dX12_written_243 : decode cX12_written 243 = .ok (.iload_n 3, 1) := by decide +kernel
theorem dX12_written_244 : decode cX12_written 244 = .ok (.iconst 2, 1) := by decide +kernel
theorem dX12_written_245 : decode cX12_written 245 = .ok (.irem, 1) := by decide +kernel
theorem dX12_written_246 : decode cX12_written 246 = .ok (.iconst 1, 1) := by decide +kernel
theorem dX12_written_247 : decode cX12_written 247 = .ok (.if_icmp .ne 8, 3) := by decide +kernel
theorem dX12_written_250 : decode cX12_written 250 = .ok (.aload_n 0, 1) := by decide +kernel
theorem dX12_written_251 : decode cX12_written 251 = .ok (.iconst 0, 1) := by decide +kernel
theorem dX12_written_252 : decode cX12_written 252 = .ok (.invokevirtual 540, 3) := by decide +kernel
theorem dX12_written_255 : decode cX12_written 255 = .ok (.aload_n 0, 1) := by decide +kernel
theorem dX12_written_256 : decode cX12_written 256 = .ok (.getfield 191, 3) := by decide +kernel
theorem dX12_written_259 : decode cX12_written 259 = .ok (.ifCond .eq 4, 3) := by decide +kernel
theorem dX12_written_262 : decode cX12_written 262 = .ok (.return_, 1) := by decide +kernel
theorem dX12_written_263 : decode cX12_written 263 = .ok (.aload_n 0, 1) := by decide +kernel
theorem dX12_written_264 : decode cX12_written 264 = .ok (.getfield 543, 3) := by decide +kernel
theorem dX12_written_267 : decode cX12_written 267 = .ok (.istore 4, 2) := by decide +kernel
theorem dX12_written_269 : decode cX12_written 269 = .ok (.iconst 0, 1) := by decide +kernel
theorem dX12_written_270 : decode cX12_written 270 = .ok (.istore 5, 2) := by decide +kernel
theorem dX12_written_272 : decode cX12_written 272 = .ok (.iload 5, 2) := by decide +kernel
theorem dX12_written_274 : decode cX12_written 274 = .ok (.iconst 4, 1) := by decide +kernel
theorem dX12_written_275 : decode cX12_written 275 = .ok (.if_icmp .ge 30, 3) := by decide +kernel
theorem dX12_written_278 : decode cX12_written 278 = .ok (.aload_n 0, 1) := by decide +kernel
theorem dX12_written_279 : decode cX12_written 279 = .ok (.getfield 96, 3) := by decide +kernel
theorem dX12_written_282 : decode cX12_written 282 = .ok (.aload_n 0, 1) := by decide +kernel
theorem dX12_written_283 : decode cX12_written 283 = .ok (.getfield 567, 3) := by decide +kernel
theorem dX12_written_286 : decode cX12_written 286 = .ok (.iload 5, 2) := by decide +kernel
theorem dX12_written_288 : decode cX12_written 288 = .ok (.iadd, 1) := by decide +kernel
theorem dX12_written_289 : decode cX12_written 289 = .ok (.iload 4, 2) := by decide +kernel
theorem dX12_written_291 : decode cX12_written 291 = .ok (.bipush 8, 2) := by decide +kernel
theorem dX12_written_293 : decode cX12_written 293 = .ok (.iload 5, 2) := by decide +kernel
theorem dX12_written_295 : decode cX12_written 295 = .ok (.imul, 1) := by decide +kernel
theorem dX12_written_296 : decode cX12_written 296 = .ok (.ishr, 1) := by decide +kernel
theorem dX12_written_297 : decode cX12_written 297 = .ok (.i2b, 1) := by decide +kernel
theorem dX12_written_298 : decode cX12_written 298 = .ok (.bastore, 1) := by decide +kernel
theorem dX12_written_299 : decode cX12_written 299 = .ok (.iinc 5 1, 3) := by decide +kernel
theorem dX12_written_302 : decode cX12_written 302 = .ok (.goto (-30), 3) := by decide +kernel
theorem dX12_written_305 : decode cX12_written 305 = .ok (.aload_n 0, 1) := by decide +kernel
theorem dX12_written_306 : decode cX12_written 306 = .ok (.iconst 2, 1) := by decide +kernel
theorem dX12_written_307 : decode cX12_written 307 = .ok (.ldc2_w 573, 3) := by decide +kernel
theorem dX12_written_310 : decode cX12_written 310 = .ok (.invokevirtual 563, 3) := by decide +kernel
theorem dX12_written_313 : decode cX12_written 313 = .ok (.aload_n 0, 1) := by decide +kernel
theorem dX12_written_314 : decode cX12_written 314 = .ok (.sipush 256, 3) := by decide +kernel
theorem dX12_written_317 : decode cX12_written 317 = .ok (.iconst 4, 1) := by decide +kernel
theorem dX12_written_318 : decode cX12_written 318 = .ok (.aload_n 0, 1) := by decide +kernel
theorem dX12_written_319 : decode cX12_written 319 = .ok (.getfield 528, 3) := by decide +kernel
theorem dX12_written_322 : decode cX12_written 322 = .ok (.invokevirtual 575, 3) := by decide +kernel
theorem dX12_written_325 : decode cX12_written 325 = .ok (.aload_n 0, 1) := by decide +kernel
theorem dX12_written_326 : decode cX12_written 326 = .ok (.sipush 257, 3) := by decide +kernel
theorem dX12_written_329 : decode cX12_written 329 = .ok (.iconst 4, 1) := by decide +kernel
theorem dX12_written_330 : decode cX12_written 330 = .ok (.aload_n 0, 1) := by decide +kernel
theorem dX12_written_331 : decode cX12_written 331 = .ok (.getfield 92, 3) := by decide +kernel
theorem dX12_written_334 : decode cX12_written 334 = .ok (.iload_n 1, 1) := by decide +kernel
theorem dX12_written_335 : decode cX12_written 335 = .ok (.iaload, 1) := by decide +kernel
theorem dX12_written_336 : decode cX12_written 336 = .ok (.invokevirtual 575, 3) := by decide +kernel
theorem dX12_written_339 : decode cX12_written 339 = .ok (.aload_n 0, 1) := by decide +kernel
theorem dX12_written_340 : decode cX12_written 340 = .ok (.sipush 258, 3) := by decide +kernel
theorem dX12_written_343 : decode cX12_written 343 = .ok (.iconst 3, 1) := by decide +kernel
theorem dX12_written_344 : decode cX12_written 344 = .ok (.iconst 1, 1) := by decide +kernel
theorem dX12_written_345 : decode cX12_written 345 = .ok (.invokevirtual 575, 3) := by decide +kernel
theorem dX12_written_348 : decode cX12_written 348 = .ok (.aload_n 0, 1) := by decide +kernel
theorem dX12_written_349 : decode cX12_written 349 = .ok (.sipush 259, 3) := by decide +kernel
theorem dX12_written_352 : decode cX12_written 352 = .ok (.iconst 3, 1) := by decide +kernel
theorem dX12_written_353 : decode cX12_written 353 = .ok (.iconst 4, 1) := by decide +kernel
theorem dX12_written_354 : decode cX12_written 354 = .ok (.invokevirtual 575, 3) := by decide +kernel
theorem dX12_written_357 : decode cX12_written 357 = .ok (.aload_n 0, 1) := by decide +kernel
theorem dX12_written_358 : decode cX12_written 358 = .ok (.sipush 262, 3) := by decide +kernel
theorem dX12_written_361 : decode cX12_written 361 = .ok (.iconst 3, 1) := by decide +kernel
theorem dX12_written_362 : decode cX12_written 362 = .ok (.iconst 0, 1) := by decide +kernel
theorem dX12_written_363 : decode cX12_written 363 = .ok (.invokevirtual 575, 3) := by decide +kernel
theorem dX12_written_366 : decode cX12_written 366 = .ok (.aload_n 0, 1) := by decide +kernel
theorem dX12_written_367 : decode cX12_written 367 = .ok (.sipush 273, 3) := by decide +kernel
theorem dX12_written_370 : decode cX12_written 370 = .ok (.iconst 4, 1) := by decide +kernel
theorem dX12_written_371 : decode cX12_written 371 = .ok (.iload_n 2, 1) := by decide +kernel
theorem dX12_written_372 : decode cX12_written 372 = .ok (.invokevirtual 575, 3) := by decide +kernel
theorem dX12_written_375 : decode cX12_written 375 = .ok (.aload_n 0, 1) := by decide +kernel
theorem dX12_written_376 : decode cX12_written 376 = .ok (.sipush 277, 3) := by decide +kernel
theorem dX12_written_379 : decode cX12_written 379 = .ok (.iconst 3, 1) := by decide +kernel
theorem dX12_written_380 : decode cX12_written 380 = .ok (.iconst 1, 1) := by decide +kernel
theorem dX12_written_381 : decode cX12_written 381 = .ok (.invokevirtual 575, 3) := by decide +kernel
theorem dX12_written_384 : decode cX12_written 384 = .ok (.aload_n 0, 1) := by decide +kernel
theorem dX12_written_385 : decode cX12_written 385 = .ok (.sipush 278, 3) := by decide +kernel
theorem dX12_written_388 : decode cX12_written 388 = .ok (.iconst 4, 1) := by decide +kernel
theorem dX12_written_389 : decode cX12_written 389 = .ok (.aload_n 0, 1) := by decide +kernel
theorem dX12_written_390 : decode cX12_written 390 = .ok (.getfield 92, 3) := by decide +kernel
theorem dX12_written_393 : decode cX12_written 393 = .ok (.iload_n 1, 1) := by decide +kernel
theorem dX12_written_394 : decode cX12_written 394 = .ok (.iaload, 1) := by decide +kernel
theorem dX12_written_395 : decode cX12_written 395 = .ok (.invokevirtual 575, 3) := by decide +kernel
theorem dX12_written_398 : decode cX12_written 398 = .ok (.aload_n 0, 1) := by decide +kernel
theorem dX12_written_399 : decode cX12_written 399 = .ok (.sipush 279, 3) := by decide +kernel
theorem dX12_written_402 : decode cX12_written 402 = .ok (.iconst 4, 1) := by decide +kernel
theorem dX12_written_403 : decode cX12_written 403 = .ok (.iload_n 3, 1) := by decide +kernel
theorem dX12_written_404 : decode cX12_written 404 = .ok (.invokevirtual 575, 3) := by decide +kernel
theorem dX12_written_407 : decode cX12_written 407 = .ok (.aload_n 0, 1) := by decide +kernel
theorem dX12_written_408 : decode cX12_written 408 = .ok (.sipush 282, 3) := by decide +kernel
theorem dX12_written_411 : decode cX12_written 411 = .ok (.iconst 5, 1) := by decide +kernel
theorem dX12_written_412 : decode cX12_written 412 = .ok (.iload 4, 2) := by decide +kernel
theorem dX12_written_414 : decode cX12_written 414 = .ok (.iconst 2, 1) := by decide +kernel
theorem dX12_written_415 : decode cX12_written 415 = .ok (.iadd, 1) := by decide +kernel
theorem dX12_written_416 : decode cX12_written 416 = .ok (.sipush 156, 3) := by decide +kernel
theorem dX12_written_419 : decode cX12_written 419 = .ok (.iadd, 1) := by decide +kernel
theorem dX12_written_420 : decode cX12_written 420 = .ok (.iconst 4, 1) := by decide +kernel
theorem dX12_written_421 : decode cX12_written 421 = .ok (.iadd, 1) := by decide +kernel
theorem dX12_written_422 : decode cX12_written 422 = .ok (.invokevirtual 575, 3) := by decide +kernel
theorem dX12_written_425 : decode cX12_written 425 = .ok (.aload_n 0, 1) := by decide +kernel
theorem dX12_written_426 : decode cX12_written 426 = .ok (.sipush 283, 3) := by decide +kernel
theorem dX12_written_429 : decode cX12_written 429 = .ok (.iconst 5, 1) := by decide +kernel
theorem dX12_written_430 : decode cX12_written 430 = .ok (.iload 4, 2) := by decide +kernel
theorem dX12_written_432 : decode cX12_written 432 = .ok (.iconst 2, 1) := by decide +kernel
theorem dX12_written_433 : decode cX12_written 433 = .ok (.iadd, 1) := by decide +kernel
theorem dX12_written_434 : decode cX12_written 434 = .ok (.sipush 156, 3) := by decide +kernel
theorem dX12_written_437 : decode cX12_written 437 = .ok (.iadd, 1) := by decide +kernel
theorem dX12_written_438 : decode cX12_written 438 = .ok (.iconst 4, 1) := by decide +kernel
theorem dX12_written_439 : decode cX12_written 439 = .ok (.iadd, 1) := by decide +kernel
theorem dX12_written_440 : decode cX12_written 440 = .ok (.invokevirtual 575, 3) := by decide +kernel
theorem dX12_written_443 : decode cX12_written 443 = .ok (.aload_n 0, 1) := by decide +kernel
theorem dX12_written_444 : decode cX12_written 444 = .ok (.sipush 293, 3) := by decide +kernel
theorem dX12_written_447 : decode cX12_written 447 = .ok (.iconst 4, 1) := by decide +kernel
theorem dX12_written_448 : decode cX12_written 448 = .ok (.iconst 0, 1) := by decide +kernel
theorem dX12_written_449 : decode cX12_written 449 = .ok (.invokevirtual 575, 3) := by decide +kernel
theorem dX12_written_452 : decode cX12_written 452 = .ok (.aload_n 0, 1) := by decide +kernel
theorem dX12_written_453 : decode cX12_written 453 = .ok (.sipush 296, 3) := by decide +kernel
theorem dX12_written_456 : decode cX12_written 456 = .ok (.iconst 3, 1) := by decide +kernel
theorem dX12_written_457 : decode cX12_written 457 = .ok (.iconst 2, 1) := by decide +kernel
theorem dX12_written_458 : decode cX12_written 458 = .ok (.invokevirtual 575, 3) := by decide +kernel
theorem dX12_written_461 : decode cX12_written 461 = .ok (.aload_n 0, 1) := by decide +kernel
theorem dX12_written_462 : decode cX12_written 462 = .ok (.aload_n 0, 1) := by decide +kernel
theorem dX12_written_463 : decode cX12_written 463 = .ok (.getfield 543, 3) := by decide +kernel
theorem dX12_written_466 : decode cX12_written 466 = .ok (.putfield 567, 3) := by decide +kernel
theorem dX12_written_469 : decode cX12_written 469 = .ok (.aload_n 0, 1) := by decide +kernel
theorem dX12_written_470 : decode cX12_written 470 = .ok (.iconst 4, 1) := by decide +kernel
theorem dX12_written_471 : decode cX12_written 471 = .ok (.lconst 0, 1) := by decide +kernel
theorem dX12_written_472 : decode cX12_written 472 = .ok (.invokevirtual 563, 3) := by decide +kernel
theorem dX12_written_475 : decode cX12_written 475 = .ok (.aload_n 0, 1) := by decide +kernel
theorem dX12_written_476 : decode cX12_written 476 = .ok (.iconst 4, 1) := by decide +kernel
theorem dX12_written_477 : decode cX12_written 477 = .ok (.ldc2_w 578, 3) := by decide +kernel
theorem dX12_written_480 : decode cX12_written 480 = .ok (.invokevirtual 563, 3) := by decide +kernel
theorem dX12_written_483 : decode cX12_written 483 = .ok (.aload_n 0, 1) := by decide +kernel
theorem dX12_written_484 : decode cX12_written 484 = .ok (.iconst 4, 1) := by decide +kernel
theorem dX12_written_485 : decode cX12_written 485 = .ok (.lconst 1, 1) := by decide +kernel
theorem dX12_written_486 : decode cX12_written 486 = .ok (.invokevirtual 563, 3) := by decide +kernel
theorem dX12_written_489 : decode cX12_written 489 = .ok (.return_, 1) := by decide +kernel
noncomputable def f_X12_written_b272 (k272 : Int32 → Int32 → Int32 → Int32 → Int32 → Mm → Option (Unit × Mm)) (a1 : Int32) (a2 : Int32) (a3 : Int32) (a4 : Int32) (a5 : Int32) (T : Mm) : Option (Unit × Mm) :=
  if 4 ≤ a5 then (bd (f_X12_outNumber 2 13 T) fun _ T1 =>
  bd (f_X12_entry 256 4 (gI T1 1260 133) T1) fun _ T2 =>
  ix a1 12 fun j3 =>
  bd (f_X12_entry 257 4 (gA T2 160 j3) T2) fun _ T5 =>
  bd (f_X12_entry 258 3 1 T5) fun _ T6 =>
  bd (f_X12_entry 259 3 4 T6) fun _ T7 =>
  bd (f_X12_entry 262 3 0 T7) fun _ T8 =>
  bd (f_X12_entry 273 4 a2 T8) fun _ T9 =>
  bd (f_X12_entry 277 3 1 T9) fun _ T10 =>
  ix a1 12 fun j11 =>
  bd (f_X12_entry 278 4 (gA T10 160 j11) T10) fun _ T13 =>
  bd (f_X12_entry 279 4 a3 T13) fun _ T14 =>
  bd (f_X12_entry 282 5 (((a4 + 2) + 156) + 4) T14) fun _ T15 =>
  bd (f_X12_entry 283 5 (((a4 + 2) + 156) + 4) T15) fun _ T16 =>
  bd (f_X12_entry 293 4 0 T16) fun _ T17 =>
  bd (f_X12_entry 296 3 2 T17) fun _ T18 =>
  lb (uI T18 1266 133 (gI T18 1242 133)) fun T19 =>
  bd (f_X12_outNumber 4 0 T19) fun _ T20 =>
  bd (f_X12_outNumber 4 75 T20) fun _ T21 =>
  bd (f_X12_outNumber 4 1 T21) fun _ T22 =>
  some ((), T22))
  else (ix ((gI T 1266 133) + a5) 60008 fun j23 => lb (uA T 161 j23 ((((a4 >>> (((8 : Int32) * a5) &&& 31))).toInt8.toInt32).toInt8.toInt32)) fun T25 =>
  k272 a1 a2 a3 a4 (a5 + 1) T25)
set_option maxRecDepth 100000 in
set_option maxHeartbeats 4000000 in
theorem s_X12_written_b272 {x : JX} {ad : Nat → Nat} {U : Mm} {S0 : Hp} {q : Unit × Mm}  {k272 : Int32 → Int32 → Int32 → Int32 → Int32 → Mm → Option (Unit × Mm)} (hn9 : x_n x = 6) (C : CB x RX12 cX12_written) (M : CMr x 5 none S0 ad false U eV q) (hk272 : ∀ (a1 : Int32) (a2 : Int32) (a3 : Int32) (a4 : Int32) (a5 : Int32) (T : Mm), k272 a1 a2 a3 a4 a5 T = some q → Jr x ad false U T [(0, .ref (ad 133)), (1, .int a1), (2, .int a2), (3, .int a3), (4, .int a4), (5, .int a5)] 272 []) (a1 : Int32) (a2 : Int32) (a3 : Int32) (a4 : Int32) (a5 : Int32) (T : Mm) (h : f_X12_written_b272 k272 a1 a2 a3 a4 a5 T = some q) : Jr x ad false U T [(0, .ref (ad 133)), (1, .int a1), (2, .int a2), (3, .int a3), (4, .int a4), (5, .int a5)] 272 [] := by
  unfold f_X12_written_b272 at h
  refine r_iload C dX12_written_272 5 rfl ?_
  refine r_iconst (v := 4) C dX12_written_274 (by decide) ?_
  refine r_ic_ge (tgt := 305) C dX12_written_275 (by decide) h (fun h => ?_) (fun h => ?_)
  · refine r_aload_n C dX12_written_305 rfl 0 rfl ?_
    refine r_iconst (v := 2) C dX12_written_306 (by decide) ?_
    refine r_ldc2 (v := 13) C dX12_written_307 kcX12_573 ?_
    refine r_callVN C M h [.int 2, .long 13] [] mlX12_563 mcX12_outNumber (fun q9 e9 => s_X12_outNumber 2 13  e9) kq_133 rfl (by decide) (by decide) rfl rfl (Nat.le_of_ble_eq_true rfl) dX12_written_310 (fun _ T1 h => ?_)
    refine r_aload_n C dX12_written_313 rfl 0 rfl ?_
    show Jr _ _ _ _ _ _ 314 _
    refine r_sipush (v := 256) C dX12_written_314 (by decide) ?_
    refine r_iconst (v := 4) C dX12_written_317 (by decide) ?_
    refine r_aload_n C dX12_written_318 rfl 0 rfl ?_
    refine r_geti (f := 1260) C flX12_528 dX12_written_319 kq_133 (by decide) (by decide) rfl ?_
    refine r_callVN C M h [.int 256, .int 4, .int (gI T1 1260 133)] [] mlX12_575 mcX12_entry (fun q9 e9 => s_X12_entry 256 4 (gI T1 1260 133)  e9) kq_133 rfl (by decide) (by decide) rfl rfl (Nat.le_of_ble_eq_true rfl) dX12_written_322 (fun _ T2 h => ?_)
    refine r_aload_n C dX12_written_325 rfl 0 rfl ?_
    show Jr _ _ _ _ _ _ 326 _
    refine r_sipush (v := 257) C dX12_written_326 (by decide) ?_
    refine r_iconst (v := 4) C dX12_written_329 (by decide) ?_
    refine r_aload_n C dX12_written_330 rfl 0 rfl ?_
    refine r_getp (f := 1239) (j := 160) C flX12_92 dX12_written_331 kq_133 (by decide) rfl (fun W => pt_1239 kq_133 W) ?_
    refine r_iload_n C dX12_written_334 rfl 1 rfl ?_
    refine r_iald (n := 12) C dX12_written_335 kq_160 lq_160 h (fun j3 hj4 h => ?_)
    show Jr _ _ _ _ _ _ 336 _
    refine r_callVN C M h [.int 257, .int 4, .int (gA T2 160 j3)] [] mlX12_575 mcX12_entry (fun q9 e9 => s_X12_entry 257 4 (gA T2 160 j3)  e9) kq_133 rfl (by decide) (by decide) rfl rfl (Nat.le_of_ble_eq_true rfl) dX12_written_336 (fun _ T5 h => ?_)
    refine r_aload_n C dX12_written_339 rfl 0 rfl ?_
    refine r_sipush (v := 258) C dX12_written_340 (by decide) ?_
    refine r_iconst (v := 3) C dX12_written_343 (by decide) ?_
    refine r_iconst (v := 1) C dX12_written_344 (by decide) ?_
    refine r_callVN C M h [.int 258, .int 3, .int 1] [] mlX12_575 mcX12_entry (fun q9 e9 => s_X12_entry 258 3 1  e9) kq_133 rfl (by decide) (by decide) rfl rfl (Nat.le_of_ble_eq_true rfl) dX12_written_345 (fun _ T6 h => ?_)
    show Jr _ _ _ _ _ _ 348 _
    refine r_aload_n C dX12_written_348 rfl 0 rfl ?_
    refine r_sipush (v := 259) C dX12_written_349 (by decide) ?_
    refine r_iconst (v := 3) C dX12_written_352 (by decide) ?_
    refine r_iconst (v := 4) C dX12_written_353 (by decide) ?_
    refine r_callVN C M h [.int 259, .int 3, .int 4] [] mlX12_575 mcX12_entry (fun q9 e9 => s_X12_entry 259 3 4  e9) kq_133 rfl (by decide) (by decide) rfl rfl (Nat.le_of_ble_eq_true rfl) dX12_written_354 (fun _ T7 h => ?_)
    refine r_aload_n C dX12_written_357 rfl 0 rfl ?_
    show Jr _ _ _ _ _ _ 358 _
    refine r_sipush (v := 262) C dX12_written_358 (by decide) ?_
    refine r_iconst (v := 3) C dX12_written_361 (by decide) ?_
    refine r_iconst (v := 0) C dX12_written_362 (by decide) ?_
    refine r_callVN C M h [.int 262, .int 3, .int 0] [] mlX12_575 mcX12_entry (fun q9 e9 => s_X12_entry 262 3 0  e9) kq_133 rfl (by decide) (by decide) rfl rfl (Nat.le_of_ble_eq_true rfl) dX12_written_363 (fun _ T8 h => ?_)
    refine r_aload_n C dX12_written_366 rfl 0 rfl ?_
    refine r_sipush (v := 273) C dX12_written_367 (by decide) ?_
    show Jr _ _ _ _ _ _ 370 _
    refine r_iconst (v := 4) C dX12_written_370 (by decide) ?_
    refine r_iload_n C dX12_written_371 rfl 2 rfl ?_
    refine r_callVN C M h [.int 273, .int 4, .int a2] [] mlX12_575 mcX12_entry (fun q9 e9 => s_X12_entry 273 4 a2  e9) kq_133 rfl (by decide) (by decide) rfl rfl (Nat.le_of_ble_eq_true rfl) dX12_written_372 (fun _ T9 h => ?_)
    refine r_aload_n C dX12_written_375 rfl 0 rfl ?_
    refine r_sipush (v := 277) C dX12_written_376 (by decide) ?_
    refine r_iconst (v := 3) C dX12_written_379 (by decide) ?_
    show Jr _ _ _ _ _ _ 380 _
    refine r_iconst (v := 1) C dX12_written_380 (by decide) ?_
    refine r_callVN C M h [.int 277, .int 3, .int 1] [] mlX12_575 mcX12_entry (fun q9 e9 => s_X12_entry 277 3 1  e9) kq_133 rfl (by decide) (by decide) rfl rfl (Nat.le_of_ble_eq_true rfl) dX12_written_381 (fun _ T10 h => ?_)
    refine r_aload_n C dX12_written_384 rfl 0 rfl ?_
    refine r_sipush (v := 278) C dX12_written_385 (by decide) ?_
    refine r_iconst (v := 4) C dX12_written_388 (by decide) ?_
    refine r_aload_n C dX12_written_389 rfl 0 rfl ?_
    show Jr _ _ _ _ _ _ 390 _
    refine r_getp (f := 1239) (j := 160) C flX12_92 dX12_written_390 kq_133 (by decide) rfl (fun W => pt_1239 kq_133 W) ?_
    refine r_iload_n C dX12_written_393 rfl 1 rfl ?_
    refine r_iald (n := 12) C dX12_written_394 kq_160 lq_160 h (fun j11 hj12 h => ?_)
    refine r_callVN C M h [.int 278, .int 4, .int (gA T10 160 j11)] [] mlX12_575 mcX12_entry (fun q9 e9 => s_X12_entry 278 4 (gA T10 160 j11)  e9) kq_133 rfl (by decide) (by decide) rfl rfl (Nat.le_of_ble_eq_true rfl) dX12_written_395 (fun _ T13 h => ?_)
    refine r_aload_n C dX12_written_398 rfl 0 rfl ?_
    refine r_sipush (v := 279) C dX12_written_399 (by decide) ?_
    show Jr _ _ _ _ _ _ 402 _
    refine r_iconst (v := 4) C dX12_written_402 (by decide) ?_
    refine r_iload_n C dX12_written_403 rfl 3 rfl ?_
    refine r_callVN C M h [.int 279, .int 4, .int a3] [] mlX12_575 mcX12_entry (fun q9 e9 => s_X12_entry 279 4 a3  e9) kq_133 rfl (by decide) (by decide) rfl rfl (Nat.le_of_ble_eq_true rfl) dX12_written_404 (fun _ T14 h => ?_)
    refine r_aload_n C dX12_written_407 rfl 0 rfl ?_
    refine r_sipush (v := 282) C dX12_written_408 (by decide) ?_
    refine r_iconst (v := 5) C dX12_written_411 (by decide) ?_
    show Jr _ _ _ _ _ _ 412 _
    refine r_iload C dX12_written_412 4 rfl ?_
    refine r_iconst (v := 2) C dX12_written_414 (by decide) ?_
    refine r_iadd C dX12_written_415 rfl ?_
    refine r_sipush (v := 156) C dX12_written_416 (by decide) ?_
    refine r_iadd C dX12_written_419 rfl ?_
    refine r_iconst (v := 4) C dX12_written_420 (by decide) ?_
    show Jr _ _ _ _ _ _ 421 _
    refine r_iadd C dX12_written_421 rfl ?_
    refine r_callVN C M h [.int 282, .int 5, .int (((a4 + 2) + 156) + 4)] [] mlX12_575 mcX12_entry (fun q9 e9 => s_X12_entry 282 5 (((a4 + 2) + 156) + 4)  e9) kq_133 rfl (by decide) (by decide) rfl rfl (Nat.le_of_ble_eq_true rfl) dX12_written_422 (fun _ T15 h => ?_)
    refine r_aload_n C dX12_written_425 rfl 0 rfl ?_
    refine r_sipush (v := 283) C dX12_written_426 (by decide) ?_
    refine r_iconst (v := 5) C dX12_written_429 (by decide) ?_
    refine r_iload C dX12_written_430 4 rfl ?_
    show Jr _ _ _ _ _ _ 432 _
    refine r_iconst (v := 2) C dX12_written_432 (by decide) ?_
    refine r_iadd C dX12_written_433 rfl ?_
    refine r_sipush (v := 156) C dX12_written_434 (by decide) ?_
    refine r_iadd C dX12_written_437 rfl ?_
    refine r_iconst (v := 4) C dX12_written_438 (by decide) ?_
    refine r_iadd C dX12_written_439 rfl ?_
    show Jr _ _ _ _ _ _ 440 _
    refine r_callVN C M h [.int 283, .int 5, .int (((a4 + 2) + 156) + 4)] [] mlX12_575 mcX12_entry (fun q9 e9 => s_X12_entry 283 5 (((a4 + 2) + 156) + 4)  e9) kq_133 rfl (by decide) (by decide) rfl rfl (Nat.le_of_ble_eq_true rfl) dX12_written_440 (fun _ T16 h => ?_)
    refine r_aload_n C dX12_written_443 rfl 0 rfl ?_
    refine r_sipush (v := 293) C dX12_written_444 (by decide) ?_
    refine r_iconst (v := 4) C dX12_written_447 (by decide) ?_
    refine r_iconst (v := 0) C dX12_written_448 (by decide) ?_
    refine r_callVN C M h [.int 293, .int 4, .int 0] [] mlX12_575 mcX12_entry (fun q9 e9 => s_X12_entry 293 4 0  e9) kq_133 rfl (by decide) (by decide) rfl rfl (Nat.le_of_ble_eq_true rfl) dX12_written_449 (fun _ T17 h => ?_)
    show Jr _ _ _ _ _ _ 452 _
    refine r_aload_n C dX12_written_452 rfl 0 rfl ?_
    refine r_sipush (v := 296) C dX12_written_453 (by decide) ?_
    refine r_iconst (v := 3) C dX12_written_456 (by decide) ?_
    refine r_iconst (v := 2) C dX12_written_457 (by decide) ?_
    refine r_callVN C M h [.int 296, .int 3, .int 2] [] mlX12_575 mcX12_entry (fun q9 e9 => s_X12_entry 296 3 2  e9) kq_133 rfl (by decide) (by decide) rfl rfl (Nat.le_of_ble_eq_true rfl) dX12_written_458 (fun _ T18 h => ?_)
    refine r_aload_n C dX12_written_461 rfl 0 rfl ?_
    show Jr _ _ _ _ _ _ 462 _
    refine r_aload_n C dX12_written_462 rfl 0 rfl ?_
    refine r_geti (f := 1242) C flX12_543 dX12_written_463 kq_133 (by decide) (by decide) rfl ?_
    refine r_puti (f := 1266) C flX12_567 (by decide) rfl rfl dX12_written_466 kq_133 rfl h (fun T19 h => ?_)
    refine r_aload_n C dX12_written_469 rfl 0 rfl ?_
    refine r_iconst (v := 4) C dX12_written_470 (by decide) ?_
    refine r_lconst (v := 0) C dX12_written_471 (by decide) ?_
    show Jr _ _ _ _ _ _ 472 _
    refine r_callVN C M h [.int 4, .long 0] [] mlX12_563 mcX12_outNumber (fun q9 e9 => s_X12_outNumber 4 0  e9) kq_133 rfl (by decide) (by decide) rfl rfl (Nat.le_of_ble_eq_true rfl) dX12_written_472 (fun _ T20 h => ?_)
    refine r_aload_n C dX12_written_475 rfl 0 rfl ?_
    refine r_iconst (v := 4) C dX12_written_476 (by decide) ?_
    refine r_ldc2 (v := 75) C dX12_written_477 kcX12_578 ?_
    refine r_callVN C M h [.int 4, .long 75] [] mlX12_563 mcX12_outNumber (fun q9 e9 => s_X12_outNumber 4 75  e9) kq_133 rfl (by decide) (by decide) rfl rfl (Nat.le_of_ble_eq_true rfl) dX12_written_480 (fun _ T21 h => ?_)
    refine r_aload_n C dX12_written_483 rfl 0 rfl ?_
    show Jr _ _ _ _ _ _ 484 _
    refine r_iconst (v := 4) C dX12_written_484 (by decide) ?_
    refine r_lconst (v := 1) C dX12_written_485 (by decide) ?_
    refine r_callVN C M h [.int 4, .long 1] [] mlX12_563 mcX12_outNumber (fun q9 e9 => s_X12_outNumber 4 1  e9) kq_133 rfl (by decide) (by decide) rfl rfl (Nat.le_of_ble_eq_true rfl) dX12_written_486 (fun _ T22 h => ?_)
    exact r_vret C M dX12_written_489 h
  · refine r_aload_n C dX12_written_278 rfl 0 rfl ?_
    refine r_getp (f := 1241) (j := 161) C flX12_96 dX12_written_279 kq_133 (by decide) rfl (fun W => pt_1241 kq_133 W) ?_
    refine r_aload_n C dX12_written_282 rfl 0 rfl ?_
    refine r_geti (f := 1266) C flX12_567 dX12_written_283 kq_133 (by decide) (by decide) rfl ?_
    refine r_iload C dX12_written_286 5 rfl ?_
    show Jr _ _ _ _ _ _ 288 _
    refine r_iadd C dX12_written_288 rfl ?_
    refine r_iload C dX12_written_289 4 rfl ?_
    refine r_bipush (v := 8) C dX12_written_291 (by decide) ?_
    refine r_iload C dX12_written_293 5 rfl ?_
    refine r_imul C dX12_written_295 rfl ?_
    refine r_ishr C dX12_written_296 rfl ?_
    show Jr _ _ _ _ _ _ 297 _
    refine r_i2b C dX12_written_297 rfl ?_
    refine r_bast (n := 60008) C dX12_written_298 kq_161 lq_161 h (fun j23 T25 hj24 h => ?_)
    refine r_iinc (q := 5) (v := (a5 + 1)) (lv' := [(5, .int (a5 + 1)), (0, .ref (ad 133)), (1, .int a1), (2, .int a2), (3, .int a3), (4, .int a4)]) C dX12_written_299 rfl (by rw [show Int32.ofInt (1) = 1 by decide]) (by rw [hn9]; decide) rfl ?_
    refine r_goto (tgt := 272) C dX12_written_302 (by decide) ?_
    refine Jr.sub [1, 2, 3, 4, 5, 0] (lv' := [(0, .ref (ad 133)), (1, .int a1), (2, .int a2), (3, .int a3), (4, .int a4), (5, .int (a5 + 1))]) rfl ?_
    exact hk272 a1 a2 a3 a4 (a5 + 1) T25 h
noncomputable def f_X12_written_l272 (n : Nat) : Int32 → Int32 → Int32 → Int32 → Int32 → Mm → Option (Unit × Mm) := Nat.rec (fun _ _ _ _ _ _ => none) (fun _ ih => f_X12_written_b272 ih) n
theorem s_X12_written_l272 {x : JX} {ad : Nat → Nat} {U : Mm} {S0 : Hp} {q : Unit × Mm}  (hn9 : x_n x = 6) (C : CB x RX12 cX12_written) (M : CMr x 5 none S0 ad false U eV q) : ∀ (n : Nat), ∀ (a1 : Int32) (a2 : Int32) (a3 : Int32) (a4 : Int32) (a5 : Int32) (T : Mm), f_X12_written_l272  n a1 a2 a3 a4 a5 T = some q → Jr x ad false U T [(0, .ref (ad 133)), (1, .int a1), (2, .int a2), (3, .int a3), (4, .int a4), (5, .int a5)] 272 [] := by
  intro n
  induction n with
  | zero => intro a1 a2 a3 a4 a5 T  h; exact absurd h (by intro h; cases h)
  | succ n ih => exact fun a1 a2 a3 a4 a5 T  h => s_X12_written_b272 hn9 C M (ih) a1 a2 a3 a4 a5 T  h
noncomputable def f_X12_written_255 (a1 : Int32) (a2 : Int32) (a3 : Int32) (T : Mm) : Option (Unit × Mm) :=
  if (gI T 1233 133) = 0 then (lb ((gI T 1242 133)) fun v1 =>
  f_X12_written_l272 FU a1 a2 a3 v1 0 T)
  else (some ((), T))
set_option maxRecDepth 100000 in
set_option maxHeartbeats 4000000 in
theorem s_X12_written_255 {x : JX} {ad : Nat → Nat} {U : Mm} {S0 : Hp} {q : Unit × Mm}  (hn9 : x_n x = 6) (C : CB x RX12 cX12_written) (M : CMr x 5 none S0 ad false U eV q) (a1 : Int32) (a2 : Int32) (a3 : Int32) (T : Mm) (h : f_X12_written_255  a1 a2 a3 T = some q) : Jr x ad false U T [(0, .ref (ad 133)), (1, .int a1), (2, .int a2), (3, .int a3)] 255 [] := by
  unfold f_X12_written_255 at h
  refine r_aload_n C dX12_written_255 rfl 0 rfl ?_
  refine r_geti (f := 1233) C flX12_191 dX12_written_256 kq_133 (by decide) (by decide) rfl ?_
  refine r_if_eq (tgt := 263) C dX12_written_259 (by decide) h (fun h => ?_) (fun h => ?_)
  · refine r_aload_n C dX12_written_263 rfl 0 rfl ?_
    refine r_geti (f := 1242) C flX12_543 dX12_written_264 kq_133 (by decide) (by decide) rfl ?_
    refine r_lbI h (fun v1 h => ?_)
    refine r_istore (lv' := [(4, .int v1), (0, .ref (ad 133)), (1, .int a1), (2, .int a2), (3, .int a3)]) C dX12_written_267 (by rw [hn9]; decide) rfl ?_
    refine r_iconst (v := 0) C dX12_written_269 (by decide) ?_
    refine r_istore (lv' := [(5, .int 0), (4, .int v1), (0, .ref (ad 133)), (1, .int a1), (2, .int a2), (3, .int a3)]) C dX12_written_270 (by rw [hn9]; decide) rfl ?_
    refine Jr.sub [2, 3, 4, 5, 1, 0] (lv' := [(0, .ref (ad 133)), (1, .int a1), (2, .int a2), (3, .int a3), (4, .int v1), (5, .int 0)]) rfl ?_
    exact s_X12_written_l272 hn9 C M  FU a1 a2 a3 v1 0 T h
  · exact r_vret C M dX12_written_262 h
noncomputable def f_X12_written_236 (a1 : Int32) (a2 : Int32) (T : Mm) : Option (Unit × Mm) :=
  lb (((gI T 1242 133) - a2)) fun v1 =>
  if (v1 - v1 / 2 * 2) = 1 then (bd (f_X12_outByte 0 T) fun _ T2 =>
  f_X12_written_255 a1 a2 v1 T2)
  else (f_X12_written_255 a1 a2 v1 T)
set_option maxRecDepth 100000 in
set_option maxHeartbeats 4000000 in
theorem s_X12_written_236 {x : JX} {ad : Nat → Nat} {U : Mm} {S0 : Hp} {q : Unit × Mm}  (hn9 : x_n x = 6) (C : CB x RX12 cX12_written) (M : CMr x 5 none S0 ad false U eV q) (a1 : Int32) (a2 : Int32) (T : Mm) (h : f_X12_written_236  a1 a2 T = some q) : Jr x ad false U T [(0, .ref (ad 133)), (1, .int a1), (2, .int a2)] 236 [] := by
  unfold f_X12_written_236 at h
  refine r_aload_n C dX12_written_236 rfl 0 rfl ?_
  refine r_geti (f := 1242) C flX12_543 dX12_written_237 kq_133 (by decide) (by decide) rfl ?_
  refine r_iload_n C dX12_written_240 rfl 2 rfl ?_
  refine r_isub C dX12_written_241 rfl ?_
  refine r_lbI h (fun v1 h => ?_)
  refine r_istore_n (lv' := [(3, .int v1), (0, .ref (ad 133)), (1, .int a1), (2, .int a2)]) C dX12_written_242 rfl (by rw [hn9]; decide) rfl ?_
  show Jr _ _ _ _ _ _ 243 _
  refine r_iload_n C dX12_written_243 rfl 0 rfl ?_
  refine r_iconst (v := 2) C dX12_written_244 (by decide) ?_
  refine r_irem C dX12_written_245 (by decide) rfl ?_
  refine r_iconst (v := 1) C dX12_written_246 (by decide) ?_
  refine r_ic_ne (tgt := 255) C dX12_written_247 (by decide) h (fun h => ?_) (fun h => ?_)
  · refine Jr.sub [1, 2, 3, 0] (lv' := [(0, .ref (ad 133)), (1, .int a1), (2, .int a2), (3, .int v1)]) rfl ?_
    exact s_X12_written_255 hn9 C M  a1 a2 v1 T h
  · refine r_aload_n C dX12_written_250 rfl 1 rfl ?_
    refine r_iconst (v := 0) C dX12_written_251 (by decide) ?_
    refine r_callVN C M h [.int 0] [] mlX12_540 mcX12_outByte (fun q9 e9 => s_X12_outByte 0  e9) kq_133 rfl (by decide) (by decide) rfl rfl (Nat.le_of_ble_eq_true rfl) dX12_written_252 (fun _ T2 h => ?_)
    refine Jr.sub [1, 2, 3, 0] (lv' := [(0, .ref (ad 133)), (1, .int a1), (2, .int a2), (3, .int v1)]) rfl ?_
    exact s_X12_written_255 hn9 C M  a1 a2 v1 T2 h
noncomputable def f_X12_written_203 (a1 : Int32) (a2 : Int32) (T : Mm) : Option (Unit × Mm) :=
  bd (f_X12_bits 12 1 T) fun _ T1 =>
  bd (f_X12_bits 12 1 T1) fun _ T2 =>
  if (gI T2 1264 133) ≤ 0 then (f_X12_written_236 a1 a2 T2)
  else (bd (f_X12_bits ((8 : Int32) - (gI T2 1264 133)) 0 T2) fun _ T3 =>
  f_X12_written_236 a1 a2 T3)
set_option maxRecDepth 100000 in
set_option maxHeartbeats 4000000 in
theorem s_X12_written_203 {x : JX} {ad : Nat → Nat} {U : Mm} {S0 : Hp} {q : Unit × Mm}  (hn9 : x_n x = 6) (C : CB x RX12 cX12_written) (M : CMr x 5 none S0 ad false U eV q) (a1 : Int32) (a2 : Int32) (T : Mm) (h : f_X12_written_203  a1 a2 T = some q) : Jr x ad false U T [(0, .ref (ad 133)), (1, .int a1), (2, .int a2)] 203 [] := by
  unfold f_X12_written_203 at h
  refine r_aload_n C dX12_written_203 rfl 0 rfl ?_
  refine r_bipush (v := 12) C dX12_written_204 (by decide) ?_
  refine r_iconst (v := 1) C dX12_written_206 (by decide) ?_
  refine r_callVN C M h [.int 12, .int 1] [] mlX12_546 mcX12_bits (fun q9 e9 => s_X12_bits 12 1  e9) kq_133 rfl (by decide) (by decide) rfl rfl (Nat.le_of_ble_eq_true rfl) dX12_written_207 (fun _ T1 h => ?_)
  refine r_aload_n C dX12_written_210 rfl 0 rfl ?_
  show Jr _ _ _ _ _ _ 211 _
  refine r_bipush (v := 12) C dX12_written_211 (by decide) ?_
  refine r_iconst (v := 1) C dX12_written_213 (by decide) ?_
  refine r_callVN C M h [.int 12, .int 1] [] mlX12_546 mcX12_bits (fun q9 e9 => s_X12_bits 12 1  e9) kq_133 rfl (by decide) (by decide) rfl rfl (Nat.le_of_ble_eq_true rfl) dX12_written_214 (fun _ T2 h => ?_)
  refine r_aload_n C dX12_written_217 rfl 0 rfl ?_
  refine r_geti (f := 1264) C flX12_537 dX12_written_218 kq_133 (by decide) (by decide) rfl ?_
  refine r_if_le (tgt := 236) C dX12_written_221 (by decide) h (fun h => ?_) (fun h => ?_)
  · exact s_X12_written_236 hn9 C M  a1 a2 T2 h
  · refine r_aload_n C dX12_written_224 rfl 0 rfl ?_
    refine r_bipush (v := 8) C dX12_written_225 (by decide) ?_
    refine r_aload_n C dX12_written_227 rfl 0 rfl ?_
    refine r_geti (f := 1264) C flX12_537 dX12_written_228 kq_133 (by decide) (by decide) rfl ?_
    refine r_isub C dX12_written_231 rfl ?_
    show Jr _ _ _ _ _ _ 232 _
    refine r_iconst (v := 0) C dX12_written_232 (by decide) ?_
    refine r_callVN C M h [.int ((8 : Int32) - (gI T2 1264 133)), .int 0] [] mlX12_546 mcX12_bits (fun q9 e9 => s_X12_bits ((8 : Int32) - (gI T2 1264 133)) 0  e9) kq_133 rfl (by decide) (by decide) rfl rfl (Nat.le_of_ble_eq_true rfl) dX12_written_233 (fun _ T3 h => ?_)
    exact s_X12_written_236 hn9 C M  a1 a2 T3 h
noncomputable def f_X12_written_b168 (k88 : Int32 → Int32 → Int32 → Mm → Option (Unit × Mm)) (k168 : Int32 → Int32 → Int32 → Int32 → Mm → Option (Unit × Mm)) (a1 : Int32) (a2 : Int32) (a3 : Int32) (a4 : Int32) (T : Mm) : Option (Unit × Mm) :=
  if (gI T 1260 133) ≤ a4 then (k88 a1 a2 (a3 + 1) T)
  else (ix a4 640 fun j1 =>
  ix a4 640 fun j3 => lb (uA T 167 j3 ((gA T 168 j1))) fun T5 =>
  k168 a1 a2 a3 (a4 + 1) T5)
set_option maxRecDepth 100000 in
set_option maxHeartbeats 4000000 in
theorem s_X12_written_b168 {x : JX} {ad : Nat → Nat} {U : Mm} {S0 : Hp} {q : Unit × Mm}  {k88 : Int32 → Int32 → Int32 → Mm → Option (Unit × Mm)} {k168 : Int32 → Int32 → Int32 → Int32 → Mm → Option (Unit × Mm)} (hn9 : x_n x = 6) (C : CB x RX12 cX12_written) (M : CMr x 5 none S0 ad false U eV q) (hk88 : ∀ (a1 : Int32) (a2 : Int32) (a3 : Int32) (T : Mm), k88 a1 a2 a3 T = some q → Jr x ad false U T [(0, .ref (ad 133)), (1, .int a1), (2, .int a2), (3, .int a3)] 88 []) (hk168 : ∀ (a1 : Int32) (a2 : Int32) (a3 : Int32) (a4 : Int32) (T : Mm), k168 a1 a2 a3 a4 T = some q → Jr x ad false U T [(0, .ref (ad 133)), (1, .int a1), (2, .int a2), (3, .int a3), (4, .int a4)] 168 []) (a1 : Int32) (a2 : Int32) (a3 : Int32) (a4 : Int32) (T : Mm) (h : f_X12_written_b168 k88 k168 a1 a2 a3 a4 T = some q) : Jr x ad false U T [(0, .ref (ad 133)), (1, .int a1), (2, .int a2), (3, .int a3), (4, .int a4)] 168 [] := by
  unfold f_X12_written_b168 at h
  refine r_iload C dX12_written_168 4 rfl ?_
  refine r_aload_n C dX12_written_170 rfl 0 rfl ?_
  refine r_geti (f := 1260) C flX12_528 dX12_written_171 kq_133 (by decide) (by decide) rfl ?_
  refine r_ic_ge (tgt := 197) C dX12_written_174 (by decide) h (fun h => ?_) (fun h => ?_)
  · refine r_iinc (q := 3) (v := (a3 + 1)) (lv' := [(3, .int (a3 + 1)), (0, .ref (ad 133)), (1, .int a1), (2, .int a2), (4, .int a4)]) C dX12_written_197 rfl (by rw [show Int32.ofInt (1) = 1 by decide]) (by rw [hn9]; decide) rfl ?_
    refine r_goto (tgt := 88) C dX12_written_200 (by decide) ?_
    refine Jr.sub [1, 2, 3, 0] (lv' := [(0, .ref (ad 133)), (1, .int a1), (2, .int a2), (3, .int (a3 + 1))]) rfl ?_
    exact hk88 a1 a2 (a3 + 1) T h
  · refine r_aload_n C dX12_written_177 rfl 0 rfl ?_
    refine r_getp (f := 1258) (j := 167) C flX12_114 dX12_written_178 kq_133 (by decide) rfl (fun W => pt_1258 kq_133 W) ?_
    refine r_iload C dX12_written_181 4 rfl ?_
    refine r_aload_n C dX12_written_183 rfl 0 rfl ?_
    refine r_getp (f := 1259) (j := 168) C flX12_117 dX12_written_184 kq_133 (by decide) rfl (fun W => pt_1259 kq_133 W) ?_
    show Jr _ _ _ _ _ _ 187 _
    refine r_iload C dX12_written_187 4 rfl ?_
    refine r_iald (n := 640) C dX12_written_189 kq_168 lq_168 h (fun j1 hj2 h => ?_)
    refine r_iast (n := 640) C dX12_written_190 kq_167 lq_167 h (fun j3 T5 hj4 h => ?_)
    refine r_iinc (q := 4) (v := (a4 + 1)) (lv' := [(4, .int (a4 + 1)), (0, .ref (ad 133)), (1, .int a1), (2, .int a2), (3, .int a3)]) C dX12_written_191 rfl (by rw [show Int32.ofInt (1) = 1 by decide]) (by rw [hn9]; decide) rfl ?_
    refine r_goto (tgt := 168) C dX12_written_194 (by decide) ?_
    refine Jr.sub [1, 2, 3, 4, 0] (lv' := [(0, .ref (ad 133)), (1, .int a1), (2, .int a2), (3, .int a3), (4, .int (a4 + 1))]) rfl ?_
    exact hk168 a1 a2 a3 (a4 + 1) T5 h
noncomputable def f_X12_written_l168 (k88 : Int32 → Int32 → Int32 → Mm → Option (Unit × Mm)) (n : Nat) : Int32 → Int32 → Int32 → Int32 → Mm → Option (Unit × Mm) := Nat.rec (fun _ _ _ _ _ => none) (fun _ ih => f_X12_written_b168 k88 ih) n
theorem s_X12_written_l168 {x : JX} {ad : Nat → Nat} {U : Mm} {S0 : Hp} {q : Unit × Mm}  {k88 : Int32 → Int32 → Int32 → Mm → Option (Unit × Mm)} (hn9 : x_n x = 6) (C : CB x RX12 cX12_written) (M : CMr x 5 none S0 ad false U eV q) (hk88 : ∀ (a1 : Int32) (a2 : Int32) (a3 : Int32) (T : Mm), k88 a1 a2 a3 T = some q → Jr x ad false U T [(0, .ref (ad 133)), (1, .int a1), (2, .int a2), (3, .int a3)] 88 []) : ∀ (n : Nat), ∀ (a1 : Int32) (a2 : Int32) (a3 : Int32) (a4 : Int32) (T : Mm), f_X12_written_l168 k88 n a1 a2 a3 a4 T = some q → Jr x ad false U T [(0, .ref (ad 133)), (1, .int a1), (2, .int a2), (3, .int a3), (4, .int a4)] 168 [] := by
  intro n
  induction n with
  | zero => intro a1 a2 a3 a4 T  h; exact absurd h (by intro h; cases h)
  | succ n ih => exact fun a1 a2 a3 a4 T  h => s_X12_written_b168 hn9 C M hk88 (ih) a1 a2 a3 a4 T  h
noncomputable def f_X12_written_b108 (k88 : Int32 → Int32 → Int32 → Mm → Option (Unit × Mm)) (k108 : Int32 → Int32 → Int32 → Int32 → Mm → Option (Unit × Mm)) (a1 : Int32) (a2 : Int32) (a3 : Int32) (a4 : Int32) (T : Mm) : Option (Unit × Mm) :=
  if (gI T 1260 133) ≤ a4 then (bd (f_X12_writeRow T) fun _ T1 =>
  f_X12_written_l168 k88 FU a1 a2 a3 0 T1)
  else (ix (((a1 * 64000) + ((80 : Int32) * a3)) + (a4 / 8)) 768000 fun j2 =>
  ix a4 640 fun j4 => lb (uA T 168 j4 ((((gA T 158 j2) >>> (((7 : Int32) - (a4 - a4 / 8 * 8)) &&& 31)) &&& 1))) fun T6 =>
  k108 a1 a2 a3 (a4 + 1) T6)
set_option maxRecDepth 100000 in
set_option maxHeartbeats 4000000 in
theorem s_X12_written_b108 {x : JX} {ad : Nat → Nat} {U : Mm} {S0 : Hp} {q : Unit × Mm}  {k88 : Int32 → Int32 → Int32 → Mm → Option (Unit × Mm)} {k108 : Int32 → Int32 → Int32 → Int32 → Mm → Option (Unit × Mm)} (hn9 : x_n x = 6) (C : CB x RX12 cX12_written) (M : CMr x 5 none S0 ad false U eV q) (hk88 : ∀ (a1 : Int32) (a2 : Int32) (a3 : Int32) (T : Mm), k88 a1 a2 a3 T = some q → Jr x ad false U T [(0, .ref (ad 133)), (1, .int a1), (2, .int a2), (3, .int a3)] 88 []) (hk108 : ∀ (a1 : Int32) (a2 : Int32) (a3 : Int32) (a4 : Int32) (T : Mm), k108 a1 a2 a3 a4 T = some q → Jr x ad false U T [(0, .ref (ad 133)), (1, .int a1), (2, .int a2), (3, .int a3), (4, .int a4)] 108 []) (a1 : Int32) (a2 : Int32) (a3 : Int32) (a4 : Int32) (T : Mm) (h : f_X12_written_b108 k88 k108 a1 a2 a3 a4 T = some q) : Jr x ad false U T [(0, .ref (ad 133)), (1, .int a1), (2, .int a2), (3, .int a3), (4, .int a4)] 108 [] := by
  unfold f_X12_written_b108 at h
  refine r_iload C dX12_written_108 4 rfl ?_
  refine r_aload_n C dX12_written_110 rfl 0 rfl ?_
  refine r_geti (f := 1260) C flX12_528 dX12_written_111 kq_133 (by decide) (by decide) rfl ?_
  refine r_ic_ge (tgt := 161) C dX12_written_114 (by decide) h (fun h => ?_) (fun h => ?_)
  · refine r_aload_n C dX12_written_161 rfl 0 rfl ?_
    refine r_callVN C M h [] [] mlX12_570 mcX12_writeRow (fun q9 e9 => s_X12_writeRow   e9) kq_133 rfl (by decide) (by decide) rfl rfl (Nat.le_of_ble_eq_true rfl) dX12_written_162 (fun _ T1 h => ?_)
    refine r_iconst (v := 0) C dX12_written_165 (by decide) ?_
    refine r_istore (lv' := [(4, .int 0), (0, .ref (ad 133)), (1, .int a1), (2, .int a2), (3, .int a3)]) C dX12_written_166 (by rw [hn9]; decide) rfl ?_
    refine Jr.sub [1, 2, 3, 4, 0] (lv' := [(0, .ref (ad 133)), (1, .int a1), (2, .int a2), (3, .int a3), (4, .int 0)]) rfl ?_
    exact s_X12_written_l168 hn9 C M hk88 FU a1 a2 a3 0 T1 h
  · refine r_aload_n C dX12_written_117 rfl 0 rfl ?_
    refine r_getp (f := 1259) (j := 168) C flX12_117 dX12_written_118 kq_133 (by decide) rfl (fun W => pt_1259 kq_133 W) ?_
    refine r_iload C dX12_written_121 4 rfl ?_
    refine r_aload_n C dX12_written_123 rfl 0 rfl ?_
    refine r_getp (f := 1237) (j := 158) C flX12_86 dX12_written_124 kq_133 (by decide) rfl (fun W => pt_1237 kq_133 W) ?_
    show Jr _ _ _ _ _ _ 127 _
    refine r_iload_n C dX12_written_127 rfl 1 rfl ?_
    refine r_ldc (v := 64000) C dX12_written_128 kcX12_81 ?_
    refine r_imul C dX12_written_130 rfl ?_
    refine r_bipush (v := 80) C dX12_written_131 (by decide) ?_
    refine r_iload_n C dX12_written_133 rfl 3 rfl ?_
    refine r_imul C dX12_written_134 rfl ?_
    show Jr _ _ _ _ _ _ 135 _
    refine r_iadd C dX12_written_135 rfl ?_
    refine r_iload C dX12_written_136 4 rfl ?_
    refine r_bipush (v := 8) C dX12_written_138 (by decide) ?_
    refine r_idiv C dX12_written_140 (by decide) rfl ?_
    refine r_iadd C dX12_written_141 rfl ?_
    refine r_bald (n := 768000) C dX12_written_142 kq_158 lq_158 h (fun j2 hj3 h => ?_)
    show Jr _ _ _ _ _ _ 143 _
    refine r_bipush (v := 7) C dX12_written_143 (by decide) ?_
    refine r_iload C dX12_written_145 4 rfl ?_
    refine r_bipush (v := 8) C dX12_written_147 (by decide) ?_
    refine r_irem C dX12_written_149 (by decide) rfl ?_
    refine r_isub C dX12_written_150 rfl ?_
    refine r_ishr C dX12_written_151 rfl ?_
    show Jr _ _ _ _ _ _ 152 _
    refine r_iconst (v := 1) C dX12_written_152 (by decide) ?_
    refine r_iand C dX12_written_153 rfl ?_
    refine r_iast (n := 640) C dX12_written_154 kq_168 lq_168 h (fun j4 T6 hj5 h => ?_)
    refine r_iinc (q := 4) (v := (a4 + 1)) (lv' := [(4, .int (a4 + 1)), (0, .ref (ad 133)), (1, .int a1), (2, .int a2), (3, .int a3)]) C dX12_written_155 rfl (by rw [show Int32.ofInt (1) = 1 by decide]) (by rw [hn9]; decide) rfl ?_
    refine r_goto (tgt := 108) C dX12_written_158 (by decide) ?_
    refine Jr.sub [1, 2, 3, 4, 0] (lv' := [(0, .ref (ad 133)), (1, .int a1), (2, .int a2), (3, .int a3), (4, .int (a4 + 1))]) rfl ?_
    exact hk108 a1 a2 a3 (a4 + 1) T6 h
noncomputable def f_X12_written_l108 (k88 : Int32 → Int32 → Int32 → Mm → Option (Unit × Mm)) (n : Nat) : Int32 → Int32 → Int32 → Int32 → Mm → Option (Unit × Mm) := Nat.rec (fun _ _ _ _ _ => none) (fun _ ih => f_X12_written_b108 k88 ih) n
theorem s_X12_written_l108 {x : JX} {ad : Nat → Nat} {U : Mm} {S0 : Hp} {q : Unit × Mm}  {k88 : Int32 → Int32 → Int32 → Mm → Option (Unit × Mm)} (hn9 : x_n x = 6) (C : CB x RX12 cX12_written) (M : CMr x 5 none S0 ad false U eV q) (hk88 : ∀ (a1 : Int32) (a2 : Int32) (a3 : Int32) (T : Mm), k88 a1 a2 a3 T = some q → Jr x ad false U T [(0, .ref (ad 133)), (1, .int a1), (2, .int a2), (3, .int a3)] 88 []) : ∀ (n : Nat), ∀ (a1 : Int32) (a2 : Int32) (a3 : Int32) (a4 : Int32) (T : Mm), f_X12_written_l108 k88 n a1 a2 a3 a4 T = some q → Jr x ad false U T [(0, .ref (ad 133)), (1, .int a1), (2, .int a2), (3, .int a3), (4, .int a4)] 108 [] := by
  intro n
  induction n with
  | zero => intro a1 a2 a3 a4 T  h; exact absurd h (by intro h; cases h)
  | succ n ih => exact fun a1 a2 a3 a4 T  h => s_X12_written_b108 hn9 C M hk88 (ih) a1 a2 a3 a4 T  h
noncomputable def f_X12_written_b88 (k88 : Int32 → Int32 → Int32 → Mm → Option (Unit × Mm)) (a1 : Int32) (a2 : Int32) (a3 : Int32) (T : Mm) : Option (Unit × Mm) :=
  ix a1 12 fun j1 =>
  if (gA T 160 j1) ≤ a3 then (f_X12_written_203 a1 a2 T)
  else (if (gI T 1233 133) = 0 then (f_X12_written_l108 k88 FU a1 a2 a3 0 T)
  else (f_X12_written_203 a1 a2 T))
set_option maxRecDepth 100000 in
set_option maxHeartbeats 4000000 in
theorem s_X12_written_b88 {x : JX} {ad : Nat → Nat} {U : Mm} {S0 : Hp} {q : Unit × Mm}  {k88 : Int32 → Int32 → Int32 → Mm → Option (Unit × Mm)} (hn9 : x_n x = 6) (C : CB x RX12 cX12_written) (M : CMr x 5 none S0 ad false U eV q) (hk88 : ∀ (a1 : Int32) (a2 : Int32) (a3 : Int32) (T : Mm), k88 a1 a2 a3 T = some q → Jr x ad false U T [(0, .ref (ad 133)), (1, .int a1), (2, .int a2), (3, .int a3)] 88 []) (a1 : Int32) (a2 : Int32) (a3 : Int32) (T : Mm) (h : f_X12_written_b88 k88 a1 a2 a3 T = some q) : Jr x ad false U T [(0, .ref (ad 133)), (1, .int a1), (2, .int a2), (3, .int a3)] 88 [] := by
  unfold f_X12_written_b88 at h
  refine r_iload_n C dX12_written_88 rfl 3 rfl ?_
  refine r_aload_n C dX12_written_89 rfl 0 rfl ?_
  refine r_getp (f := 1239) (j := 160) C flX12_92 dX12_written_90 kq_133 (by decide) rfl (fun W => pt_1239 kq_133 W) ?_
  refine r_iload_n C dX12_written_93 rfl 1 rfl ?_
  refine r_iald (n := 12) C dX12_written_94 kq_160 lq_160 h (fun j1 hj2 h => ?_)
  show Jr _ _ _ _ _ _ 95 _
  refine r_ic_ge (tgt := 203) C dX12_written_95 (by decide) h (fun h => ?_) (fun h => ?_)
  · refine Jr.sub [0, 1, 2] (lv' := [(0, .ref (ad 133)), (1, .int a1), (2, .int a2)]) rfl ?_
    exact s_X12_written_203 hn9 C M  a1 a2 T h
  · refine r_aload_n C dX12_written_98 rfl 0 rfl ?_
    refine r_geti (f := 1233) C flX12_191 dX12_written_99 kq_133 (by decide) (by decide) rfl ?_
    refine r_if_ne (tgt := 203) C dX12_written_102 (by decide) h (fun h => ?_) (fun h => ?_)
    · refine Jr.sub [0, 1, 2] (lv' := [(0, .ref (ad 133)), (1, .int a1), (2, .int a2)]) rfl ?_
      exact s_X12_written_203 hn9 C M  a1 a2 T h
    · refine r_iconst (v := 0) C dX12_written_105 (by decide) ?_
      refine r_istore (lv' := [(4, .int 0), (0, .ref (ad 133)), (1, .int a1), (2, .int a2), (3, .int a3)]) C dX12_written_106 (by rw [hn9]; decide) rfl ?_
      refine Jr.sub [1, 2, 3, 4, 0] (lv' := [(0, .ref (ad 133)), (1, .int a1), (2, .int a2), (3, .int a3), (4, .int 0)]) rfl ?_
      exact s_X12_written_l108 hn9 C M hk88 FU a1 a2 a3 0 T h
noncomputable def f_X12_written_l88 (n : Nat) : Int32 → Int32 → Int32 → Mm → Option (Unit × Mm) := Nat.rec (fun _ _ _ _ => none) (fun _ ih => f_X12_written_b88 ih) n
theorem s_X12_written_l88 {x : JX} {ad : Nat → Nat} {U : Mm} {S0 : Hp} {q : Unit × Mm}  (hn9 : x_n x = 6) (C : CB x RX12 cX12_written) (M : CMr x 5 none S0 ad false U eV q) : ∀ (n : Nat), ∀ (a1 : Int32) (a2 : Int32) (a3 : Int32) (T : Mm), f_X12_written_l88  n a1 a2 a3 T = some q → Jr x ad false U T [(0, .ref (ad 133)), (1, .int a1), (2, .int a2), (3, .int a3)] 88 [] := by
  intro n
  induction n with
  | zero => intro a1 a2 a3 T  h; exact absurd h (by intro h; cases h)
  | succ n ih => exact fun a1 a2 a3 T  h => s_X12_written_b88 hn9 C M (ih) a1 a2 a3 T  h
noncomputable def f_X12_written_b65 (k65 : Int32 → Int32 → Int32 → Mm → Option (Unit × Mm)) (a1 : Int32) (a2 : Int32) (a3 : Int32) (T : Mm) : Option (Unit × Mm) :=
  if (gI T 1260 133) ≤ a3 then (f_X12_written_l88 FU a1 a2 0 T)
  else (ix a3 640 fun j1 => lb (uA T 167 j1 (0)) fun T3 =>
  k65 a1 a2 (a3 + 1) T3)
set_option maxRecDepth 100000 in
set_option maxHeartbeats 4000000 in
theorem s_X12_written_b65 {x : JX} {ad : Nat → Nat} {U : Mm} {S0 : Hp} {q : Unit × Mm}  {k65 : Int32 → Int32 → Int32 → Mm → Option (Unit × Mm)} (hn9 : x_n x = 6) (C : CB x RX12 cX12_written) (M : CMr x 5 none S0 ad false U eV q) (hk65 : ∀ (a1 : Int32) (a2 : Int32) (a3 : Int32) (T : Mm), k65 a1 a2 a3 T = some q → Jr x ad false U T [(0, .ref (ad 133)), (1, .int a1), (2, .int a2), (3, .int a3)] 65 []) (a1 : Int32) (a2 : Int32) (a3 : Int32) (T : Mm) (h : f_X12_written_b65 k65 a1 a2 a3 T = some q) : Jr x ad false U T [(0, .ref (ad 133)), (1, .int a1), (2, .int a2), (3, .int a3)] 65 [] := by
  unfold f_X12_written_b65 at h
  refine r_iload_n C dX12_written_65 rfl 3 rfl ?_
  refine r_aload_n C dX12_written_66 rfl 0 rfl ?_
  refine r_geti (f := 1260) C flX12_528 dX12_written_67 kq_133 (by decide) (by decide) rfl ?_
  refine r_ic_ge (tgt := 86) C dX12_written_70 (by decide) h (fun h => ?_) (fun h => ?_)
  · refine r_iconst (v := 0) C dX12_written_86 (by decide) ?_
    refine r_istore_n (lv' := [(3, .int 0), (0, .ref (ad 133)), (1, .int a1), (2, .int a2)]) C dX12_written_87 rfl (by rw [hn9]; decide) rfl ?_
    refine Jr.sub [1, 2, 3, 0] (lv' := [(0, .ref (ad 133)), (1, .int a1), (2, .int a2), (3, .int 0)]) rfl ?_
    exact s_X12_written_l88 hn9 C M  FU a1 a2 0 T h
  · refine r_aload_n C dX12_written_73 rfl 0 rfl ?_
    refine r_getp (f := 1258) (j := 167) C flX12_114 dX12_written_74 kq_133 (by decide) rfl (fun W => pt_1258 kq_133 W) ?_
    refine r_iload_n C dX12_written_77 rfl 3 rfl ?_
    refine r_iconst (v := 0) C dX12_written_78 (by decide) ?_
    refine r_iast (n := 640) C dX12_written_79 kq_167 lq_167 h (fun j1 T3 hj2 h => ?_)
    show Jr _ _ _ _ _ _ 80 _
    refine r_iinc (q := 3) (v := (a3 + 1)) (lv' := [(3, .int (a3 + 1)), (0, .ref (ad 133)), (1, .int a1), (2, .int a2)]) C dX12_written_80 rfl (by rw [show Int32.ofInt (1) = 1 by decide]) (by rw [hn9]; decide) rfl ?_
    refine r_goto (tgt := 65) C dX12_written_83 (by decide) ?_
    refine Jr.sub [1, 2, 3, 0] (lv' := [(0, .ref (ad 133)), (1, .int a1), (2, .int a2), (3, .int (a3 + 1))]) rfl ?_
    exact hk65 a1 a2 (a3 + 1) T3 h
noncomputable def f_X12_written_l65 (n : Nat) : Int32 → Int32 → Int32 → Mm → Option (Unit × Mm) := Nat.rec (fun _ _ _ _ => none) (fun _ ih => f_X12_written_b65 ih) n
theorem s_X12_written_l65 {x : JX} {ad : Nat → Nat} {U : Mm} {S0 : Hp} {q : Unit × Mm}  (hn9 : x_n x = 6) (C : CB x RX12 cX12_written) (M : CMr x 5 none S0 ad false U eV q) : ∀ (n : Nat), ∀ (a1 : Int32) (a2 : Int32) (a3 : Int32) (T : Mm), f_X12_written_l65  n a1 a2 a3 T = some q → Jr x ad false U T [(0, .ref (ad 133)), (1, .int a1), (2, .int a2), (3, .int a3)] 65 [] := by
  intro n
  induction n with
  | zero => intro a1 a2 a3 T  h; exact absurd h (by intro h; cases h)
  | succ n ih => exact fun a1 a2 a3 T  h => s_X12_written_b65 hn9 C M (ih) a1 a2 a3 T  h
noncomputable def f_X12_written_38 (a1 : Int32) (T : Mm) : Option (Unit × Mm) :=
  lb ((gI T 1242 133)) fun v1 =>
  ix a1 12 fun j2 =>
  lb (uI T 1260 133 (gA T 159 j2)) fun T4 =>
  lb (uI T4 1264 133 0) fun T5 =>
  lb (uI T5 1265 133 0) fun T6 =>
  f_X12_written_l65 FU a1 v1 0 T6
set_option maxRecDepth 100000 in
set_option maxHeartbeats 4000000 in
theorem s_X12_written_38 {x : JX} {ad : Nat → Nat} {U : Mm} {S0 : Hp} {q : Unit × Mm}  (hn9 : x_n x = 6) (C : CB x RX12 cX12_written) (M : CMr x 5 none S0 ad false U eV q) (a1 : Int32) (T : Mm) (h : f_X12_written_38  a1 T = some q) : Jr x ad false U T [(0, .ref (ad 133)), (1, .int a1)] 38 [] := by
  unfold f_X12_written_38 at h
  refine r_aload_n C dX12_written_38 rfl 0 rfl ?_
  refine r_geti (f := 1242) C flX12_543 dX12_written_39 kq_133 (by decide) (by decide) rfl ?_
  refine r_lbI h (fun v1 h => ?_)
  refine r_istore_n (lv' := [(2, .int v1), (0, .ref (ad 133)), (1, .int a1)]) C dX12_written_42 rfl (by rw [hn9]; decide) rfl ?_
  refine r_aload_n C dX12_written_43 rfl 1 rfl ?_
  refine r_aload_n C dX12_written_44 rfl 1 rfl ?_
  show Jr _ _ _ _ _ _ 45 _
  refine r_getp (f := 1238) (j := 159) C flX12_89 dX12_written_45 kq_133 (by decide) rfl (fun W => pt_1238 kq_133 W) ?_
  refine r_iload_n C dX12_written_48 rfl 2 rfl ?_
  refine r_iald (n := 12) C dX12_written_49 kq_159 lq_159 h (fun j2 hj3 h => ?_)
  refine r_puti (f := 1260) C flX12_528 (by decide) rfl rfl dX12_written_50 kq_133 rfl h (fun T4 h => ?_)
  refine r_aload_n C dX12_written_53 rfl 1 rfl ?_
  refine r_iconst (v := 0) C dX12_written_54 (by decide) ?_
  show Jr _ _ _ _ _ _ 55 _
  refine r_puti (f := 1264) C flX12_537 (by decide) rfl rfl dX12_written_55 kq_133 rfl h (fun T5 h => ?_)
  refine r_aload_n C dX12_written_58 rfl 1 rfl ?_
  refine r_iconst (v := 0) C dX12_written_59 (by decide) ?_
  refine r_puti (f := 1265) C flX12_534 (by decide) rfl rfl dX12_written_60 kq_133 rfl h (fun T6 h => ?_)
  refine r_iconst (v := 0) C dX12_written_63 (by decide) ?_
  refine r_istore_n (lv' := [(3, .int 0), (2, .int v1), (0, .ref (ad 133)), (1, .int a1)]) C dX12_written_64 rfl (by rw [hn9]; decide) rfl ?_
  refine Jr.sub [2, 3, 1, 0] (lv' := [(0, .ref (ad 133)), (1, .int a1), (2, .int v1), (3, .int 0)]) rfl ?_
  exact s_X12_written_l65 hn9 C M  FU a1 v1 0 T6 h
noncomputable def f_X12_written (p1 : Int32) (T : Mm) : Option (Unit × Mm) :=
  if p1 = 0 then (bd (f_X12_outByte 73 T) fun _ T1 =>
  bd (f_X12_outByte 73 T1) fun _ T2 =>
  bd (f_X12_outNumber 2 42 T2) fun _ T3 =>
  lb (uI T3 1266 133 (gI T3 1242 133)) fun T4 =>
  bd (f_X12_outNumber 4 0 T4) fun _ T5 =>
  f_X12_written_38 p1 T5)
  else (f_X12_written_38 p1 T)
set_option maxRecDepth 100000 in
set_option maxHeartbeats 4000000 in
theorem s_X12_written {ad : Nat → Nat} {U T : Mm} {q : Unit × Mm}  (p1 : Int32) (h : f_X12_written p1 T = some q) : Cr 5 yX12_written cX12_written 6 none [.ref (ad 133), .int p1] ad false U T eV q := by
  refine cr_of (by decide) (Nat.le_of_ble_eq_true rfl) fun x S0 hn9 C M => ?_
  have C : CB x RX12 cX12_written := C
  refine Jr.eq (lv' := [(0, .ref (ad 133)), (1, .int p1)]) (st' := []) rfl rfl ?_
  unfold f_X12_written at h
  refine r_iload_n C dX12_written_0 rfl 1 rfl ?_
  refine r_if_ne (tgt := 38) C dX12_written_1 (by decide) h (fun h => ?_) (fun h => ?_)
  · exact s_X12_written_38 hn9 C M  p1 T h
  · refine r_aload_n C dX12_written_4 rfl 0 rfl ?_
    refine r_bipush (v := 73) C dX12_written_5 (by decide) ?_
    refine r_callVN C M h [.int 73] [] mlX12_540 mcX12_outByte (fun q9 e9 => s_X12_outByte 73  e9) kq_133 rfl (by decide) (by decide) rfl rfl (Nat.le_of_ble_eq_true rfl) dX12_written_7 (fun _ T1 h => ?_)
    refine r_aload_n C dX12_written_10 rfl 0 rfl ?_
    refine r_bipush (v := 73) C dX12_written_11 (by decide) ?_
    show Jr _ _ _ _ _ _ 13 _
    refine r_callVN C M h [.int 73] [] mlX12_540 mcX12_outByte (fun q9 e9 => s_X12_outByte 73  e9) kq_133 rfl (by decide) (by decide) rfl rfl (Nat.le_of_ble_eq_true rfl) dX12_written_13 (fun _ T2 h => ?_)
    refine r_aload_n C dX12_written_16 rfl 0 rfl ?_
    refine r_iconst (v := 2) C dX12_written_17 (by decide) ?_
    refine r_ldc2 (v := 42) C dX12_written_18 kcX12_561 ?_
    refine r_callVN C M h [.int 2, .long 42] [] mlX12_563 mcX12_outNumber (fun q9 e9 => s_X12_outNumber 2 42  e9) kq_133 rfl (by decide) (by decide) rfl rfl (Nat.le_of_ble_eq_true rfl) dX12_written_21 (fun _ T3 h => ?_)
    refine r_aload_n C dX12_written_24 rfl 0 rfl ?_
    show Jr _ _ _ _ _ _ 25 _
    refine r_aload_n C dX12_written_25 rfl 0 rfl ?_
    refine r_geti (f := 1242) C flX12_543 dX12_written_26 kq_133 (by decide) (by decide) rfl ?_
    refine r_puti (f := 1266) C flX12_567 (by decide) rfl rfl dX12_written_29 kq_133 rfl h (fun T4 h => ?_)
    refine r_aload_n C dX12_written_32 rfl 0 rfl ?_
    refine r_iconst (v := 4) C dX12_written_33 (by decide) ?_
    refine r_lconst (v := 0) C dX12_written_34 (by decide) ?_
    show Jr _ _ _ _ _ _ 35 _
    refine r_callVN C M h [.int 4, .long 0] [] mlX12_563 mcX12_outNumber (fun q9 e9 => s_X12_outNumber 4 0  e9) kq_133 rfl (by decide) (by decide) rfl rfl (Nat.le_of_ble_eq_true rfl) dX12_written_35 (fun _ T5 h => ?_)
    exact s_X12_written_38 hn9 C M  p1 T5 h
theorem dX12_comes_0 : decode cX12_comes 0 = .ok (.aload_n 0, 1) := by decide +kernel
theorem dX12_comes_1 : decode cX12_comes 1 = .ok (.getfield 198, 3) := by decide +kernel
theorem dX12_comes_4 : decode cX12_comes 4 = .ok (.bipush 12, 2) := by decide +kernel
theorem dX12_comes_6 : decode cX12_comes 6 = .ok (.if_icmp .ne 9, 3) := by decide +kernel
theorem dX12_comes_9 : decode cX12_comes 9 = .ok (.aload_n 0, 1) := by decide +kernel
theorem dX12_comes_10 : decode cX12_comes 10 = .ok (.iconst 1, 1) := by decide +kernel
theorem dX12_comes_11 : decode cX12_comes 11 = .ok (.putfield 191, 3) := by decide +kernel
theorem dX12_comes_14 : decode cX12_comes 14 = .ok (.return_, 1) := by decide +kernel
theorem dX12_comes_15 : decode cX12_comes 15 = .ok (.iconst 0, 1) := by decide +kernel
theorem dX12_comes_16 : decode cX12_comes 16 = .ok (.istore_n 3, 1) := by decide +kernel
theorem dX12_comes_17 : decode cX12_comes 17 = .ok (.iload_n 3, 1) := by decide +kernel
theorem dX12_comes_18 : decode cX12_comes 18 = .ok (.bipush 80, 2) := by decide +kernel
theorem dX12_comes_20 : decode cX12_comes 20 = .ok (.iload_n 2, 1) := by decide +kernel
theorem dX12_comes_21 : decode cX12_comes 21 = .ok (.imul, 1) := by decide +kernel
theorem dX12_comes_22 : decode cX12_comes 22 = .ok (.if_icmp .ge 29, 3) := by decide +kernel
theorem dX12_comes_25 : decode cX12_comes 25 = .ok (.aload_n 0, 1) := by decide +kernel
theorem dX12_comes_26 : decode cX12_comes 26 = .ok (.getfield 86, 3) := by decide +kernel
theorem dX12_comes_29 : decode cX12_comes 29 = .ok (.aload_n 0, 1) := by decide +kernel
theorem dX12_comes_30 : decode cX12_comes 30 = .ok (.getfield 198, 3) := by decide +kernel
theorem dX12_comes_33 : decode cX12_comes 33 = .ok (.ldc 81, 2) := by decide +kernel
theorem dX12_comes_35 : decode cX12_comes 35 = .ok (.imul, 1) := by decide +kernel
theorem dX12_comes_36 : decode cX12_comes 36 = .ok (.iload_n 3, 1) := by decide +kernel
theorem dX12_comes_37 : decode cX12_comes 37 = .ok (.iadd, 1) := by decide +kernel
theorem dX12_comes_38 : decode cX12_comes 38 = .ok (.aload_n 0, 1) := by decide +kernel
theorem dX12_comes_39 : decode cX12_comes 39 = .ok (.getfield 82, 3) := by decide +kernel
theorem dX12_comes_42 : decode cX12_comes 42 = .ok (.iload_n 3, 1) := by decide +kernel
theorem dX12_comes_43 : decode cX12_comes 43 = .ok (.baload, 1) := by decide +kernel
theorem dX12_comes_44 : decode cX12_comes 44 = .ok (.bastore, 1) := by decide +kernel
theorem dX12_comes_45 : decode cX12_comes 45 = .ok (.iinc 3 1, 3) := by decide +kernel
theorem dX12_comes_48 : decode cX12_comes 48 = .ok (.goto (-31), 3) := by decide +kernel
theorem dX12_comes_51 : decode cX12_comes 51 = .ok (.aload_n 0, 1) := by decide +kernel
theorem dX12_comes_52 : decode cX12_comes 52 = .ok (.getfield 89, 3) := by decide +kernel
theorem dX12_comes_55 : decode cX12_comes 55 = .ok (.aload_n 0, 1) := by decide +kernel
theorem dX12_comes_56 : decode cX12_comes 56 = .ok (.getfield 198, 3) := by decide +kernel
theorem dX12_comes_59 : decode cX12_comes 59 = .ok (.iload_n 1, 1) := by decide +kernel
theorem dX12_comes_60 : decode cX12_comes 60 = .ok (.iastore, 1) := by decide +kernel
theorem dX12_comes_61 : decode cX12_comes 61 = .ok (.aload_n 0, 1) := by decide +kernel
theorem dX12_comes_62 : decode cX12_comes 62 = .ok (.getfield 92, 3) := by decide +kernel
theorem dX12_comes_65 : decode cX12_comes 65 = .ok (.aload_n 0, 1) := by decide +kernel
theorem dX12_comes_66 : decode cX12_comes 66 = .ok (.getfield 198, 3) := by decide +kernel
theorem dX12_comes_69 : decode cX12_comes 69 = .ok (.iload_n 2, 1) := by decide +kernel
theorem dX12_comes_70 : decode cX12_comes 70 = .ok (.iastore, 1) := by decide +kernel
theorem dX12_comes_71 : decode cX12_comes 71 = .ok (.aload_n 0, 1) := by decide +kernel
theorem dX12_comes_72 : decode cX12_comes 72 = .ok (.dup, 1) := by decide +kernel
theorem dX12_comes_73 : decode cX12_comes 73 = .ok (.getfield 198, 3) := by decide +kernel
theorem dX12_comes_76 : decode cX12_comes 76 = .ok (.iconst 1, 1) := by decide +kernel
theorem dX12_comes_77 : decode cX12_comes 77 = .ok (.iadd, 1) := by decide +kernel
theorem dX12_comes_78 : decode cX12_comes 78 = .ok (.putfield 198, 3) := by decide +kernel
theorem dX12_comes_81 : decode cX12_comes 81 = .ok (.aload_n 0, 1) := by decide +kernel
theorem dX12_comes_82 : decode cX12_comes 82 = .ok (.aload_n 0, 1) := by decide +kernel
theorem dX12_comes_83 : decode cX12_comes 83 = .ok (.getfield 198, 3) := by decide +kernel
theorem dX12_comes_86 : decode cX12_comes 86 = .ok (.iconst 1, 1) := by decide +kernel
theorem dX12_comes_87 : decode cX12_comes 87 = .ok (.isub, 1) := by decide +kernel
theorem dX12_comes_88 : decode cX12_comes 88 = .ok (.invokevirtual 201, 3) := by decide +kernel
theorem dX12_comes_91 : decode cX12_comes 91 = .ok (.return_, 1) := by decide +kernel
noncomputable def f_X12_comes_b17 (k17 : Int32 → Int32 → Int32 → Mm → Option (Unit × Mm)) (a1 : Int32) (a2 : Int32) (a3 : Int32) (T : Mm) : Option (Unit × Mm) :=
  if ((80 : Int32) * a2) ≤ a3 then (ix (gI T 1240 133) 12 fun j1 => lb (uA T 159 j1 (a1)) fun T3 =>
  ix (gI T3 1240 133) 12 fun j4 => lb (uA T3 160 j4 (a2)) fun T6 =>
  lb (uI T6 1240 133 ((gI T6 1240 133) + 1)) fun T7 =>
  bd (f_X12_written ((gI T7 1240 133) - 1) T7) fun _ T8 =>
  some ((), T8))
  else (ix a3 64000 fun j9 =>
  ix (((gI T 1240 133) * 64000) + a3) 768000 fun j11 => lb (uA T 158 j11 (((gA T 157 j9)).toInt8.toInt32)) fun T13 =>
  k17 a1 a2 (a3 + 1) T13)
set_option maxRecDepth 100000 in
set_option maxHeartbeats 4000000 in
theorem s_X12_comes_b17 {x : JX} {ad : Nat → Nat} {U : Mm} {S0 : Hp} {q : Unit × Mm}  {k17 : Int32 → Int32 → Int32 → Mm → Option (Unit × Mm)} (hn9 : x_n x = 4) (C : CB x RX12 cX12_comes) (M : CMr x 6 none S0 ad false U eV q) (hk17 : ∀ (a1 : Int32) (a2 : Int32) (a3 : Int32) (T : Mm), k17 a1 a2 a3 T = some q → Jr x ad false U T [(0, .ref (ad 133)), (1, .int a1), (2, .int a2), (3, .int a3)] 17 []) (a1 : Int32) (a2 : Int32) (a3 : Int32) (T : Mm) (h : f_X12_comes_b17 k17 a1 a2 a3 T = some q) : Jr x ad false U T [(0, .ref (ad 133)), (1, .int a1), (2, .int a2), (3, .int a3)] 17 [] := by
  unfold f_X12_comes_b17 at h
  refine r_iload_n C dX12_comes_17 rfl 3 rfl ?_
  refine r_bipush (v := 80) C dX12_comes_18 (by decide) ?_
  refine r_iload_n C dX12_comes_20 rfl 2 rfl ?_
  refine r_imul C dX12_comes_21 rfl ?_
  refine r_ic_ge (tgt := 51) C dX12_comes_22 (by decide) h (fun h => ?_) (fun h => ?_)
  · refine r_aload_n C dX12_comes_51 rfl 0 rfl ?_
    refine r_getp (f := 1238) (j := 159) C flX12_89 dX12_comes_52 kq_133 (by decide) rfl (fun W => pt_1238 kq_133 W) ?_
    refine r_aload_n C dX12_comes_55 rfl 0 rfl ?_
    refine r_geti (f := 1240) C flX12_198 dX12_comes_56 kq_133 (by decide) (by decide) rfl ?_
    refine r_iload_n C dX12_comes_59 rfl 1 rfl ?_
    show Jr _ _ _ _ _ _ 60 _
    refine r_iast (n := 12) C dX12_comes_60 kq_159 lq_159 h (fun j1 T3 hj2 h => ?_)
    refine r_aload_n C dX12_comes_61 rfl 0 rfl ?_
    refine r_getp (f := 1239) (j := 160) C flX12_92 dX12_comes_62 kq_133 (by decide) rfl (fun W => pt_1239 kq_133 W) ?_
    refine r_aload_n C dX12_comes_65 rfl 0 rfl ?_
    refine r_geti (f := 1240) C flX12_198 dX12_comes_66 kq_133 (by decide) (by decide) rfl ?_
    refine r_iload_n C dX12_comes_69 rfl 2 rfl ?_
    show Jr _ _ _ _ _ _ 70 _
    refine r_iast (n := 12) C dX12_comes_70 kq_160 lq_160 h (fun j4 T6 hj5 h => ?_)
    refine r_aload_n C dX12_comes_71 rfl 0 rfl ?_
    refine r_dup C dX12_comes_72 rfl ?_
    refine r_geti (f := 1240) C flX12_198 dX12_comes_73 kq_133 (by decide) (by decide) rfl ?_
    refine r_iconst (v := 1) C dX12_comes_76 (by decide) ?_
    refine r_iadd C dX12_comes_77 rfl ?_
    show Jr _ _ _ _ _ _ 78 _
    refine r_puti (f := 1240) C flX12_198 (by decide) rfl rfl dX12_comes_78 kq_133 rfl h (fun T7 h => ?_)
    refine r_aload_n C dX12_comes_81 rfl 0 rfl ?_
    refine r_aload_n C dX12_comes_82 rfl 0 rfl ?_
    refine r_geti (f := 1240) C flX12_198 dX12_comes_83 kq_133 (by decide) (by decide) rfl ?_
    refine r_iconst (v := 1) C dX12_comes_86 (by decide) ?_
    refine r_isub C dX12_comes_87 rfl ?_
    show Jr _ _ _ _ _ _ 88 _
    refine r_callVN C M h [.int ((gI T7 1240 133) - 1)] [] mlX12_201 mcX12_written (fun q9 e9 => s_X12_written ((gI T7 1240 133) - 1)  e9) kq_133 rfl (by decide) (by decide) rfl rfl (Nat.le_of_ble_eq_true rfl) dX12_comes_88 (fun _ T8 h => ?_)
    exact r_vret C M dX12_comes_91 h
  · refine r_aload_n C dX12_comes_25 rfl 0 rfl ?_
    refine r_getp (f := 1237) (j := 158) C flX12_86 dX12_comes_26 kq_133 (by decide) rfl (fun W => pt_1237 kq_133 W) ?_
    refine r_aload_n C dX12_comes_29 rfl 0 rfl ?_
    refine r_geti (f := 1240) C flX12_198 dX12_comes_30 kq_133 (by decide) (by decide) rfl ?_
    refine r_ldc (v := 64000) C dX12_comes_33 kcX12_81 ?_
    show Jr _ _ _ _ _ _ 35 _
    refine r_imul C dX12_comes_35 rfl ?_
    refine r_iload_n C dX12_comes_36 rfl 3 rfl ?_
    refine r_iadd C dX12_comes_37 rfl ?_
    refine r_aload_n C dX12_comes_38 rfl 0 rfl ?_
    refine r_getp (f := 1234) (j := 157) C flX12_82 dX12_comes_39 kq_133 (by decide) rfl (fun W => pt_1234 kq_133 W) ?_
    refine r_iload_n C dX12_comes_42 rfl 3 rfl ?_
    show Jr _ _ _ _ _ _ 43 _
    refine r_bald (n := 64000) C dX12_comes_43 kq_157 lq_157 h (fun j9 hj10 h => ?_)
    refine r_bast (n := 768000) C dX12_comes_44 kq_158 lq_158 h (fun j11 T13 hj12 h => ?_)
    refine r_iinc (q := 3) (v := (a3 + 1)) (lv' := [(3, .int (a3 + 1)), (0, .ref (ad 133)), (1, .int a1), (2, .int a2)]) C dX12_comes_45 rfl (by rw [show Int32.ofInt (1) = 1 by decide]) (by rw [hn9]; decide) rfl ?_
    refine r_goto (tgt := 17) C dX12_comes_48 (by decide) ?_
    refine Jr.sub [1, 2, 3, 0] (lv' := [(0, .ref (ad 133)), (1, .int a1), (2, .int a2), (3, .int (a3 + 1))]) rfl ?_
    exact hk17 a1 a2 (a3 + 1) T13 h
noncomputable def f_X12_comes_l17 (n : Nat) : Int32 → Int32 → Int32 → Mm → Option (Unit × Mm) := Nat.rec (fun _ _ _ _ => none) (fun _ ih => f_X12_comes_b17 ih) n
theorem s_X12_comes_l17 {x : JX} {ad : Nat → Nat} {U : Mm} {S0 : Hp} {q : Unit × Mm}  (hn9 : x_n x = 4) (C : CB x RX12 cX12_comes) (M : CMr x 6 none S0 ad false U eV q) : ∀ (n : Nat), ∀ (a1 : Int32) (a2 : Int32) (a3 : Int32) (T : Mm), f_X12_comes_l17  n a1 a2 a3 T = some q → Jr x ad false U T [(0, .ref (ad 133)), (1, .int a1), (2, .int a2), (3, .int a3)] 17 [] := by
  intro n
  induction n with
  | zero => intro a1 a2 a3 T  h; exact absurd h (by intro h; cases h)
  | succ n ih => exact fun a1 a2 a3 T  h => s_X12_comes_b17 hn9 C M (ih) a1 a2 a3 T  h
noncomputable def f_X12_comes (p1 : Int32) (p2 : Int32) (T : Mm) : Option (Unit × Mm) :=
  if (gI T 1240 133) = 12 then (lb (uI T 1233 133 1) fun T1 =>
  some ((), T1))
  else (f_X12_comes_l17 FU p1 p2 0 T)
set_option maxRecDepth 100000 in
set_option maxHeartbeats 4000000 in
theorem s_X12_comes {ad : Nat → Nat} {U T : Mm} {q : Unit × Mm}  (p1 : Int32) (p2 : Int32) (h : f_X12_comes p1 p2 T = some q) : Cr 6 yX12_comes cX12_comes 4 none [.ref (ad 133), .int p1, .int p2] ad false U T eV q := by
  refine cr_of (by decide) (Nat.le_of_ble_eq_true rfl) fun x S0 hn9 C M => ?_
  have C : CB x RX12 cX12_comes := C
  refine Jr.eq (lv' := [(0, .ref (ad 133)), (1, .int p1), (2, .int p2)]) (st' := []) rfl rfl ?_
  unfold f_X12_comes at h
  refine r_aload_n C dX12_comes_0 rfl 0 rfl ?_
  refine r_geti (f := 1240) C flX12_198 dX12_comes_1 kq_133 (by decide) (by decide) rfl ?_
  refine r_bipush (v := 12) C dX12_comes_4 (by decide) ?_
  refine r_ic_ne (tgt := 15) C dX12_comes_6 (by decide) h (fun h => ?_) (fun h => ?_)
  · refine r_iconst (v := 0) C dX12_comes_15 (by decide) ?_
    refine r_istore_n (lv' := [(3, .int 0), (0, .ref (ad 133)), (1, .int p1), (2, .int p2)]) C dX12_comes_16 rfl (by rw [hn9]; decide) rfl ?_
    refine Jr.sub [1, 2, 3, 0] (lv' := [(0, .ref (ad 133)), (1, .int p1), (2, .int p2), (3, .int 0)]) rfl ?_
    exact s_X12_comes_l17 hn9 C M  FU p1 p2 0 T h
  · refine r_aload_n C dX12_comes_9 rfl 0 rfl ?_
    refine r_iconst (v := 1) C dX12_comes_10 (by decide) ?_
    refine r_putz (f := 1233) C flX12_191 (by decide) rfl rfl (by decide) dX12_comes_11 kq_133 rfl h (fun T1 h => ?_)
    exact r_vret C M dX12_comes_14 h
theorem dX12_eject_0 : decode cX12_eject 0 = .ok (.aload_n 0, 1) := by decide +kernel
theorem dX12_eject_1 : decode cX12_eject 1 = .ok (.getfield 219, 3) := by decide +kernel
theorem dX12_eject_4 : decode cX12_eject 4 = .ok (.ifCond .ne 10, 3) := by decide +kernel
theorem dX12_eject_7 : decode cX12_eject 7 = .ok (.aload_n 0, 1) := by decide +kernel
theorem dX12_eject_8 : decode cX12_eject 8 = .ok (.getfield 182, 3) := by decide +kernel
theorem dX12_eject_11 : decode cX12_eject 11 = .ok (.ifCond .ne 4, 3) := by decide +kernel
theorem dX12_eject_14 : decode cX12_eject 14 = .ok (.return_, 1) := by decide +kernel
theorem dX12_eject_15 : decode cX12_eject 15 = .ok (.aload_n 0, 1) := by decide +kernel
theorem dX12_eject_16 : decode cX12_eject 16 = .ok (.getfield 9, 3) := by decide +kernel
theorem dX12_eject_19 : decode cX12_eject 19 = .ok (.sipush 187, 3) := by decide +kernel
theorem dX12_eject_22 : decode cX12_eject 22 = .ok (.iaload, 1) := by decide +kernel
theorem dX12_eject_23 : decode cX12_eject 23 = .ok (.istore_n 1, 1) := by decide +kernel
theorem dX12_eject_24 : decode cX12_eject 24 = .ok (.iload_n 1, 1) := by decide +kernel
theorem dX12_eject_25 : decode cX12_eject 25 = .ok (.iconst (-1), 1) := by decide +kernel
theorem dX12_eject_26 : decode cX12_eject 26 = .ok (.if_icmp .eq 71, 3) := by decide +kernel
theorem dX12_eject_29 : decode cX12_eject 29 = .ok (.aload_n 0, 1) := by decide +kernel
theorem dX12_eject_30 : decode cX12_eject 30 = .ok (.getfield 53, 3) := by decide +kernel
theorem dX12_eject_33 : decode cX12_eject 33 = .ok (.iload_n 1, 1) := by decide +kernel
theorem dX12_eject_34 : decode cX12_eject 34 = .ok (.baload, 1) := by decide +kernel
theorem dX12_eject_35 : decode cX12_eject 35 = .ok (.ifCond .eq 62, 3) := by decide +kernel
theorem dX12_eject_38 : decode cX12_eject 38 = .ok (.aload_n 0, 1) := by decide +kernel
theorem dX12_eject_39 : decode cX12_eject 39 = .ok (.getfield 222, 3) := by decide +kernel
theorem dX12_eject_42 : decode cX12_eject 42 = .ok (.iconst 3, 1) := by decide +kernel
theorem dX12_eject_43 : decode cX12_eject 43 = .ok (.if_icmp .ge 54, 3) := by decide +kernel
theorem dX12_eject_46 : decode cX12_eject 46 = .ok (.iconst 4, 1) := by decide +kernel
theorem dX12_eject_47 : decode cX12_eject 47 = .ok (.istore_n 2, 1) := by decide +kernel
theorem dX12_eject_48 : decode cX12_eject 48 = .ok (.aload_n 0, 1) := by decide +kernel
theorem dX12_eject_49 : decode cX12_eject 49 = .ok (.iload_n 2, 1) := by decide +kernel
theorem dX12_eject_50 : decode cX12_eject 50 = .ok (.invokevirtual 225, 3) := by decide +kernel
theorem dX12_eject_53 : decode cX12_eject 53 = .ok (.aload_n 0, 1) := by decide +kernel
theorem dX12_eject_54 : decode cX12_eject 54 = .ok (.aload_n 0, 1) := by decide +kernel
theorem dX12_eject_55 : decode cX12_eject 55 = .ok (.getfield 9, 3) := by decide +kernel
theorem dX12_eject_58 : decode cX12_eject 58 = .ok (.iconst 0, 1) := by decide +kernel
theorem dX12_eject_59 : decode cX12_eject 59 = .ok (.iaload, 1) := by decide +kernel
theorem dX12_eject_60 : decode cX12_eject 60 = .ok (.aload_n 0, 1) := by decide +kernel
theorem dX12_eject_61 : decode cX12_eject 61 = .ok (.getfield 9, 3) := by decide +kernel
theorem dX12_eject_64 : decode cX12_eject 64 = .ok (.iconst 1, 1) := by decide +kernel
theorem dX12_eject_65 : decode cX12_eject 65 = .ok (.iaload, 1) := by decide +kernel
theorem dX12_eject_66 : decode cX12_eject 66 = .ok (.invokevirtual 228, 3) := by decide +kernel
theorem dX12_eject_69 : decode cX12_eject 69 = .ok (.aload_n 0, 1) := by decide +kernel
theorem dX12_eject_70 : decode cX12_eject 70 = .ok (.iconst 1, 1) := by decide +kernel
theorem dX12_eject_71 : decode cX12_eject 71 = .ok (.putfield 219, 3) := by decide +kernel
theorem dX12_eject_74 : decode cX12_eject 74 = .ok (.aload_n 0, 1) := by decide +kernel
theorem dX12_eject_75 : decode cX12_eject 75 = .ok (.iload_n 1, 1) := by decide +kernel
theorem dX12_eject_76 : decode cX12_eject 76 = .ok (.invokevirtual 232, 3) := by decide +kernel
theorem dX12_eject_79 : decode cX12_eject 79 = .ok (.aload_n 0, 1) := by decide +kernel
theorem dX12_eject_80 : decode cX12_eject 80 = .ok (.iconst 0, 1) := by decide +kernel
theorem dX12_eject_81 : decode cX12_eject 81 = .ok (.putfield 219, 3) := by decide +kernel
theorem dX12_eject_84 : decode cX12_eject 84 = .ok (.aload_n 0, 1) := by decide +kernel
theorem dX12_eject_85 : decode cX12_eject 85 = .ok (.getfield 191, 3) := by decide +kernel
theorem dX12_eject_88 : decode cX12_eject 88 = .ok (.ifCond .eq 4, 3) := by decide +kernel
theorem dX12_eject_91 : decode cX12_eject 91 = .ok (.return_, 1) := by decide +kernel
theorem dX12_eject_92 : decode cX12_eject 92 = .ok (.aload_n 0, 1) := by decide +kernel
theorem dX12_eject_93 : decode cX12_eject 93 = .ok (.iload_n 2, 1) := by decide +kernel
theorem dX12_eject_94 : decode cX12_eject 94 = .ok (.invokevirtual 235, 3) := by decide +kernel
theorem dX12_eject_97 : decode cX12_eject 97 = .ok (.aload_n 0, 1) := by decide +kernel
theorem dX12_eject_98 : decode cX12_eject 98 = .ok (.getfield 9, 3) := by decide +kernel
theorem dX12_eject_101 : decode cX12_eject 101 = .ok (.bipush 8, 2) := by decide +kernel
theorem dX12_eject_103 : decode cX12_eject 103 = .ok (.iaload, 1) := by decide +kernel
theorem dX12_eject_104 : decode cX12_eject 104 = .ok (.istore_n 2, 1) := by decide +kernel
theorem dX12_eject_105 : decode cX12_eject 105 = .ok (.iconst 0, 1) := by decide +kernel
theorem dX12_eject_106 : decode cX12_eject 106 = .ok (.istore_n 3, 1) := by decide +kernel
theorem dX12_eject_107 : decode cX12_eject 107 = .ok (.iload_n 3, 1) := by decide +kernel
theorem dX12_eject_108 : decode cX12_eject 108 = .ok (.iload_n 2, 1) := by decide +kernel
theorem dX12_eject_109 : decode cX12_eject 109 = .ok (.if_icmp .ge 38, 3) := by decide +kernel
theorem dX12_eject_112 : decode cX12_eject 112 = .ok (.aload_n 0, 1) := by decide +kernel
theorem dX12_eject_113 : decode cX12_eject 113 = .ok (.getfield 191, 3) := by decide +kernel
theorem dX12_eject_116 : decode cX12_eject 116 = .ok (.ifCond .ne 31, 3) := by decide +kernel
theorem dX12_eject_119 : decode cX12_eject 119 = .ok (.aload_n 0, 1) := by decide +kernel
theorem dX12_eject_120 : decode cX12_eject 120 = .ok (.aload_n 0, 1) := by decide +kernel
theorem dX12_eject_121 : decode cX12_eject 121 = .ok (.getfield 9, 3) := by decide +kernel
theorem dX12_eject_124 : decode cX12_eject 124 = .ok (.iconst 0, 1) := by decide +kernel
theorem dX12_eject_125 : decode cX12_eject 125 = .ok (.iaload, 1) := by decide +kernel
theorem dX12_eject_126 : decode cX12_eject 126 = .ok (.invokestatic 156, 3) := by decide +kernel
theorem dX12_eject_129 : decode cX12_eject 129 = .ok (.aload_n 0, 1) := by decide +kernel
theorem dX12_eject_130 : decode cX12_eject 130 = .ok (.getfield 9, 3) := by decide +kernel
theorem dX12_eject_133 : decode cX12_eject 133 = .ok (.iconst 0, 1) := by decide +kernel
theorem dX12_eject_134 : decode cX12_eject 134 = .ok (.iaload, 1) := by decide +kernel
theorem dX12_eject_135 : decode cX12_eject 135 = .ok (.invokestatic 160, 3) := by decide +kernel
theorem dX12_eject_138 : decode cX12_eject 138 = .ok (.invokevirtual 238, 3) := by decide +kernel
theorem dX12_eject_141 : decode cX12_eject 141 = .ok (.iinc 3 1, 3) := by decide +kernel
theorem dX12_eject_144 : decode cX12_eject 144 = .ok (.goto (-37), 3) := by decide +kernel
theorem dX12_eject_147 : decode cX12_eject 147 = .ok (.aload_n 0, 1) := by decide +kernel
theorem dX12_eject_148 : decode cX12_eject 148 = .ok (.invokevirtual 241, 3) := by decide +kernel
theorem dX12_eject_151 : decode cX12_eject 151 = .ok (.return_, 1) := by decide +kernel
noncomputable def f_X12_eject_b107 (G : Int32 → Mm → Option (Unit × Mm)) (k107 : Int32 → Int32 → Mm → Option (Unit × Mm)) (a2 : Int32) (a3 : Int32) (T : Mm) : Option (Unit × Mm) :=
  if a2 ≤ a3 then (bd (f_X12_white T) fun _ T1 =>
  some ((), T1))
  else (if (gI T 1233 133) = 0 then (bd (f_X12_pageWide (gA T 134 0) T) fun v3 T4 =>
  bd (f_X12_pageHigh (gA T4 134 0) T4) fun v5 T6 =>
  bd (f_X12_comes v3 v5 T6) fun _ T7 =>
  k107 a2 (a3 + 1) T7)
  else (bd (f_X12_white T) fun _ T2 =>
  some ((), T2)))
set_option maxRecDepth 100000 in
set_option maxHeartbeats 4000000 in
theorem s_X12_eject_b107 {x : JX} {ad : Nat → Nat} {U : Mm} {S0 : Hp} {q : Unit × Mm} {D : Nat} {G : Int32 → Mm → Option (Unit × Mm)}  {k107 : Int32 → Int32 → Mm → Option (Unit × Mm)} (hn9 : x_n x = 4) (C : CB x RX12 cX12_eject) (M : CMr x (D + 1) none S0 ad false U eV q) (hD : 40 ≤ D) (hG : ∀ (i : Int32) (T : Mm) (q : Unit × Mm), G i T = some q → Cr D yX12_through cX12_through 8 none [.ref (ad 133), .int i] ad false U T eV q) (hk107 : ∀ (a2 : Int32) (a3 : Int32) (T : Mm), k107 a2 a3 T = some q → Jr x ad false U T [(0, .ref (ad 133)), (2, .int a2), (3, .int a3)] 107 []) (a2 : Int32) (a3 : Int32) (T : Mm) (h : f_X12_eject_b107 G k107 a2 a3 T = some q) : Jr x ad false U T [(0, .ref (ad 133)), (2, .int a2), (3, .int a3)] 107 [] := by
  unfold f_X12_eject_b107 at h
  refine r_iload_n C dX12_eject_107 rfl 2 rfl ?_
  refine r_iload_n C dX12_eject_108 rfl 1 rfl ?_
  refine r_ic_ge (tgt := 147) C dX12_eject_109 (by decide) h (fun h => ?_) (fun h => ?_)
  · refine r_aload_n C dX12_eject_147 rfl 0 rfl ?_
    refine r_callVN C M h [] [] mlX12_241 mcX12_white (fun q9 e9 => s_X12_white   e9) kq_133 rfl (by omega) (by decide) rfl rfl (Nat.le_of_ble_eq_true rfl) dX12_eject_148 (fun _ T1 h => ?_)
    exact r_vret C M dX12_eject_151 h
  · refine r_aload_n C dX12_eject_112 rfl 0 rfl ?_
    refine r_geti (f := 1233) C flX12_191 dX12_eject_113 kq_133 (by decide) (by decide) rfl ?_
    refine r_if_ne (tgt := 147) C dX12_eject_116 (by decide) h (fun h => ?_) (fun h => ?_)
    · refine r_aload_n C dX12_eject_147 rfl 0 rfl ?_
      refine r_callVN C M h [] [] mlX12_241 mcX12_white (fun q9 e9 => s_X12_white   e9) kq_133 rfl (by omega) (by decide) rfl rfl (Nat.le_of_ble_eq_true rfl) dX12_eject_148 (fun _ T2 h => ?_)
      exact r_vret C M dX12_eject_151 h
    · refine r_aload_n C dX12_eject_119 rfl 0 rfl ?_
      refine r_aload_n C dX12_eject_120 rfl 0 rfl ?_
      refine r_getp (f := 1200) (j := 134) C flX12_9 dX12_eject_121 kq_133 (by decide) rfl (fun W => pt_1200 kq_133 W) ?_
      refine r_iconst (v := 0) C dX12_eject_124 (by decide) ?_
      refine r_ialdc (n := 192) C 0 dX12_eject_125 kq_134 lq_134 (vp_lit (by decide)) (by decide) ?_
      show Jr _ _ _ _ _ _ 126 _
      refine r_callSI C M h [.int (gA T 134 0)] [.ref (ad 133)] mlX12_156 mcX12_pageWide (fun q9 e9 => s_X12_pageWide (gA T 134 0)  e9) (by omega) (by decide) rfl rfl (Nat.le_of_ble_eq_true rfl) dX12_eject_126 (fun v3 T4 h => ?_)
      refine r_aload_n C dX12_eject_129 rfl 0 rfl ?_
      refine r_getp (f := 1200) (j := 134) C flX12_9 dX12_eject_130 kq_133 (by decide) rfl (fun W => pt_1200 kq_133 W) ?_
      refine r_iconst (v := 0) C dX12_eject_133 (by decide) ?_
      refine r_ialdc (n := 192) C 0 dX12_eject_134 kq_134 lq_134 (vp_lit (by decide)) (by decide) ?_
      refine r_callSI C M h [.int (gA T4 134 0)] [.int v3, .ref (ad 133)] mlX12_160 mcX12_pageHigh (fun q9 e9 => s_X12_pageHigh (gA T4 134 0)  e9) (by omega) (by decide) rfl rfl (Nat.le_of_ble_eq_true rfl) dX12_eject_135 (fun v5 T6 h => ?_)
      show Jr _ _ _ _ _ _ 138 _
      refine r_callVN C M h [.int v3, .int v5] [] mlX12_238 mcX12_comes (fun q9 e9 => s_X12_comes v3 v5  e9) kq_133 rfl (by omega) (by decide) rfl rfl (Nat.le_of_ble_eq_true rfl) dX12_eject_138 (fun _ T7 h => ?_)
      refine r_iinc (q := 2) (v := (a3 + 1)) (lv' := [(3, .int (a3 + 1)), (0, .ref (ad 133)), (2, .int a2)]) C dX12_eject_141 rfl (by rw [show Int32.ofInt (1) = 1 by decide]) (by rw [hn9]; decide) rfl ?_
      refine r_goto (tgt := 107) C dX12_eject_144 (by decide) ?_
      refine Jr.sub [1, 2, 0] (lv' := [(0, .ref (ad 133)), (2, .int a2), (3, .int (a3 + 1))]) rfl ?_
      exact hk107 a2 (a3 + 1) T7 h
noncomputable def f_X12_eject_l107 (G : Int32 → Mm → Option (Unit × Mm)) (n : Nat) : Int32 → Int32 → Mm → Option (Unit × Mm) := Nat.rec (fun _ _ _ => none) (fun _ ih => f_X12_eject_b107 G ih) n
theorem s_X12_eject_l107 {x : JX} {ad : Nat → Nat} {U : Mm} {S0 : Hp} {q : Unit × Mm} {D : Nat} {G : Int32 → Mm → Option (Unit × Mm)}  (hn9 : x_n x = 4) (C : CB x RX12 cX12_eject) (M : CMr x (D + 1) none S0 ad false U eV q) (hD : 40 ≤ D) (hG : ∀ (i : Int32) (T : Mm) (q : Unit × Mm), G i T = some q → Cr D yX12_through cX12_through 8 none [.ref (ad 133), .int i] ad false U T eV q) : ∀ (n : Nat), ∀ (a2 : Int32) (a3 : Int32) (T : Mm), f_X12_eject_l107 G  n a2 a3 T = some q → Jr x ad false U T [(0, .ref (ad 133)), (2, .int a2), (3, .int a3)] 107 [] := by
  intro n
  induction n with
  | zero => intro a2 a3 T  h; exact absurd h (by intro h; cases h)
  | succ n ih => exact fun a2 a3 T  h => s_X12_eject_b107 hn9 C M hD hG (ih) a2 a3 T  h
noncomputable def f_X12_eject (G : Int32 → Mm → Option (Unit × Mm)) (T : Mm) : Option (Unit × Mm) :=
  if (gI T 1231 133) = 0 then (if (gI T 1235 133) = 0 then (some ((), T))
  else (lb ((gA T 134 187)) fun v1 =>
  if v1 = (-1) then (lb ((gA T 134 8)) fun v2 =>
  f_X12_eject_l107 G FU v2 0 T)
  else (ix v1 16 fun j3 =>
  if (gA T 148 j3) = 0 then (lb ((gA T 134 8)) fun v5 =>
  f_X12_eject_l107 G FU v5 0 T)
  else (if 3 ≤ (gI T 1229 133) then (lb ((gA T 134 8)) fun v6 =>
  f_X12_eject_l107 G FU v6 0 T)
  else (bd (f_X12_save 4 T) fun _ T7 =>
  bd (f_X12_reset (gA T7 134 0) (gA T7 134 1) T7) fun _ T8 =>
  lb (uI T8 1231 133 1) fun T9 =>
  bd (G v1 T9) fun _ T10 =>
  lb (uI T10 1231 133 0) fun T11 =>
  if (gI T11 1233 133) = 0 then (bd (f_X12_back 4 T11) fun _ T12 =>
  lb ((gA T12 134 8)) fun v13 =>
  f_X12_eject_l107 G FU v13 0 T12)
  else (some ((), T11)))))))
  else (some ((), T))
set_option maxRecDepth 100000 in
set_option maxHeartbeats 4000000 in
theorem s_X12_eject {ad : Nat → Nat} {U T : Mm} {q : Unit × Mm} {D : Nat} {G : Int32 → Mm → Option (Unit × Mm)}  (hD : 40 ≤ D) (hG : ∀ (i : Int32) (T : Mm) (q : Unit × Mm), G i T = some q → Cr D yX12_through cX12_through 8 none [.ref (ad 133), .int i] ad false U T eV q) (h : f_X12_eject G  T = some q) : Cr (D + 1) yX12_eject cX12_eject 4 none [.ref (ad 133)] ad false U T eV q := by
  refine cr_of (by decide) (Nat.le_of_ble_eq_true rfl) fun x S0 hn9 C M => ?_
  have C : CB x RX12 cX12_eject := C
  refine Jr.eq (lv' := [(0, .ref (ad 133))]) (st' := []) rfl rfl ?_
  unfold f_X12_eject at h
  refine r_aload_n C dX12_eject_0 rfl 0 rfl ?_
  refine r_geti (f := 1231) C flX12_219 dX12_eject_1 kq_133 (by decide) (by decide) rfl ?_
  refine r_if_ne (tgt := 14) C dX12_eject_4 (by decide) h (fun h => ?_) (fun h => ?_)
  · exact r_vret C M dX12_eject_14 h
  · refine r_aload_n C dX12_eject_7 rfl 0 rfl ?_
    refine r_geti (f := 1235) C flX12_182 dX12_eject_8 kq_133 (by decide) (by decide) rfl ?_
    refine r_if_ne (tgt := 15) C dX12_eject_11 (by decide) h (fun h => ?_) (fun h => ?_)
    · refine r_aload_n C dX12_eject_15 rfl 0 rfl ?_
      refine r_getp (f := 1200) (j := 134) C flX12_9 dX12_eject_16 kq_133 (by decide) rfl (fun W => pt_1200 kq_133 W) ?_
      refine r_sipush (v := 187) C dX12_eject_19 (by decide) ?_
      refine r_ialdc (n := 192) C 187 dX12_eject_22 kq_134 lq_134 (vp_lit (by decide)) (by decide) ?_
      refine r_lbI h (fun v1 h => ?_)
      refine r_istore_n (lv' := [(1, .int v1), (0, .ref (ad 133))]) C dX12_eject_23 rfl (by rw [hn9]; decide) rfl ?_
      show Jr _ _ _ _ _ _ 24 _
      refine r_iload_n C dX12_eject_24 rfl 0 rfl ?_
      refine r_iconst (v := (-1)) C dX12_eject_25 (by decide) ?_
      refine r_ic_eq (tgt := 97) C dX12_eject_26 (by decide) h (fun h => ?_) (fun h => ?_)
      · refine r_aload_n C dX12_eject_97 rfl 1 rfl ?_
        refine r_getp (f := 1200) (j := 134) C flX12_9 dX12_eject_98 kq_133 (by decide) rfl (fun W => pt_1200 kq_133 W) ?_
        refine r_bipush (v := 8) C dX12_eject_101 (by decide) ?_
        refine r_ialdc (n := 192) C 8 dX12_eject_103 kq_134 lq_134 (vp_lit (by decide)) (by decide) ?_
        refine r_lbI h (fun v2 h => ?_)
        refine r_istore_n (lv' := [(2, .int v2), (1, .int v1), (0, .ref (ad 133))]) C dX12_eject_104 rfl (by rw [hn9]; decide) rfl ?_
        show Jr _ _ _ _ _ _ 105 _
        refine r_iconst (v := 0) C dX12_eject_105 (by decide) ?_
        refine r_istore_n (lv' := [(3, .int 0), (2, .int v2), (1, .int v1), (0, .ref (ad 133))]) C dX12_eject_106 rfl (by rw [hn9]; decide) rfl ?_
        refine Jr.sub [3, 1, 0] (lv' := [(0, .ref (ad 133)), (2, .int v2), (3, .int 0)]) rfl ?_
        exact s_X12_eject_l107 hn9 C M hD hG  FU v2 0 T h
      · refine r_aload_n C dX12_eject_29 rfl 1 rfl ?_
        refine r_getp (f := 1215) (j := 148) C flX12_53 dX12_eject_30 kq_133 (by decide) rfl (fun W => pt_1215 kq_133 W) ?_
        refine r_iload_n C dX12_eject_33 rfl 0 rfl ?_
        refine r_zald (n := 16) C dX12_eject_34 kq_148 lq_148 h (fun j3 hj4 h => ?_)
        refine r_if_eq (tgt := 97) C dX12_eject_35 (by decide) h (fun h => ?_) (fun h => ?_)
        · refine r_aload_n C dX12_eject_97 rfl 1 rfl ?_
          refine r_getp (f := 1200) (j := 134) C flX12_9 dX12_eject_98 kq_133 (by decide) rfl (fun W => pt_1200 kq_133 W) ?_
          refine r_bipush (v := 8) C dX12_eject_101 (by decide) ?_
          refine r_ialdc (n := 192) C 8 dX12_eject_103 kq_134 lq_134 (vp_lit (by decide)) (by decide) ?_
          refine r_lbI h (fun v5 h => ?_)
          refine r_istore_n (lv' := [(2, .int v5), (1, .int v1), (0, .ref (ad 133))]) C dX12_eject_104 rfl (by rw [hn9]; decide) rfl ?_
          show Jr _ _ _ _ _ _ 105 _
          refine r_iconst (v := 0) C dX12_eject_105 (by decide) ?_
          refine r_istore_n (lv' := [(3, .int 0), (2, .int v5), (1, .int v1), (0, .ref (ad 133))]) C dX12_eject_106 rfl (by rw [hn9]; decide) rfl ?_
          refine Jr.sub [3, 1, 0] (lv' := [(0, .ref (ad 133)), (2, .int v5), (3, .int 0)]) rfl ?_
          exact s_X12_eject_l107 hn9 C M hD hG  FU v5 0 T h
        · refine r_aload_n C dX12_eject_38 rfl 1 rfl ?_
          refine r_geti (f := 1229) C flX12_222 dX12_eject_39 kq_133 (by decide) (by decide) rfl ?_
          refine r_iconst (v := 3) C dX12_eject_42 (by decide) ?_
          refine r_ic_ge (tgt := 97) C dX12_eject_43 (by decide) h (fun h => ?_) (fun h => ?_)
          · refine r_aload_n C dX12_eject_97 rfl 1 rfl ?_
            refine r_getp (f := 1200) (j := 134) C flX12_9 dX12_eject_98 kq_133 (by decide) rfl (fun W => pt_1200 kq_133 W) ?_
            refine r_bipush (v := 8) C dX12_eject_101 (by decide) ?_
            refine r_ialdc (n := 192) C 8 dX12_eject_103 kq_134 lq_134 (vp_lit (by decide)) (by decide) ?_
            refine r_lbI h (fun v6 h => ?_)
            refine r_istore_n (lv' := [(2, .int v6), (1, .int v1), (0, .ref (ad 133))]) C dX12_eject_104 rfl (by rw [hn9]; decide) rfl ?_
            show Jr _ _ _ _ _ _ 105 _
            refine r_iconst (v := 0) C dX12_eject_105 (by decide) ?_
            refine r_istore_n (lv' := [(3, .int 0), (2, .int v6), (1, .int v1), (0, .ref (ad 133))]) C dX12_eject_106 rfl (by rw [hn9]; decide) rfl ?_
            refine Jr.sub [3, 1, 0] (lv' := [(0, .ref (ad 133)), (2, .int v6), (3, .int 0)]) rfl ?_
            exact s_X12_eject_l107 hn9 C M hD hG  FU v6 0 T h
          · refine r_iconst (v := 4) C dX12_eject_46 (by decide) ?_
            refine r_istore_n (lv' := [(2, .int 4), (1, .int v1), (0, .ref (ad 133))]) C dX12_eject_47 rfl (by rw [hn9]; decide) rfl ?_
            refine r_aload_n C dX12_eject_48 rfl 2 rfl ?_
            refine r_iload_n C dX12_eject_49 rfl 0 rfl ?_
            refine r_callVN C M h [.int 4] [] mlX12_225 mcX12_save (fun q9 e9 => s_X12_save 4  e9) kq_133 rfl (by omega) (by decide) rfl rfl (Nat.le_of_ble_eq_true rfl) dX12_eject_50 (fun _ T7 h => ?_)
            show Jr _ _ _ _ _ _ 53 _
            refine r_aload_n C dX12_eject_53 rfl 2 rfl ?_
            refine r_aload_n C dX12_eject_54 rfl 2 rfl ?_
            refine r_getp (f := 1200) (j := 134) C flX12_9 dX12_eject_55 kq_133 (by decide) rfl (fun W => pt_1200 kq_133 W) ?_
            refine r_iconst (v := 0) C dX12_eject_58 (by decide) ?_
            refine r_ialdc (n := 192) C 0 dX12_eject_59 kq_134 lq_134 (vp_lit (by decide)) (by decide) ?_
            refine r_aload_n C dX12_eject_60 rfl 2 rfl ?_
            show Jr _ _ _ _ _ _ 61 _
            refine r_getp (f := 1200) (j := 134) C flX12_9 dX12_eject_61 kq_133 (by decide) rfl (fun W => pt_1200 kq_133 W) ?_
            refine r_iconst (v := 1) C dX12_eject_64 (by decide) ?_
            refine r_ialdc (n := 192) C 1 dX12_eject_65 kq_134 lq_134 (vp_lit (by decide)) (by decide) ?_
            refine r_callVN C M h [.int (gA T7 134 0), .int (gA T7 134 1)] [] mlX12_228 mcX12_reset (fun q9 e9 => s_X12_reset (gA T7 134 0) (gA T7 134 1)  e9) kq_133 rfl (by omega) (by decide) rfl rfl (Nat.le_of_ble_eq_true rfl) dX12_eject_66 (fun _ T8 h => ?_)
            refine r_aload_n C dX12_eject_69 rfl 2 rfl ?_
            refine r_iconst (v := 1) C dX12_eject_70 (by decide) ?_
            show Jr _ _ _ _ _ _ 71 _
            refine r_putz (f := 1231) C flX12_219 (by decide) rfl rfl (by decide) dX12_eject_71 kq_133 rfl h (fun T9 h => ?_)
            refine r_aload_n C dX12_eject_74 rfl 2 rfl ?_
            refine r_iload_n C dX12_eject_75 rfl 1 rfl ?_
            refine r_callVN C M h [.int v1] [] mlX12_232 mcX12_through (fun q9 e9 => hG v1 _ q9 e9) kq_133 rfl (by omega) (by decide) rfl rfl (Nat.le_of_ble_eq_true rfl) dX12_eject_76 (fun _ T10 h => ?_)
            refine r_aload_n C dX12_eject_79 rfl 2 rfl ?_
            refine r_iconst (v := 0) C dX12_eject_80 (by decide) ?_
            show Jr _ _ _ _ _ _ 81 _
            refine r_putz (f := 1231) C flX12_219 (by decide) rfl rfl (by decide) dX12_eject_81 kq_133 rfl h (fun T11 h => ?_)
            refine r_aload_n C dX12_eject_84 rfl 2 rfl ?_
            refine r_geti (f := 1233) C flX12_191 dX12_eject_85 kq_133 (by decide) (by decide) rfl ?_
            refine r_if_eq (tgt := 92) C dX12_eject_88 (by decide) h (fun h => ?_) (fun h => ?_)
            · refine r_aload_n C dX12_eject_92 rfl 2 rfl ?_
              refine r_iload_n C dX12_eject_93 rfl 0 rfl ?_
              refine r_callVN C M h [.int 4] [] mlX12_235 mcX12_back (fun q9 e9 => s_X12_back 4  e9) kq_133 rfl (by omega) (by decide) rfl rfl (Nat.le_of_ble_eq_true rfl) dX12_eject_94 (fun _ T12 h => ?_)
              refine r_aload_n C dX12_eject_97 rfl 2 rfl ?_
              refine r_getp (f := 1200) (j := 134) C flX12_9 dX12_eject_98 kq_133 (by decide) rfl (fun W => pt_1200 kq_133 W) ?_
              show Jr _ _ _ _ _ _ 101 _
              refine r_bipush (v := 8) C dX12_eject_101 (by decide) ?_
              refine r_ialdc (n := 192) C 8 dX12_eject_103 kq_134 lq_134 (vp_lit (by decide)) (by decide) ?_
              refine r_lbI h (fun v13 h => ?_)
              refine r_istore_n (lv' := [(2, .int v13), (1, .int v1), (0, .ref (ad 133))]) C dX12_eject_104 rfl (by rw [hn9]; decide) rfl ?_
              refine r_iconst (v := 0) C dX12_eject_105 (by decide) ?_
              refine r_istore_n (lv' := [(3, .int 0), (2, .int v13), (1, .int v1), (0, .ref (ad 133))]) C dX12_eject_106 rfl (by rw [hn9]; decide) rfl ?_
              refine Jr.sub [3, 1, 0] (lv' := [(0, .ref (ad 133)), (2, .int v13), (3, .int 0)]) rfl ?_
              exact s_X12_eject_l107 hn9 C M hD hG  FU v13 0 T12 h
            · exact r_vret C M dX12_eject_91 h
    · exact r_vret C M dX12_eject_14 h
theorem dX12_glyphGoes_0 : decode cX12_glyphGoes 0 = .ok (.aload_n 0, 1) := by decide +kernel
theorem dX12_glyphGoes_1 : decode cX12_glyphGoes 1 = .ok (.getfield 26, 3) := by decide +kernel
theorem dX12_glyphGoes_4 : decode cX12_glyphGoes 4 = .ok (.sipush 256, 3) := by decide +kernel
theorem dX12_glyphGoes_7 : decode cX12_glyphGoes 7 = .ok (.iload_n 1, 1) := by decide +kernel
theorem dX12_glyphGoes_8 : decode cX12_glyphGoes 8 = .ok (.imul, 1) := by decide +kernel
theorem dX12_glyphGoes_9 : decode cX12_glyphGoes 9 = .ok (.iload_n 2, 1) := by decide +kernel
theorem dX12_glyphGoes_10 : decode cX12_glyphGoes 10 = .ok (.iadd, 1) := by decide +kernel
theorem dX12_glyphGoes_11 : decode cX12_glyphGoes 11 = .ok (.iaload, 1) := by decide +kernel
theorem dX12_glyphGoes_12 : decode cX12_glyphGoes 12 = .ok (.istore_n 3, 1) := by decide +kernel
theorem dX12_glyphGoes_13 : decode cX12_glyphGoes 13 = .ok (.iload_n 3, 1) := by decide +kernel
theorem dX12_glyphGoes_14 : decode cX12_glyphGoes 14 = .ok (.iconst (-1), 1) := by decide +kernel
theorem dX12_glyphGoes_15 : decode cX12_glyphGoes 15 = .ok (.if_icmp .eq 33, 3) := by decide +kernel
theorem dX12_glyphGoes_18 : decode cX12_glyphGoes 18 = .ok (.aload_n 0, 1) := by decide +kernel
theorem dX12_glyphGoes_19 : decode cX12_glyphGoes 19 = .ok (.getfield 29, 3) := by decide +kernel
theorem dX12_glyphGoes_22 : decode cX12_glyphGoes 22 = .ok (.iload_n 3, 1) := by decide +kernel
theorem dX12_glyphGoes_23 : decode cX12_glyphGoes 23 = .ok (.iconst 0, 1) := by decide +kernel
theorem dX12_glyphGoes_24 : decode cX12_glyphGoes 24 = .ok (.bastore, 1) := by decide +kernel
theorem dX12_glyphGoes_25 : decode cX12_glyphGoes 25 = .ok (.aload_n 0, 1) := by decide +kernel
theorem dX12_glyphGoes_26 : decode cX12_glyphGoes 26 = .ok (.getfield 26, 3) := by decide +kernel
theorem dX12_glyphGoes_29 : decode cX12_glyphGoes 29 = .ok (.sipush 256, 3) := by decide +kernel
theorem dX12_glyphGoes_32 : decode cX12_glyphGoes 32 = .ok (.iload_n 1, 1) := by decide +kernel
theorem dX12_glyphGoes_33 : decode cX12_glyphGoes 33 = .ok (.imul, 1) := by decide +kernel
theorem dX12_glyphGoes_34 : decode cX12_glyphGoes 34 = .ok (.iload_n 2, 1) := by decide +kernel
theorem dX12_glyphGoes_35 : decode cX12_glyphGoes 35 = .ok (.iadd, 1) := by decide +kernel
theorem dX12_glyphGoes_36 : decode cX12_glyphGoes 36 = .ok (.iconst (-1), 1) := by decide +kernel
theorem dX12_glyphGoes_37 : decode cX12_glyphGoes 37 = .ok (.iastore, 1) := by decide +kernel
theorem dX12_glyphGoes_38 : decode cX12_glyphGoes 38 = .ok (.aload_n 0, 1) := by decide +kernel
theorem dX12_glyphGoes_39 : decode cX12_glyphGoes 39 = .ok (.dup, 1) := by decide +kernel
theorem dX12_glyphGoes_40 : decode cX12_glyphGoes 40 = .ok (.getfield 260, 3) := by decide +kernel
theorem dX12_glyphGoes_43 : decode cX12_glyphGoes 43 = .ok (.iconst 1, 1) := by decide +kernel
theorem dX12_glyphGoes_44 : decode cX12_glyphGoes 44 = .ok (.isub, 1) := by decide +kernel
theorem dX12_glyphGoes_45 : decode cX12_glyphGoes 45 = .ok (.putfield 260, 3) := by decide +kernel
theorem dX12_glyphGoes_48 : decode cX12_glyphGoes 48 = .ok (.return_, 1) := by decide +kernel
noncomputable def f_X12_glyphGoes (p1 : Int32) (p2 : Int32) (T : Mm) : Option (Unit × Mm) :=
  ix (((256 : Int32) * p1) + p2) 4096 fun j1 =>
  lb ((gA T 139 j1)) fun v3 =>
  if v3 = (-1) then (some ((), T))
  else (ix v3 400 fun j4 => lb (uA T 140 j4 (0)) fun T6 =>
  ix (((256 : Int32) * p1) + p2) 4096 fun j7 => lb (uA T6 139 j7 ((-1))) fun T9 =>
  lb (uI T9 1209 133 ((gI T9 1209 133) - 1)) fun T10 =>
  some ((), T10))
set_option maxRecDepth 100000 in
set_option maxHeartbeats 4000000 in
theorem s_X12_glyphGoes {ad : Nat → Nat} {U T : Mm} {q : Unit × Mm}  (p1 : Int32) (p2 : Int32) (h : f_X12_glyphGoes p1 p2 T = some q) : Cr 1 yX12_glyphGoes cX12_glyphGoes 4 none [.ref (ad 133), .int p1, .int p2] ad false U T eV q := by
  refine cr_of (by decide) (Nat.le_of_ble_eq_true rfl) fun x S0 hn9 C M => ?_
  have C : CB x RX12 cX12_glyphGoes := C
  refine Jr.eq (lv' := [(0, .ref (ad 133)), (1, .int p1), (2, .int p2)]) (st' := []) rfl rfl ?_
  unfold f_X12_glyphGoes at h
  refine r_aload_n C dX12_glyphGoes_0 rfl 0 rfl ?_
  refine r_getp (f := 1205) (j := 139) C flX12_26 dX12_glyphGoes_1 kq_133 (by decide) rfl (fun W => pt_1205 kq_133 W) ?_
  refine r_sipush (v := 256) C dX12_glyphGoes_4 (by decide) ?_
  refine r_iload_n C dX12_glyphGoes_7 rfl 1 rfl ?_
  refine r_imul C dX12_glyphGoes_8 rfl ?_
  show Jr _ _ _ _ _ _ 9 _
  refine r_iload_n C dX12_glyphGoes_9 rfl 2 rfl ?_
  refine r_iadd C dX12_glyphGoes_10 rfl ?_
  refine r_iald (n := 4096) C dX12_glyphGoes_11 kq_139 lq_139 h (fun j1 hj2 h => ?_)
  refine r_lbI h (fun v3 h => ?_)
  refine r_istore_n (lv' := [(3, .int v3), (0, .ref (ad 133)), (1, .int p1), (2, .int p2)]) C dX12_glyphGoes_12 rfl (by rw [hn9]; decide) rfl ?_
  refine r_iload_n C dX12_glyphGoes_13 rfl 0 rfl ?_
  refine r_iconst (v := (-1)) C dX12_glyphGoes_14 (by decide) ?_
  show Jr _ _ _ _ _ _ 15 _
  refine r_ic_eq (tgt := 48) C dX12_glyphGoes_15 (by decide) h (fun h => ?_) (fun h => ?_)
  · exact r_vret C M dX12_glyphGoes_48 h
  · refine r_aload_n C dX12_glyphGoes_18 rfl 1 rfl ?_
    refine r_getp (f := 1206) (j := 140) C flX12_29 dX12_glyphGoes_19 kq_133 (by decide) rfl (fun W => pt_1206 kq_133 W) ?_
    refine r_iload_n C dX12_glyphGoes_22 rfl 0 rfl ?_
    refine r_iconst (v := 0) C dX12_glyphGoes_23 (by decide) ?_
    refine r_zast (n := 400) C dX12_glyphGoes_24 kq_140 lq_140 (by decide) h (fun j4 T6 hj5 h => ?_)
    show Jr _ _ _ _ _ _ 25 _
    refine r_aload_n C dX12_glyphGoes_25 rfl 1 rfl ?_
    refine r_getp (f := 1205) (j := 139) C flX12_26 dX12_glyphGoes_26 kq_133 (by decide) rfl (fun W => pt_1205 kq_133 W) ?_
    refine r_sipush (v := 256) C dX12_glyphGoes_29 (by decide) ?_
    refine r_iload_n C dX12_glyphGoes_32 rfl 2 rfl ?_
    refine r_imul C dX12_glyphGoes_33 rfl ?_
    refine r_iload_n C dX12_glyphGoes_34 rfl 3 rfl ?_
    show Jr _ _ _ _ _ _ 35 _
    refine r_iadd C dX12_glyphGoes_35 rfl ?_
    refine r_iconst (v := (-1)) C dX12_glyphGoes_36 (by decide) ?_
    refine r_iast (n := 4096) C dX12_glyphGoes_37 kq_139 lq_139 h (fun j7 T9 hj8 h => ?_)
    refine r_aload_n C dX12_glyphGoes_38 rfl 1 rfl ?_
    refine r_dup C dX12_glyphGoes_39 rfl ?_
    refine r_geti (f := 1209) C flX12_260 dX12_glyphGoes_40 kq_133 (by decide) (by decide) rfl ?_
    show Jr _ _ _ _ _ _ 43 _
    refine r_iconst (v := 1) C dX12_glyphGoes_43 (by decide) ?_
    refine r_isub C dX12_glyphGoes_44 rfl ?_
    refine r_puti (f := 1209) C flX12_260 (by decide) rfl rfl dX12_glyphGoes_45 kq_133 rfl h (fun T10 h => ?_)
    exact r_vret C M dX12_glyphGoes_48 h
theorem dX12_fontGoes_0 : decode cX12_fontGoes 0 = .ok (.aload_n 0, 1) := by decide +kernel
theorem dX12_fontGoes_1 : decode cX12_fontGoes 1 = .ok (.getfield 16, 3) := by decide +kernel
theorem dX12_fontGoes_4 : decode cX12_fontGoes 4 = .ok (.iload_n 1, 1) := by decide +kernel
theorem dX12_fontGoes_5 : decode cX12_fontGoes 5 = .ok (.iconst 0, 1) := by decide +kernel
theorem dX12_fontGoes_6 : decode cX12_fontGoes 6 = .ok (.bastore, 1) := by decide +kernel
theorem dX12_fontGoes_7 : decode cX12_fontGoes 7 = .ok (.iconst 0, 1) := by decide +kernel
theorem dX12_fontGoes_8 : decode cX12_fontGoes 8 = .ok (.istore_n 2, 1) := by decide +kernel
theorem dX12_fontGoes_9 : decode cX12_fontGoes 9 = .ok (.iload_n 2, 1) := by decide +kernel
theorem dX12_fontGoes_10 : decode cX12_fontGoes 10 = .ok (.sipush 256, 3) := by decide +kernel
theorem dX12_fontGoes_13 : decode cX12_fontGoes 13 = .ok (.if_icmp .ge 15, 3) := by decide +kernel
theorem dX12_fontGoes_16 : decode cX12_fontGoes 16 = .ok (.aload_n 0, 1) := by decide +kernel
theorem dX12_fontGoes_17 : decode cX12_fontGoes 17 = .ok (.iload_n 1, 1) := by decide +kernel
theorem dX12_fontGoes_18 : decode cX12_fontGoes 18 = .ok (.iload_n 2, 1) := by decide +kernel
theorem dX12_fontGoes_19 : decode cX12_fontGoes 19 = .ok (.invokevirtual 257, 3) := by decide +kernel
theorem dX12_fontGoes_22 : decode cX12_fontGoes 22 = .ok (.iinc 2 1, 3) := by decide +kernel
theorem dX12_fontGoes_25 : decode cX12_fontGoes 25 = .ok (.goto (-16), 3) := by decide +kernel
theorem dX12_fontGoes_28 : decode cX12_fontGoes 28 = .ok (.return_, 1) := by decide +kernel
noncomputable def f_X12_fontGoes_b9 (k9 : Int32 → Int32 → Mm → Option (Unit × Mm)) (a1 : Int32) (a2 : Int32) (T : Mm) : Option (Unit × Mm) :=
  if 256 ≤ a2 then (some ((), T))
  else (bd (f_X12_glyphGoes a1 a2 T) fun _ T1 =>
  k9 a1 (a2 + 1) T1)
set_option maxRecDepth 100000 in
set_option maxHeartbeats 4000000 in
theorem s_X12_fontGoes_b9 {x : JX} {ad : Nat → Nat} {U : Mm} {S0 : Hp} {q : Unit × Mm}  {k9 : Int32 → Int32 → Mm → Option (Unit × Mm)} (hn9 : x_n x = 3) (C : CB x RX12 cX12_fontGoes) (M : CMr x 2 none S0 ad false U eV q) (hk9 : ∀ (a1 : Int32) (a2 : Int32) (T : Mm), k9 a1 a2 T = some q → Jr x ad false U T [(0, .ref (ad 133)), (1, .int a1), (2, .int a2)] 9 []) (a1 : Int32) (a2 : Int32) (T : Mm) (h : f_X12_fontGoes_b9 k9 a1 a2 T = some q) : Jr x ad false U T [(0, .ref (ad 133)), (1, .int a1), (2, .int a2)] 9 [] := by
  unfold f_X12_fontGoes_b9 at h
  refine r_iload_n C dX12_fontGoes_9 rfl 2 rfl ?_
  refine r_sipush (v := 256) C dX12_fontGoes_10 (by decide) ?_
  refine r_ic_ge (tgt := 28) C dX12_fontGoes_13 (by decide) h (fun h => ?_) (fun h => ?_)
  · exact r_vret C M dX12_fontGoes_28 h
  · refine r_aload_n C dX12_fontGoes_16 rfl 0 rfl ?_
    refine r_iload_n C dX12_fontGoes_17 rfl 1 rfl ?_
    refine r_iload_n C dX12_fontGoes_18 rfl 2 rfl ?_
    refine r_callVN C M h [.int a1, .int a2] [] mlX12_257 mcX12_glyphGoes (fun q9 e9 => s_X12_glyphGoes a1 a2  e9) kq_133 rfl (by decide) (by decide) rfl rfl (Nat.le_of_ble_eq_true rfl) dX12_fontGoes_19 (fun _ T1 h => ?_)
    refine r_iinc (q := 2) (v := (a2 + 1)) (lv' := [(2, .int (a2 + 1)), (0, .ref (ad 133)), (1, .int a1)]) C dX12_fontGoes_22 rfl (by rw [show Int32.ofInt (1) = 1 by decide]) (by rw [hn9]; decide) rfl ?_
    show Jr _ _ _ _ _ _ 25 _
    refine r_goto (tgt := 9) C dX12_fontGoes_25 (by decide) ?_
    refine Jr.sub [1, 2, 0] (lv' := [(0, .ref (ad 133)), (1, .int a1), (2, .int (a2 + 1))]) rfl ?_
    exact hk9 a1 (a2 + 1) T1 h
noncomputable def f_X12_fontGoes_l9 (n : Nat) : Int32 → Int32 → Mm → Option (Unit × Mm) := Nat.rec (fun _ _ _ => none) (fun _ ih => f_X12_fontGoes_b9 ih) n
theorem s_X12_fontGoes_l9 {x : JX} {ad : Nat → Nat} {U : Mm} {S0 : Hp} {q : Unit × Mm}  (hn9 : x_n x = 3) (C : CB x RX12 cX12_fontGoes) (M : CMr x 2 none S0 ad false U eV q) : ∀ (n : Nat), ∀ (a1 : Int32) (a2 : Int32) (T : Mm), f_X12_fontGoes_l9  n a1 a2 T = some q → Jr x ad false U T [(0, .ref (ad 133)), (1, .int a1), (2, .int a2)] 9 [] := by
  intro n
  induction n with
  | zero => intro a1 a2 T  h; exact absurd h (by intro h; cases h)
  | succ n ih => exact fun a1 a2 T  h => s_X12_fontGoes_b9 hn9 C M (ih) a1 a2 T  h
noncomputable def f_X12_fontGoes (p1 : Int32) (T : Mm) : Option (Unit × Mm) :=
  ix p1 17 fun j1 => lb (uA T 136 j1 (0)) fun T3 =>
  f_X12_fontGoes_l9 FU p1 0 T3
set_option maxRecDepth 100000 in
set_option maxHeartbeats 4000000 in
theorem s_X12_fontGoes {ad : Nat → Nat} {U T : Mm} {q : Unit × Mm}  (p1 : Int32) (h : f_X12_fontGoes p1 T = some q) : Cr 2 yX12_fontGoes cX12_fontGoes 3 none [.ref (ad 133), .int p1] ad false U T eV q := by
  refine cr_of (by decide) (Nat.le_of_ble_eq_true rfl) fun x S0 hn9 C M => ?_
  have C : CB x RX12 cX12_fontGoes := C
  refine Jr.eq (lv' := [(0, .ref (ad 133)), (1, .int p1)]) (st' := []) rfl rfl ?_
  unfold f_X12_fontGoes at h
  refine r_aload_n C dX12_fontGoes_0 rfl 0 rfl ?_
  refine r_getp (f := 1202) (j := 136) C flX12_16 dX12_fontGoes_1 kq_133 (by decide) rfl (fun W => pt_1202 kq_133 W) ?_
  refine r_iload_n C dX12_fontGoes_4 rfl 1 rfl ?_
  refine r_iconst (v := 0) C dX12_fontGoes_5 (by decide) ?_
  refine r_zast (n := 17) C dX12_fontGoes_6 kq_136 lq_136 (by decide) h (fun j1 T3 hj2 h => ?_)
  show Jr _ _ _ _ _ _ 7 _
  refine r_iconst (v := 0) C dX12_fontGoes_7 (by decide) ?_
  refine r_istore_n (lv' := [(2, .int 0), (0, .ref (ad 133)), (1, .int p1)]) C dX12_fontGoes_8 rfl (by rw [hn9]; decide) rfl ?_
  refine Jr.sub [1, 2, 0] (lv' := [(0, .ref (ad 133)), (1, .int p1), (2, .int 0)]) rfl ?_
  exact s_X12_fontGoes_l9 hn9 C M  FU p1 0 T3 h
theorem dX12_fontsGo_0 : decode cX12_fontsGo 0 = .ok (.iconst 0, 1) := by decide +kernel
theorem dX12_fontsGo_1 : decode cX12_fontsGo 1 = .ok (.istore_n 2, 1) := by decide +kernel
theorem dX12_fontsGo_2 : decode cX12_fontsGo 2 = .ok (.iload_n 2, 1) := by decide +kernel
theorem dX12_fontsGo_3 : decode cX12_fontsGo 3 = .ok (.bipush 16, 2) := by decide +kernel
theorem dX12_fontsGo_5 : decode cX12_fontsGo 5 = .ok (.if_icmp .ge 36, 3) := by decide +kernel
theorem dX12_fontsGo_8 : decode cX12_fontsGo 8 = .ok (.aload_n 0, 1) := by decide +kernel
theorem dX12_fontsGo_9 : decode cX12_fontsGo 9 = .ok (.getfield 16, 3) := by decide +kernel
theorem dX12_fontsGo_12 : decode cX12_fontsGo 12 = .ok (.iload_n 2, 1) := by decide +kernel
theorem dX12_fontsGo_13 : decode cX12_fontsGo 13 = .ok (.baload, 1) := by decide +kernel
theorem dX12_fontsGo_14 : decode cX12_fontsGo 14 = .ok (.ifCond .eq 21, 3) := by decide +kernel
theorem dX12_fontsGo_17 : decode cX12_fontsGo 17 = .ok (.iload_n 1, 1) := by decide +kernel
theorem dX12_fontsGo_18 : decode cX12_fontsGo 18 = .ok (.ifCond .eq 12, 3) := by decide +kernel
theorem dX12_fontsGo_21 : decode cX12_fontsGo 21 = .ok (.aload_n 0, 1) := by decide +kernel
theorem dX12_fontsGo_22 : decode cX12_fontsGo 22 = .ok (.getfield 20, 3) := by decide +kernel
theorem dX12_fontsGo_25 : decode cX12_fontsGo 25 = .ok (.iload_n 2, 1) := by decide +kernel
theorem dX12_fontsGo_26 : decode cX12_fontsGo 26 = .ok (.baload, 1) := by decide +kernel
theorem dX12_fontsGo_27 : decode cX12_fontsGo 27 = .ok (.ifCond .eq 8, 3) := by decide +kernel
theorem dX12_fontsGo_30 : decode cX12_fontsGo 30 = .ok (.aload_n 0, 1) := by decide +kernel
theorem dX12_fontsGo_31 : decode cX12_fontsGo 31 = .ok (.iload_n 2, 1) := by decide +kernel
theorem dX12_fontsGo_32 : decode cX12_fontsGo 32 = .ok (.invokevirtual 254, 3) := by decide +kernel
theorem dX12_fontsGo_35 : decode cX12_fontsGo 35 = .ok (.iinc 2 1, 3) := by decide +kernel
theorem dX12_fontsGo_38 : decode cX12_fontsGo 38 = .ok (.goto (-36), 3) := by decide +kernel
theorem dX12_fontsGo_41 : decode cX12_fontsGo 41 = .ok (.return_, 1) := by decide +kernel
noncomputable def f_X12_fontsGo_b2 (k2 : Int32 → Int32 → Mm → Option (Unit × Mm)) (a1 : Int32) (a2 : Int32) (T : Mm) : Option (Unit × Mm) :=
  if 16 ≤ a2 then (some ((), T))
  else (ix a2 17 fun j1 =>
  if (gA T 136 j1) = 0 then (k2 a1 (a2 + 1) T)
  else (if a1 = 0 then (bd (f_X12_fontGoes a2 T) fun _ T3 =>
  k2 a1 (a2 + 1) T3)
  else (ix a2 17 fun j4 =>
  if (gA T 137 j4) = 0 then (k2 a1 (a2 + 1) T)
  else (bd (f_X12_fontGoes a2 T) fun _ T6 =>
  k2 a1 (a2 + 1) T6))))
set_option maxRecDepth 100000 in
set_option maxHeartbeats 4000000 in
theorem s_X12_fontsGo_b2 {x : JX} {ad : Nat → Nat} {U : Mm} {S0 : Hp} {q : Unit × Mm}  {k2 : Int32 → Int32 → Mm → Option (Unit × Mm)} (hn9 : x_n x = 3) (C : CB x RX12 cX12_fontsGo) (M : CMr x 3 none S0 ad false U eV q) (hk2 : ∀ (a1 : Int32) (a2 : Int32) (T : Mm), k2 a1 a2 T = some q → Jr x ad false U T [(0, .ref (ad 133)), (1, .int a1), (2, .int a2)] 2 []) (a1 : Int32) (a2 : Int32) (T : Mm) (h : f_X12_fontsGo_b2 k2 a1 a2 T = some q) : Jr x ad false U T [(0, .ref (ad 133)), (1, .int a1), (2, .int a2)] 2 [] := by
  unfold f_X12_fontsGo_b2 at h
  refine r_iload_n C dX12_fontsGo_2 rfl 2 rfl ?_
  refine r_bipush (v := 16) C dX12_fontsGo_3 (by decide) ?_
  refine r_ic_ge (tgt := 41) C dX12_fontsGo_5 (by decide) h (fun h => ?_) (fun h => ?_)
  · exact r_vret C M dX12_fontsGo_41 h
  · refine r_aload_n C dX12_fontsGo_8 rfl 0 rfl ?_
    refine r_getp (f := 1202) (j := 136) C flX12_16 dX12_fontsGo_9 kq_133 (by decide) rfl (fun W => pt_1202 kq_133 W) ?_
    refine r_iload_n C dX12_fontsGo_12 rfl 2 rfl ?_
    refine r_zald (n := 17) C dX12_fontsGo_13 kq_136 lq_136 h (fun j1 hj2 h => ?_)
    refine r_if_eq (tgt := 35) C dX12_fontsGo_14 (by decide) h (fun h => ?_) (fun h => ?_)
    · refine r_iinc (q := 2) (v := (a2 + 1)) (lv' := [(2, .int (a2 + 1)), (0, .ref (ad 133)), (1, .int a1)]) C dX12_fontsGo_35 rfl (by rw [show Int32.ofInt (1) = 1 by decide]) (by rw [hn9]; decide) rfl ?_
      refine r_goto (tgt := 2) C dX12_fontsGo_38 (by decide) ?_
      refine Jr.sub [1, 2, 0] (lv' := [(0, .ref (ad 133)), (1, .int a1), (2, .int (a2 + 1))]) rfl ?_
      exact hk2 a1 (a2 + 1) T h
    · refine r_iload_n C dX12_fontsGo_17 rfl 1 rfl ?_
      refine r_if_eq (tgt := 30) C dX12_fontsGo_18 (by decide) h (fun h => ?_) (fun h => ?_)
      · refine r_aload_n C dX12_fontsGo_30 rfl 0 rfl ?_
        refine r_iload_n C dX12_fontsGo_31 rfl 2 rfl ?_
        refine r_callVN C M h [.int a2] [] mlX12_254 mcX12_fontGoes (fun q9 e9 => s_X12_fontGoes a2  e9) kq_133 rfl (by decide) (by decide) rfl rfl (Nat.le_of_ble_eq_true rfl) dX12_fontsGo_32 (fun _ T3 h => ?_)
        refine r_iinc (q := 2) (v := (a2 + 1)) (lv' := [(2, .int (a2 + 1)), (0, .ref (ad 133)), (1, .int a1)]) C dX12_fontsGo_35 rfl (by rw [show Int32.ofInt (1) = 1 by decide]) (by rw [hn9]; decide) rfl ?_
        refine r_goto (tgt := 2) C dX12_fontsGo_38 (by decide) ?_
        refine Jr.sub [1, 2, 0] (lv' := [(0, .ref (ad 133)), (1, .int a1), (2, .int (a2 + 1))]) rfl ?_
        exact hk2 a1 (a2 + 1) T3 h
      · refine r_aload_n C dX12_fontsGo_21 rfl 0 rfl ?_
        refine r_getp (f := 1203) (j := 137) C flX12_20 dX12_fontsGo_22 kq_133 (by decide) rfl (fun W => pt_1203 kq_133 W) ?_
        refine r_iload_n C dX12_fontsGo_25 rfl 2 rfl ?_
        refine r_zald (n := 17) C dX12_fontsGo_26 kq_137 lq_137 h (fun j4 hj5 h => ?_)
        refine r_if_eq (tgt := 35) C dX12_fontsGo_27 (by decide) h (fun h => ?_) (fun h => ?_)
        · refine r_iinc (q := 2) (v := (a2 + 1)) (lv' := [(2, .int (a2 + 1)), (0, .ref (ad 133)), (1, .int a1)]) C dX12_fontsGo_35 rfl (by rw [show Int32.ofInt (1) = 1 by decide]) (by rw [hn9]; decide) rfl ?_
          refine r_goto (tgt := 2) C dX12_fontsGo_38 (by decide) ?_
          refine Jr.sub [1, 2, 0] (lv' := [(0, .ref (ad 133)), (1, .int a1), (2, .int (a2 + 1))]) rfl ?_
          exact hk2 a1 (a2 + 1) T h
        · refine r_aload_n C dX12_fontsGo_30 rfl 0 rfl ?_
          refine r_iload_n C dX12_fontsGo_31 rfl 2 rfl ?_
          refine r_callVN C M h [.int a2] [] mlX12_254 mcX12_fontGoes (fun q9 e9 => s_X12_fontGoes a2  e9) kq_133 rfl (by decide) (by decide) rfl rfl (Nat.le_of_ble_eq_true rfl) dX12_fontsGo_32 (fun _ T6 h => ?_)
          refine r_iinc (q := 2) (v := (a2 + 1)) (lv' := [(2, .int (a2 + 1)), (0, .ref (ad 133)), (1, .int a1)]) C dX12_fontsGo_35 rfl (by rw [show Int32.ofInt (1) = 1 by decide]) (by rw [hn9]; decide) rfl ?_
          refine r_goto (tgt := 2) C dX12_fontsGo_38 (by decide) ?_
          refine Jr.sub [1, 2, 0] (lv' := [(0, .ref (ad 133)), (1, .int a1), (2, .int (a2 + 1))]) rfl ?_
          exact hk2 a1 (a2 + 1) T6 h
noncomputable def f_X12_fontsGo_l2 (n : Nat) : Int32 → Int32 → Mm → Option (Unit × Mm) := Nat.rec (fun _ _ _ => none) (fun _ ih => f_X12_fontsGo_b2 ih) n
theorem s_X12_fontsGo_l2 {x : JX} {ad : Nat → Nat} {U : Mm} {S0 : Hp} {q : Unit × Mm}  (hn9 : x_n x = 3) (C : CB x RX12 cX12_fontsGo) (M : CMr x 3 none S0 ad false U eV q) : ∀ (n : Nat), ∀ (a1 : Int32) (a2 : Int32) (T : Mm), f_X12_fontsGo_l2  n a1 a2 T = some q → Jr x ad false U T [(0, .ref (ad 133)), (1, .int a1), (2, .int a2)] 2 [] := by
  intro n
  induction n with
  | zero => intro a1 a2 T  h; exact absurd h (by intro h; cases h)
  | succ n ih => exact fun a1 a2 T  h => s_X12_fontsGo_b2 hn9 C M (ih) a1 a2 T  h
noncomputable def f_X12_fontsGo (p1 : Int32) (T : Mm) : Option (Unit × Mm) :=
  f_X12_fontsGo_l2 FU p1 0 T
set_option maxRecDepth 100000 in
set_option maxHeartbeats 4000000 in
theorem s_X12_fontsGo {ad : Nat → Nat} {U T : Mm} {q : Unit × Mm}  (p1 : Int32) (h : f_X12_fontsGo p1 T = some q) : Cr 3 yX12_fontsGo cX12_fontsGo 3 none [.ref (ad 133), .int p1] ad false U T eV q := by
  refine cr_of (by decide) (Nat.le_of_ble_eq_true rfl) fun x S0 hn9 C M => ?_
  have C : CB x RX12 cX12_fontsGo := C
  refine Jr.eq (lv' := [(0, .ref (ad 133)), (1, .int p1)]) (st' := []) rfl rfl ?_
  unfold f_X12_fontsGo at h
  refine r_iconst (v := 0) C dX12_fontsGo_0 (by decide) ?_
  refine r_istore_n (lv' := [(2, .int 0), (0, .ref (ad 133)), (1, .int p1)]) C dX12_fontsGo_1 rfl (by rw [hn9]; decide) rfl ?_
  refine Jr.sub [1, 2, 0] (lv' := [(0, .ref (ad 133)), (1, .int p1), (2, .int 0)]) rfl ?_
  exact s_X12_fontsGo_l2 hn9 C M  FU p1 0 T h
theorem dX12_usersGo_0 : decode cX12_usersGo 0 = .ok (.iconst 0, 1) := by decide +kernel
theorem dX12_usersGo_1 : decode cX12_usersGo 1 = .ok (.istore_n 2, 1) := by decide +kernel
theorem dX12_usersGo_2 : decode cX12_usersGo 2 = .ok (.iload_n 2, 1) := by decide +kernel
theorem dX12_usersGo_3 : decode cX12_usersGo 3 = .ok (.bipush 16, 2) := by decide +kernel
theorem dX12_usersGo_5 : decode cX12_usersGo 5 = .ok (.if_icmp .ge 42, 3) := by decide +kernel
theorem dX12_usersGo_8 : decode cX12_usersGo 8 = .ok (.aload_n 0, 1) := by decide +kernel
theorem dX12_usersGo_9 : decode cX12_usersGo 9 = .ok (.getfield 38, 3) := by decide +kernel
theorem dX12_usersGo_12 : decode cX12_usersGo 12 = .ok (.iload_n 2, 1) := by decide +kernel
theorem dX12_usersGo_13 : decode cX12_usersGo 13 = .ok (.aload_n 0, 1) := by decide +kernel
theorem dX12_usersGo_14 : decode cX12_usersGo 14 = .ok (.getfield 38, 3) := by decide +kernel
theorem dX12_usersGo_17 : decode cX12_usersGo 17 = .ok (.iload_n 2, 1) := by decide +kernel
theorem dX12_usersGo_18 : decode cX12_usersGo 18 = .ok (.baload, 1) := by decide +kernel
theorem dX12_usersGo_19 : decode cX12_usersGo 19 = .ok (.ifCond .eq 20, 3) := by decide +kernel
theorem dX12_usersGo_22 : decode cX12_usersGo 22 = .ok (.iload_n 1, 1) := by decide +kernel
theorem dX12_usersGo_23 : decode cX12_usersGo 23 = .ok (.ifCond .eq 16, 3) := by decide +kernel
theorem dX12_usersGo_26 : decode cX12_usersGo 26 = .ok (.aload_n 0, 1) := by decide +kernel
theorem dX12_usersGo_27 : decode cX12_usersGo 27 = .ok (.getfield 41, 3) := by decide +kernel
theorem dX12_usersGo_30 : decode cX12_usersGo 30 = .ok (.iload_n 2, 1) := by decide +kernel
theorem dX12_usersGo_31 : decode cX12_usersGo 31 = .ok (.baload, 1) := by decide +kernel
theorem dX12_usersGo_32 : decode cX12_usersGo 32 = .ok (.ifCond .ne 7, 3) := by decide +kernel
theorem dX12_usersGo_35 : decode cX12_usersGo 35 = .ok (.iconst 1, 1) := by decide +kernel
theorem dX12_usersGo_36 : decode cX12_usersGo 36 = .ok (.goto 4, 3) := by decide +kernel
theorem dX12_usersGo_39 : decode cX12_usersGo 39 = .ok (.iconst 0, 1) := by decide +kernel
theorem dX12_usersGo_40 : decode cX12_usersGo 40 = .ok (.bastore, 1) := by decide +kernel
theorem dX12_usersGo_41 : decode cX12_usersGo 41 = .ok (.iinc 2 1, 3) := by decide +kernel
theorem dX12_usersGo_44 : decode cX12_usersGo 44 = .ok (.goto (-42), 3) := by decide +kernel
theorem dX12_usersGo_47 : decode cX12_usersGo 47 = .ok (.return_, 1) := by decide +kernel
noncomputable def f_X12_usersGo_b2 (k2 : Int32 → Int32 → Mm → Option (Unit × Mm)) (a1 : Int32) (a2 : Int32) (T : Mm) : Option (Unit × Mm) :=
  if 16 ≤ a2 then (some ((), T))
  else (ix a2 16 fun j1 =>
  if (gA T 143 j1) = 0 then (ix a2 16 fun j3 => lb (uA T 143 j3 (0)) fun T5 =>
  k2 a1 (a2 + 1) T5)
  else (if a1 = 0 then (ix a2 16 fun j6 => lb (uA T 143 j6 (0)) fun T8 =>
  k2 a1 (a2 + 1) T8)
  else (ix a2 16 fun j9 =>
  if (gA T 144 j9) = 0 then (ix a2 16 fun j14 => lb (uA T 143 j14 (1)) fun T16 =>
  k2 a1 (a2 + 1) T16)
  else (ix a2 16 fun j11 => lb (uA T 143 j11 (0)) fun T13 =>
  k2 a1 (a2 + 1) T13))))
set_option maxRecDepth 100000 in
set_option maxHeartbeats 4000000 in
theorem s_X12_usersGo_b2 {x : JX} {ad : Nat → Nat} {U : Mm} {S0 : Hp} {q : Unit × Mm}  {k2 : Int32 → Int32 → Mm → Option (Unit × Mm)} (hn9 : x_n x = 3) (C : CB x RX12 cX12_usersGo) (M : CMr x 1 none S0 ad false U eV q) (hk2 : ∀ (a1 : Int32) (a2 : Int32) (T : Mm), k2 a1 a2 T = some q → Jr x ad false U T [(0, .ref (ad 133)), (1, .int a1), (2, .int a2)] 2 []) (a1 : Int32) (a2 : Int32) (T : Mm) (h : f_X12_usersGo_b2 k2 a1 a2 T = some q) : Jr x ad false U T [(0, .ref (ad 133)), (1, .int a1), (2, .int a2)] 2 [] := by
  unfold f_X12_usersGo_b2 at h
  refine r_iload_n C dX12_usersGo_2 rfl 2 rfl ?_
  refine r_bipush (v := 16) C dX12_usersGo_3 (by decide) ?_
  refine r_ic_ge (tgt := 47) C dX12_usersGo_5 (by decide) h (fun h => ?_) (fun h => ?_)
  · exact r_vret C M dX12_usersGo_47 h
  · refine r_aload_n C dX12_usersGo_8 rfl 0 rfl ?_
    refine r_getp (f := 1210) (j := 143) C flX12_38 dX12_usersGo_9 kq_133 (by decide) rfl (fun W => pt_1210 kq_133 W) ?_
    refine r_iload_n C dX12_usersGo_12 rfl 2 rfl ?_
    refine r_aload_n C dX12_usersGo_13 rfl 0 rfl ?_
    refine r_getp (f := 1210) (j := 143) C flX12_38 dX12_usersGo_14 kq_133 (by decide) rfl (fun W => pt_1210 kq_133 W) ?_
    show Jr _ _ _ _ _ _ 17 _
    refine r_iload_n C dX12_usersGo_17 rfl 2 rfl ?_
    refine r_zald (n := 16) C dX12_usersGo_18 kq_143 lq_143 h (fun j1 hj2 h => ?_)
    refine r_if_eq (tgt := 39) C dX12_usersGo_19 (by decide) h (fun h => ?_) (fun h => ?_)
    · refine r_iconst (v := 0) C dX12_usersGo_39 (by decide) ?_
      refine r_zast (n := 16) C dX12_usersGo_40 kq_143 lq_143 (by decide) h (fun j3 T5 hj4 h => ?_)
      refine r_iinc (q := 2) (v := (a2 + 1)) (lv' := [(2, .int (a2 + 1)), (0, .ref (ad 133)), (1, .int a1)]) C dX12_usersGo_41 rfl (by rw [show Int32.ofInt (1) = 1 by decide]) (by rw [hn9]; decide) rfl ?_
      refine r_goto (tgt := 2) C dX12_usersGo_44 (by decide) ?_
      refine Jr.sub [1, 2, 0] (lv' := [(0, .ref (ad 133)), (1, .int a1), (2, .int (a2 + 1))]) rfl ?_
      exact hk2 a1 (a2 + 1) T5 h
    · refine r_iload_n C dX12_usersGo_22 rfl 1 rfl ?_
      refine r_if_eq (tgt := 39) C dX12_usersGo_23 (by decide) h (fun h => ?_) (fun h => ?_)
      · refine r_iconst (v := 0) C dX12_usersGo_39 (by decide) ?_
        refine r_zast (n := 16) C dX12_usersGo_40 kq_143 lq_143 (by decide) h (fun j6 T8 hj7 h => ?_)
        refine r_iinc (q := 2) (v := (a2 + 1)) (lv' := [(2, .int (a2 + 1)), (0, .ref (ad 133)), (1, .int a1)]) C dX12_usersGo_41 rfl (by rw [show Int32.ofInt (1) = 1 by decide]) (by rw [hn9]; decide) rfl ?_
        refine r_goto (tgt := 2) C dX12_usersGo_44 (by decide) ?_
        refine Jr.sub [1, 2, 0] (lv' := [(0, .ref (ad 133)), (1, .int a1), (2, .int (a2 + 1))]) rfl ?_
        exact hk2 a1 (a2 + 1) T8 h
      · refine r_aload_n C dX12_usersGo_26 rfl 0 rfl ?_
        refine r_getp (f := 1211) (j := 144) C flX12_41 dX12_usersGo_27 kq_133 (by decide) rfl (fun W => pt_1211 kq_133 W) ?_
        refine r_iload_n C dX12_usersGo_30 rfl 2 rfl ?_
        refine r_zald (n := 16) C dX12_usersGo_31 kq_144 lq_144 h (fun j9 hj10 h => ?_)
        refine r_if_ne (tgt := 39) C dX12_usersGo_32 (by decide) h (fun h => ?_) (fun h => ?_)
        · refine r_iconst (v := 0) C dX12_usersGo_39 (by decide) ?_
          refine r_zast (n := 16) C dX12_usersGo_40 kq_143 lq_143 (by decide) h (fun j11 T13 hj12 h => ?_)
          refine r_iinc (q := 2) (v := (a2 + 1)) (lv' := [(2, .int (a2 + 1)), (0, .ref (ad 133)), (1, .int a1)]) C dX12_usersGo_41 rfl (by rw [show Int32.ofInt (1) = 1 by decide]) (by rw [hn9]; decide) rfl ?_
          refine r_goto (tgt := 2) C dX12_usersGo_44 (by decide) ?_
          refine Jr.sub [1, 2, 0] (lv' := [(0, .ref (ad 133)), (1, .int a1), (2, .int (a2 + 1))]) rfl ?_
          exact hk2 a1 (a2 + 1) T13 h
        · refine r_iconst (v := 1) C dX12_usersGo_35 (by decide) ?_
          refine r_goto (tgt := 40) C dX12_usersGo_36 (by decide) ?_
          refine r_zast (n := 16) C dX12_usersGo_40 kq_143 lq_143 (by decide) h (fun j14 T16 hj15 h => ?_)
          refine r_iinc (q := 2) (v := (a2 + 1)) (lv' := [(2, .int (a2 + 1)), (0, .ref (ad 133)), (1, .int a1)]) C dX12_usersGo_41 rfl (by rw [show Int32.ofInt (1) = 1 by decide]) (by rw [hn9]; decide) rfl ?_
          refine r_goto (tgt := 2) C dX12_usersGo_44 (by decide) ?_
          refine Jr.sub [1, 2, 0] (lv' := [(0, .ref (ad 133)), (1, .int a1), (2, .int (a2 + 1))]) rfl ?_
          exact hk2 a1 (a2 + 1) T16 h
noncomputable def f_X12_usersGo_l2 (n : Nat) : Int32 → Int32 → Mm → Option (Unit × Mm) := Nat.rec (fun _ _ _ => none) (fun _ ih => f_X12_usersGo_b2 ih) n
theorem s_X12_usersGo_l2 {x : JX} {ad : Nat → Nat} {U : Mm} {S0 : Hp} {q : Unit × Mm}  (hn9 : x_n x = 3) (C : CB x RX12 cX12_usersGo) (M : CMr x 1 none S0 ad false U eV q) : ∀ (n : Nat), ∀ (a1 : Int32) (a2 : Int32) (T : Mm), f_X12_usersGo_l2  n a1 a2 T = some q → Jr x ad false U T [(0, .ref (ad 133)), (1, .int a1), (2, .int a2)] 2 [] := by
  intro n
  induction n with
  | zero => intro a1 a2 T  h; exact absurd h (by intro h; cases h)
  | succ n ih => exact fun a1 a2 T  h => s_X12_usersGo_b2 hn9 C M (ih) a1 a2 T  h
noncomputable def f_X12_usersGo (p1 : Int32) (T : Mm) : Option (Unit × Mm) :=
  f_X12_usersGo_l2 FU p1 0 T
set_option maxRecDepth 100000 in
set_option maxHeartbeats 4000000 in
theorem s_X12_usersGo {ad : Nat → Nat} {U T : Mm} {q : Unit × Mm}  (p1 : Int32) (h : f_X12_usersGo p1 T = some q) : Cr 1 yX12_usersGo cX12_usersGo 3 none [.ref (ad 133), .int p1] ad false U T eV q := by
  refine cr_of (by decide) (Nat.le_of_ble_eq_true rfl) fun x S0 hn9 C M => ?_
  have C : CB x RX12 cX12_usersGo := C
  refine Jr.eq (lv' := [(0, .ref (ad 133)), (1, .int p1)]) (st' := []) rfl rfl ?_
  unfold f_X12_usersGo at h
  refine r_iconst (v := 0) C dX12_usersGo_0 (by decide) ?_
  refine r_istore_n (lv' := [(2, .int 0), (0, .ref (ad 133)), (1, .int p1)]) C dX12_usersGo_1 rfl (by rw [hn9]; decide) rfl ?_
  refine Jr.sub [1, 2, 0] (lv' := [(0, .ref (ad 133)), (1, .int p1), (2, .int 0)]) rfl ?_
  exact s_X12_usersGo_l2 hn9 C M  FU p1 0 T h
theorem dX12_macrosGo_0 : decode cX12_macrosGo 0 = .ok (.iconst 0, 1) := by decide +kernel
theorem dX12_macrosGo_1 : decode cX12_macrosGo 1 = .ok (.istore_n 2, 1) := by decide +kernel
theorem dX12_macrosGo_2 : decode cX12_macrosGo 2 = .ok (.iload_n 2, 1) := by decide +kernel
theorem dX12_macrosGo_3 : decode cX12_macrosGo 3 = .ok (.bipush 16, 2) := by decide +kernel
theorem dX12_macrosGo_5 : decode cX12_macrosGo 5 = .ok (.if_icmp .ge 42, 3) := by decide +kernel
theorem dX12_macrosGo_8 : decode cX12_macrosGo 8 = .ok (.aload_n 0, 1) := by decide +kernel
theorem dX12_macrosGo_9 : decode cX12_macrosGo 9 = .ok (.getfield 53, 3) := by decide +kernel
theorem dX12_macrosGo_12 : decode cX12_macrosGo 12 = .ok (.iload_n 2, 1) := by decide +kernel
theorem dX12_macrosGo_13 : decode cX12_macrosGo 13 = .ok (.aload_n 0, 1) := by decide +kernel
theorem dX12_macrosGo_14 : decode cX12_macrosGo 14 = .ok (.getfield 53, 3) := by decide +kernel
theorem dX12_macrosGo_17 : decode cX12_macrosGo 17 = .ok (.iload_n 2, 1) := by decide +kernel
theorem dX12_macrosGo_18 : decode cX12_macrosGo 18 = .ok (.baload, 1) := by decide +kernel
theorem dX12_macrosGo_19 : decode cX12_macrosGo 19 = .ok (.ifCond .eq 20, 3) := by decide +kernel
theorem dX12_macrosGo_22 : decode cX12_macrosGo 22 = .ok (.iload_n 1, 1) := by decide +kernel
theorem dX12_macrosGo_23 : decode cX12_macrosGo 23 = .ok (.ifCond .eq 16, 3) := by decide +kernel
theorem dX12_macrosGo_26 : decode cX12_macrosGo 26 = .ok (.aload_n 0, 1) := by decide +kernel
theorem dX12_macrosGo_27 : decode cX12_macrosGo 27 = .ok (.getfield 56, 3) := by decide +kernel
theorem dX12_macrosGo_30 : decode cX12_macrosGo 30 = .ok (.iload_n 2, 1) := by decide +kernel
theorem dX12_macrosGo_31 : decode cX12_macrosGo 31 = .ok (.baload, 1) := by decide +kernel
theorem dX12_macrosGo_32 : decode cX12_macrosGo 32 = .ok (.ifCond .ne 7, 3) := by decide +kernel
theorem dX12_macrosGo_35 : decode cX12_macrosGo 35 = .ok (.iconst 1, 1) := by decide +kernel
theorem dX12_macrosGo_36 : decode cX12_macrosGo 36 = .ok (.goto 4, 3) := by decide +kernel
theorem dX12_macrosGo_39 : decode cX12_macrosGo 39 = .ok (.iconst 0, 1) := by decide +kernel
theorem dX12_macrosGo_40 : decode cX12_macrosGo 40 = .ok (.bastore, 1) := by decide +kernel
theorem dX12_macrosGo_41 : decode cX12_macrosGo 41 = .ok (.iinc 2 1, 3) := by decide +kernel
theorem dX12_macrosGo_44 : decode cX12_macrosGo 44 = .ok (.goto (-42), 3) := by decide +kernel
theorem dX12_macrosGo_47 : decode cX12_macrosGo 47 = .ok (.return_, 1) := by decide +kernel
noncomputable def f_X12_macrosGo_b2 (k2 : Int32 → Int32 → Mm → Option (Unit × Mm)) (a1 : Int32) (a2 : Int32) (T : Mm) : Option (Unit × Mm) :=
  if 16 ≤ a2 then (some ((), T))
  else (ix a2 16 fun j1 =>
  if (gA T 148 j1) = 0 then (ix a2 16 fun j3 => lb (uA T 148 j3 (0)) fun T5 =>
  k2 a1 (a2 + 1) T5)
  else (if a1 = 0 then (ix a2 16 fun j6 => lb (uA T 148 j6 (0)) fun T8 =>
  k2 a1 (a2 + 1) T8)
  else (ix a2 16 fun j9 =>
  if (gA T 149 j9) = 0 then (ix a2 16 fun j14 => lb (uA T 148 j14 (1)) fun T16 =>
  k2 a1 (a2 + 1) T16)
  else (ix a2 16 fun j11 => lb (uA T 148 j11 (0)) fun T13 =>
  k2 a1 (a2 + 1) T13))))
set_option maxRecDepth 100000 in
set_option maxHeartbeats 4000000 in
theorem s_X12_macrosGo_b2 {x : JX} {ad : Nat → Nat} {U : Mm} {S0 : Hp} {q : Unit × Mm}  {k2 : Int32 → Int32 → Mm → Option (Unit × Mm)} (hn9 : x_n x = 3) (C : CB x RX12 cX12_macrosGo) (M : CMr x 1 none S0 ad false U eV q) (hk2 : ∀ (a1 : Int32) (a2 : Int32) (T : Mm), k2 a1 a2 T = some q → Jr x ad false U T [(0, .ref (ad 133)), (1, .int a1), (2, .int a2)] 2 []) (a1 : Int32) (a2 : Int32) (T : Mm) (h : f_X12_macrosGo_b2 k2 a1 a2 T = some q) : Jr x ad false U T [(0, .ref (ad 133)), (1, .int a1), (2, .int a2)] 2 [] := by
  unfold f_X12_macrosGo_b2 at h
  refine r_iload_n C dX12_macrosGo_2 rfl 2 rfl ?_
  refine r_bipush (v := 16) C dX12_macrosGo_3 (by decide) ?_
  refine r_ic_ge (tgt := 47) C dX12_macrosGo_5 (by decide) h (fun h => ?_) (fun h => ?_)
  · exact r_vret C M dX12_macrosGo_47 h
  · refine r_aload_n C dX12_macrosGo_8 rfl 0 rfl ?_
    refine r_getp (f := 1215) (j := 148) C flX12_53 dX12_macrosGo_9 kq_133 (by decide) rfl (fun W => pt_1215 kq_133 W) ?_
    refine r_iload_n C dX12_macrosGo_12 rfl 2 rfl ?_
    refine r_aload_n C dX12_macrosGo_13 rfl 0 rfl ?_
    refine r_getp (f := 1215) (j := 148) C flX12_53 dX12_macrosGo_14 kq_133 (by decide) rfl (fun W => pt_1215 kq_133 W) ?_
    show Jr _ _ _ _ _ _ 17 _
    refine r_iload_n C dX12_macrosGo_17 rfl 2 rfl ?_
    refine r_zald (n := 16) C dX12_macrosGo_18 kq_148 lq_148 h (fun j1 hj2 h => ?_)
    refine r_if_eq (tgt := 39) C dX12_macrosGo_19 (by decide) h (fun h => ?_) (fun h => ?_)
    · refine r_iconst (v := 0) C dX12_macrosGo_39 (by decide) ?_
      refine r_zast (n := 16) C dX12_macrosGo_40 kq_148 lq_148 (by decide) h (fun j3 T5 hj4 h => ?_)
      refine r_iinc (q := 2) (v := (a2 + 1)) (lv' := [(2, .int (a2 + 1)), (0, .ref (ad 133)), (1, .int a1)]) C dX12_macrosGo_41 rfl (by rw [show Int32.ofInt (1) = 1 by decide]) (by rw [hn9]; decide) rfl ?_
      refine r_goto (tgt := 2) C dX12_macrosGo_44 (by decide) ?_
      refine Jr.sub [1, 2, 0] (lv' := [(0, .ref (ad 133)), (1, .int a1), (2, .int (a2 + 1))]) rfl ?_
      exact hk2 a1 (a2 + 1) T5 h
    · refine r_iload_n C dX12_macrosGo_22 rfl 1 rfl ?_
      refine r_if_eq (tgt := 39) C dX12_macrosGo_23 (by decide) h (fun h => ?_) (fun h => ?_)
      · refine r_iconst (v := 0) C dX12_macrosGo_39 (by decide) ?_
        refine r_zast (n := 16) C dX12_macrosGo_40 kq_148 lq_148 (by decide) h (fun j6 T8 hj7 h => ?_)
        refine r_iinc (q := 2) (v := (a2 + 1)) (lv' := [(2, .int (a2 + 1)), (0, .ref (ad 133)), (1, .int a1)]) C dX12_macrosGo_41 rfl (by rw [show Int32.ofInt (1) = 1 by decide]) (by rw [hn9]; decide) rfl ?_
        refine r_goto (tgt := 2) C dX12_macrosGo_44 (by decide) ?_
        refine Jr.sub [1, 2, 0] (lv' := [(0, .ref (ad 133)), (1, .int a1), (2, .int (a2 + 1))]) rfl ?_
        exact hk2 a1 (a2 + 1) T8 h
      · refine r_aload_n C dX12_macrosGo_26 rfl 0 rfl ?_
        refine r_getp (f := 1216) (j := 149) C flX12_56 dX12_macrosGo_27 kq_133 (by decide) rfl (fun W => pt_1216 kq_133 W) ?_
        refine r_iload_n C dX12_macrosGo_30 rfl 2 rfl ?_
        refine r_zald (n := 16) C dX12_macrosGo_31 kq_149 lq_149 h (fun j9 hj10 h => ?_)
        refine r_if_ne (tgt := 39) C dX12_macrosGo_32 (by decide) h (fun h => ?_) (fun h => ?_)
        · refine r_iconst (v := 0) C dX12_macrosGo_39 (by decide) ?_
          refine r_zast (n := 16) C dX12_macrosGo_40 kq_148 lq_148 (by decide) h (fun j11 T13 hj12 h => ?_)
          refine r_iinc (q := 2) (v := (a2 + 1)) (lv' := [(2, .int (a2 + 1)), (0, .ref (ad 133)), (1, .int a1)]) C dX12_macrosGo_41 rfl (by rw [show Int32.ofInt (1) = 1 by decide]) (by rw [hn9]; decide) rfl ?_
          refine r_goto (tgt := 2) C dX12_macrosGo_44 (by decide) ?_
          refine Jr.sub [1, 2, 0] (lv' := [(0, .ref (ad 133)), (1, .int a1), (2, .int (a2 + 1))]) rfl ?_
          exact hk2 a1 (a2 + 1) T13 h
        · refine r_iconst (v := 1) C dX12_macrosGo_35 (by decide) ?_
          refine r_goto (tgt := 40) C dX12_macrosGo_36 (by decide) ?_
          refine r_zast (n := 16) C dX12_macrosGo_40 kq_148 lq_148 (by decide) h (fun j14 T16 hj15 h => ?_)
          refine r_iinc (q := 2) (v := (a2 + 1)) (lv' := [(2, .int (a2 + 1)), (0, .ref (ad 133)), (1, .int a1)]) C dX12_macrosGo_41 rfl (by rw [show Int32.ofInt (1) = 1 by decide]) (by rw [hn9]; decide) rfl ?_
          refine r_goto (tgt := 2) C dX12_macrosGo_44 (by decide) ?_
          refine Jr.sub [1, 2, 0] (lv' := [(0, .ref (ad 133)), (1, .int a1), (2, .int (a2 + 1))]) rfl ?_
          exact hk2 a1 (a2 + 1) T16 h
noncomputable def f_X12_macrosGo_l2 (n : Nat) : Int32 → Int32 → Mm → Option (Unit × Mm) := Nat.rec (fun _ _ _ => none) (fun _ ih => f_X12_macrosGo_b2 ih) n
theorem s_X12_macrosGo_l2 {x : JX} {ad : Nat → Nat} {U : Mm} {S0 : Hp} {q : Unit × Mm}  (hn9 : x_n x = 3) (C : CB x RX12 cX12_macrosGo) (M : CMr x 1 none S0 ad false U eV q) : ∀ (n : Nat), ∀ (a1 : Int32) (a2 : Int32) (T : Mm), f_X12_macrosGo_l2  n a1 a2 T = some q → Jr x ad false U T [(0, .ref (ad 133)), (1, .int a1), (2, .int a2)] 2 [] := by
  intro n
  induction n with
  | zero => intro a1 a2 T  h; exact absurd h (by intro h; cases h)
  | succ n ih => exact fun a1 a2 T  h => s_X12_macrosGo_b2 hn9 C M (ih) a1 a2 T  h
noncomputable def f_X12_macrosGo (p1 : Int32) (T : Mm) : Option (Unit × Mm) :=
  f_X12_macrosGo_l2 FU p1 0 T
set_option maxRecDepth 100000 in
set_option maxHeartbeats 4000000 in
theorem s_X12_macrosGo {ad : Nat → Nat} {U T : Mm} {q : Unit × Mm}  (p1 : Int32) (h : f_X12_macrosGo p1 T = some q) : Cr 1 yX12_macrosGo cX12_macrosGo 3 none [.ref (ad 133), .int p1] ad false U T eV q := by
  refine cr_of (by decide) (Nat.le_of_ble_eq_true rfl) fun x S0 hn9 C M => ?_
  have C : CB x RX12 cX12_macrosGo := C
  refine Jr.eq (lv' := [(0, .ref (ad 133)), (1, .int p1)]) (st' := []) rfl rfl ?_
  unfold f_X12_macrosGo at h
  refine r_iconst (v := 0) C dX12_macrosGo_0 (by decide) ?_
  refine r_istore_n (lv' := [(2, .int 0), (0, .ref (ad 133)), (1, .int p1)]) C dX12_macrosGo_1 rfl (by rw [hn9]; decide) rfl ?_
  refine Jr.sub [1, 2, 0] (lv' := [(0, .ref (ad 133)), (1, .int p1), (2, .int 0)]) rfl ?_
  exact s_X12_macrosGo_l2 hn9 C M  FU p1 0 T h
theorem dX12_temporaryGo_0 : decode cX12_temporaryGo 0 = .ok (.aload_n 0, 1) := by decide +kernel
theorem dX12_temporaryGo_1 : decode cX12_temporaryGo 1 = .ok (.iconst 1, 1) := by decide +kernel
theorem dX12_temporaryGo_2 : decode cX12_temporaryGo 2 = .ok (.invokevirtual 244, 3) := by decide +kernel
theorem dX12_temporaryGo_5 : decode cX12_temporaryGo 5 = .ok (.aload_n 0, 1) := by decide +kernel
theorem dX12_temporaryGo_6 : decode cX12_temporaryGo 6 = .ok (.iconst 1, 1) := by decide +kernel
theorem dX12_temporaryGo_7 : decode cX12_temporaryGo 7 = .ok (.invokevirtual 248, 3) := by decide +kernel
theorem dX12_temporaryGo_10 : decode cX12_temporaryGo 10 = .ok (.aload_n 0, 1) := by decide +kernel
theorem dX12_temporaryGo_11 : decode cX12_temporaryGo 11 = .ok (.iconst 1, 1) := by decide +kernel
theorem dX12_temporaryGo_12 : decode cX12_temporaryGo 12 = .ok (.invokevirtual 251, 3) := by decide +kernel
theorem dX12_temporaryGo_15 : decode cX12_temporaryGo 15 = .ok (.return_, 1) := by decide +kernel
noncomputable def f_X12_temporaryGo (T : Mm) : Option (Unit × Mm) :=
  bd (f_X12_fontsGo 1 T) fun _ T1 =>
  bd (f_X12_usersGo 1 T1) fun _ T2 =>
  bd (f_X12_macrosGo 1 T2) fun _ T3 =>
  some ((), T3)
set_option maxRecDepth 100000 in
set_option maxHeartbeats 4000000 in
theorem s_X12_temporaryGo {ad : Nat → Nat} {U T : Mm} {q : Unit × Mm}  (h : f_X12_temporaryGo  T = some q) : Cr 4 yX12_temporaryGo cX12_temporaryGo 1 none [.ref (ad 133)] ad false U T eV q := by
  refine cr_of (by decide) (Nat.le_of_ble_eq_true rfl) fun x S0 hn9 C M => ?_
  have C : CB x RX12 cX12_temporaryGo := C
  refine Jr.eq (lv' := [(0, .ref (ad 133))]) (st' := []) rfl rfl ?_
  unfold f_X12_temporaryGo at h
  refine r_aload_n C dX12_temporaryGo_0 rfl 0 rfl ?_
  refine r_iconst (v := 1) C dX12_temporaryGo_1 (by decide) ?_
  refine r_callVN C M h [.int 1] [] mlX12_244 mcX12_fontsGo (fun q9 e9 => s_X12_fontsGo 1  e9) kq_133 rfl (by decide) (by decide) rfl rfl (Nat.le_of_ble_eq_true rfl) dX12_temporaryGo_2 (fun _ T1 h => ?_)
  refine r_aload_n C dX12_temporaryGo_5 rfl 0 rfl ?_
  refine r_iconst (v := 1) C dX12_temporaryGo_6 (by decide) ?_
  show Jr _ _ _ _ _ _ 7 _
  refine r_callVN C M h [.int 1] [] mlX12_248 mcX12_usersGo (fun q9 e9 => s_X12_usersGo 1  e9) kq_133 rfl (by decide) (by decide) rfl rfl (Nat.le_of_ble_eq_true rfl) dX12_temporaryGo_7 (fun _ T2 h => ?_)
  refine r_aload_n C dX12_temporaryGo_10 rfl 0 rfl ?_
  refine r_iconst (v := 1) C dX12_temporaryGo_11 (by decide) ?_
  refine r_callVN C M h [.int 1] [] mlX12_251 mcX12_macrosGo (fun q9 e9 => s_X12_macrosGo 1  e9) kq_133 rfl (by decide) (by decide) rfl rfl (Nat.le_of_ble_eq_true rfl) dX12_temporaryGo_12 (fun _ T3 h => ?_)
  exact r_vret C M dX12_temporaryGo_15 h
theorem dX12_line_0 : decode cX12_line 0 = .ok (.aload_n 0, 1) := by decide +kernel
theorem dX12_line_1 : decode cX12_line 1 = .ok (.getfield 9, 3) := by decide +kernel
theorem dX12_line_4 : decode cX12_line 4 = .ok (.sipush 190, 3) := by decide +kernel
theorem dX12_line_7 : decode cX12_line 7 = .ok (.iaload, 1) := by decide +kernel
theorem dX12_line_8 : decode cX12_line 8 = .ok (.i2l, 1) := by decide +kernel
theorem dX12_line_9 : decode cX12_line 9 = .ok (.iload_n 1, 1) := by decide +kernel
theorem dX12_line_10 : decode cX12_line 10 = .ok (.i2l, 1) := by decide +kernel
theorem dX12_line_11 : decode cX12_line 11 = .ok (.ladd, 1) := by decide +kernel
theorem dX12_line_12 : decode cX12_line 12 = .ok (.lstore_n 2, 1) := by decide +kernel
theorem dX12_line_13 : decode cX12_line 13 = .ok (.lload_n 2, 1) := by decide +kernel
theorem dX12_line_14 : decode cX12_line 14 = .ok (.aload_n 0, 1) := by decide +kernel
theorem dX12_line_15 : decode cX12_line 15 = .ok (.getfield 9, 3) := by decide +kernel
theorem dX12_line_18 : decode cX12_line 18 = .ok (.bipush 9, 2) := by decide +kernel
theorem dX12_line_20 : decode cX12_line 20 = .ok (.iaload, 1) := by decide +kernel
theorem dX12_line_21 : decode cX12_line 21 = .ok (.iconst 1, 1) := by decide +kernel
theorem dX12_line_22 : decode cX12_line 22 = .ok (.if_icmp .ne 12, 3) := by decide +kernel
theorem dX12_line_25 : decode cX12_line 25 = .ok (.aload_n 0, 1) := by decide +kernel
theorem dX12_line_26 : decode cX12_line 26 = .ok (.getfield 9, 3) := by decide +kernel
theorem dX12_line_29 : decode cX12_line 29 = .ok (.iconst 5, 1) := by decide +kernel
theorem dX12_line_30 : decode cX12_line 30 = .ok (.iaload, 1) := by decide +kernel
theorem dX12_line_31 : decode cX12_line 31 = .ok (.goto 10, 3) := by decide +kernel
theorem dX12_line_34 : decode cX12_line 34 = .ok (.bipush 96, 2) := by decide +kernel
theorem dX12_line_36 : decode cX12_line 36 = .ok (.aload_n 0, 1) := by decide +kernel
theorem dX12_line_37 : decode cX12_line 37 = .ok (.invokevirtual 176, 3) := by decide +kernel
theorem dX12_line_40 : decode cX12_line 40 = .ok (.imul, 1) := by decide +kernel
theorem dX12_line_41 : decode cX12_line 41 = .ok (.i2l, 1) := by decide +kernel
theorem dX12_line_42 : decode cX12_line 42 = .ok (.lcmp, 1) := by decide +kernel
theorem dX12_line_43 : decode cX12_line 43 = .ok (.ifCond .le 14, 3) := by decide +kernel
theorem dX12_line_46 : decode cX12_line 46 = .ok (.aload_n 0, 1) := by decide +kernel
theorem dX12_line_47 : decode cX12_line 47 = .ok (.invokevirtual 307, 3) := by decide +kernel
theorem dX12_line_50 : decode cX12_line 50 = .ok (.aload_n 0, 1) := by decide +kernel
theorem dX12_line_51 : decode cX12_line 51 = .ok (.invokevirtual 213, 3) := by decide +kernel
theorem dX12_line_54 : decode cX12_line 54 = .ok (.goto 8, 3) := by decide +kernel
theorem dX12_line_57 : decode cX12_line 57 = .ok (.aload_n 0, 1) := by decide +kernel
theorem dX12_line_58 : decode cX12_line 58 = .ok (.lload_n 2, 1) := by decide +kernel
theorem dX12_line_59 : decode cX12_line 59 = .ok (.invokevirtual 206, 3) := by decide +kernel
theorem dX12_line_62 : decode cX12_line 62 = .ok (.return_, 1) := by decide +kernel
noncomputable def f_X12_line_41 (G : Int32 → Mm → Option (Unit × Mm)) (a2 : Int64) (b0 : Int32) (b1 : Int64) (T : Mm) : Option (Unit × Mm) :=
  if (lg_cmp b1 ((b0).toInt64)) ≤ 0 then (bd (f_X12_setY a2 T) fun _ T1 =>
  some ((), T1))
  else (bd (f_X12_eject G T) fun _ T2 =>
  bd (f_X12_homeY T2) fun _ T3 =>
  some ((), T3))
set_option maxRecDepth 100000 in
set_option maxHeartbeats 4000000 in
theorem s_X12_line_41 {x : JX} {ad : Nat → Nat} {U : Mm} {S0 : Hp} {q : Unit × Mm} {D : Nat} {G : Int32 → Mm → Option (Unit × Mm)}  (hn9 : x_n x = 4) (C : CB x RX12 cX12_line) (M : CMr x (D + 2) none S0 ad false U eV q) (hD : 40 ≤ D) (hG : ∀ (i : Int32) (T : Mm) (q : Unit × Mm), G i T = some q → Cr D yX12_through cX12_through 8 none [.ref (ad 133), .int i] ad false U T eV q) (a2 : Int64) (b0 : Int32) (b1 : Int64) (T : Mm) (h : f_X12_line_41 G  a2 b0 b1 T = some q) : Jr x ad false U T [(0, .ref (ad 133)), (2, .long a2)] 41 [.int b0, .long b1] := by
  unfold f_X12_line_41 at h
  refine r_i2l C dX12_line_41 rfl ?_
  refine r_lcmp C dX12_line_42 ?_
  refine r_if_le (tgt := 57) C dX12_line_43 (by decide) h (fun h => ?_) (fun h => ?_)
  · refine r_aload_n C dX12_line_57 rfl 0 rfl ?_
    refine r_lload_n C dX12_line_58 rfl 1 rfl ?_
    refine r_callVN C M h [.long a2] [] mlX12_206 mcX12_setY (fun q9 e9 => s_X12_setY a2  e9) kq_133 rfl (by omega) (by decide) rfl rfl (Nat.le_of_ble_eq_true rfl) dX12_line_59 (fun _ T1 h => ?_)
    exact r_vret C M dX12_line_62 h
  · refine r_aload_n C dX12_line_46 rfl 0 rfl ?_
    refine r_callVN C M h [] [] mlX12_307 mcX12_eject (fun q9 e9 => s_X12_eject hD (fun i9 T9 q9 e9 => hG i9 T9 q9 e9)   e9) kq_133 rfl (by omega) (by decide) rfl rfl (Nat.le_of_ble_eq_true rfl) dX12_line_47 (fun _ T2 h => ?_)
    refine r_aload_n C dX12_line_50 rfl 0 rfl ?_
    refine r_callVN C M h [] [] mlX12_213 mcX12_homeY (fun q9 e9 => s_X12_homeY   e9) kq_133 rfl (by omega) (by decide) rfl rfl (Nat.le_of_ble_eq_true rfl) dX12_line_51 (fun _ T3 h => ?_)
    refine r_goto (tgt := 62) C dX12_line_54 (by decide) ?_
    show Jr _ _ _ _ _ _ 62 _
    exact r_vret C M dX12_line_62 h
noncomputable def f_X12_line (G : Int32 → Mm → Option (Unit × Mm)) (p1 : Int32) (T : Mm) : Option (Unit × Mm) :=
  lb (((((gA T 134 190)).toInt64) + ((p1).toInt64))) fun v1 =>
  if (gA T 134 9) = 1 then (f_X12_line_41 G v1 (gA T 134 5) v1 T)
  else (bd (f_X12_high T) fun v2 T3 =>
  f_X12_line_41 G v1 ((96 : Int32) * v2) v1 T3)
set_option maxRecDepth 100000 in
set_option maxHeartbeats 4000000 in
theorem s_X12_line {ad : Nat → Nat} {U T : Mm} {q : Unit × Mm} {D : Nat} {G : Int32 → Mm → Option (Unit × Mm)}  (hD : 40 ≤ D) (hG : ∀ (i : Int32) (T : Mm) (q : Unit × Mm), G i T = some q → Cr D yX12_through cX12_through 8 none [.ref (ad 133), .int i] ad false U T eV q) (p1 : Int32) (h : f_X12_line G p1 T = some q) : Cr (D + 2) yX12_line cX12_line 4 none [.ref (ad 133), .int p1] ad false U T eV q := by
  refine cr_of (by decide) (Nat.le_of_ble_eq_true rfl) fun x S0 hn9 C M => ?_
  have C : CB x RX12 cX12_line := C
  refine Jr.eq (lv' := [(0, .ref (ad 133)), (1, .int p1)]) (st' := []) rfl rfl ?_
  unfold f_X12_line at h
  refine r_aload_n C dX12_line_0 rfl 0 rfl ?_
  refine r_getp (f := 1200) (j := 134) C flX12_9 dX12_line_1 kq_133 (by decide) rfl (fun W => pt_1200 kq_133 W) ?_
  refine r_sipush (v := 190) C dX12_line_4 (by decide) ?_
  refine r_ialdc (n := 192) C 190 dX12_line_7 kq_134 lq_134 (vp_lit (by decide)) (by decide) ?_
  refine r_i2l C dX12_line_8 rfl ?_
  show Jr _ _ _ _ _ _ 9 _
  refine r_iload_n C dX12_line_9 rfl 1 rfl ?_
  refine r_i2l C dX12_line_10 rfl ?_
  refine r_ladd C dX12_line_11 rfl ?_
  refine r_lbJ h (fun v1 h => ?_)
  refine r_lstore_n (lv' := [(2, .long v1), (0, .ref (ad 133)), (1, .int p1)]) C dX12_line_12 rfl (by rw [hn9]; decide) rfl ?_
  refine r_lload_n C dX12_line_13 rfl 0 rfl ?_
  refine r_aload_n C dX12_line_14 rfl 1 rfl ?_
  show Jr _ _ _ _ _ _ 15 _
  refine r_getp (f := 1200) (j := 134) C flX12_9 dX12_line_15 kq_133 (by decide) rfl (fun W => pt_1200 kq_133 W) ?_
  refine r_bipush (v := 9) C dX12_line_18 (by decide) ?_
  refine r_ialdc (n := 192) C 9 dX12_line_20 kq_134 lq_134 (vp_lit (by decide)) (by decide) ?_
  refine r_iconst (v := 1) C dX12_line_21 (by decide) ?_
  refine r_ic_ne (tgt := 34) C dX12_line_22 (by decide) h (fun h => ?_) (fun h => ?_)
  · refine r_bipush (v := 96) C dX12_line_34 (by decide) ?_
    refine r_aload_n C dX12_line_36 rfl 1 rfl ?_
    refine r_callVI C M h [] [.int 96, .long v1] mlX12_176 mcX12_high (fun q9 e9 => s_X12_high   e9) kq_133 rfl (by omega) (by decide) rfl rfl (Nat.le_of_ble_eq_true rfl) dX12_line_37 (fun v2 T3 h => ?_)
    refine r_imul C dX12_line_40 rfl ?_
    refine Jr.sub [1, 0] (lv' := [(0, .ref (ad 133)), (2, .long v1)]) rfl ?_
    exact s_X12_line_41 hn9 C M hD hG  v1 ((96 : Int32) * v2) v1 T3 h
  · refine r_aload_n C dX12_line_25 rfl 1 rfl ?_
    refine r_getp (f := 1200) (j := 134) C flX12_9 dX12_line_26 kq_133 (by decide) rfl (fun W => pt_1200 kq_133 W) ?_
    refine r_iconst (v := 5) C dX12_line_29 (by decide) ?_
    refine r_ialdc (n := 192) C 5 dX12_line_30 kq_134 lq_134 (vp_lit (by decide)) (by decide) ?_
    refine r_goto (tgt := 41) C dX12_line_31 (by decide) ?_
    refine Jr.sub [1, 0] (lv' := [(0, .ref (ad 133)), (2, .long v1)]) rfl ?_
    exact s_X12_line_41 hn9 C M hD hG  v1 (gA T 134 5) v1 T h
