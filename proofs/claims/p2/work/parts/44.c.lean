noncomputable def f_X2_firstWishes (p0 : Nat) (T : Mm) : Option (Unit × Mm) :=
  bd (f_J7_fill_53178 p0 0 T) fun _ T1 =>
  if (Int32.ofNat (LN p0)) < 8 then (some ((), T1))
  else (ix 2 (LN p0) fun j2 => lb (uA T1 p0 j2 (720)) fun T4 =>
  ix 3 (LN p0) fun j5 => lb (uA T4 p0 j5 (8)) fun T7 =>
  ix 7 (LN p0) fun j8 => lb (uA T7 p0 j8 ((-1))) fun T10 =>
  some ((), T10))
set_option maxRecDepth 100000 in
set_option maxHeartbeats 4000000 in
theorem s_X2_firstWishes {ad : Nat → Nat} {U T : Mm} {q : Unit × Mm}  (p0 : Nat) (hk0 : kS true p0 = 14) (h : f_X2_firstWishes p0 T = some q) : Cr 2 yX2_firstWishes cX2_firstWishes 1 none [.ref (ad p0)] ad true U T eV q := by
  refine cr_of (by decide) (Nat.le_of_ble_eq_true rfl) fun x S0 hn9 C M => ?_
  have C : CB x RX2 cX2_firstWishes := C
  refine Jr.eq (lv' := [(0, .ref (ad p0))]) (st' := []) rfl rfl ?_
  unfold f_X2_firstWishes at h
  refine r_aload_n C dX2_firstWishes_0 rfl 0 rfl ?_
  refine r_iconst (v := 0) C dX2_firstWishes_1 (by decide) ?_
  refine r_callSN C M h [.ref (ad p0), .int 0] [] mlX2_52 mcJ7_fill_53178 (fun q9 e9 => s_J7_fill_53178 p0 0 hk0 e9) (by decide) (by decide) rfl rfl (Nat.le_of_ble_eq_true rfl) dX2_firstWishes_2 (fun _ T1 h => ?_)
  refine r_aload_n C dX2_firstWishes_5 rfl 0 rfl ?_
  refine r_alen (n := 0) C dX2_firstWishes_6 hk0 (by decide) (by decide) rfl ?_
  show Jr _ _ _ _ _ _ 7 _
  refine r_bipush (v := 8) C dX2_firstWishes_7 (by decide) ?_
  refine r_ic_lt (tgt := 28) C dX2_firstWishes_9 (by decide) h (fun h => ?_) (fun h => ?_)
  · exact r_vret C M dX2_firstWishes_28 h
  · refine r_aload_n C dX2_firstWishes_12 rfl 0 rfl ?_
    refine r_iconst (v := 2) C dX2_firstWishes_13 (by decide) ?_
    refine r_sipush (v := 720) C dX2_firstWishes_14 (by decide) ?_
    refine r_iast (n := (LN p0)) C dX2_firstWishes_17 hk0 rfl h (fun j2 T4 hj3 h => ?_)
    refine r_aload_n C dX2_firstWishes_18 rfl 0 rfl ?_
    show Jr _ _ _ _ _ _ 19 _
    refine r_iconst (v := 3) C dX2_firstWishes_19 (by decide) ?_
    refine r_bipush (v := 8) C dX2_firstWishes_20 (by decide) ?_
    refine r_iast (n := (LN p0)) C dX2_firstWishes_22 hk0 rfl h (fun j5 T7 hj6 h => ?_)
    refine r_aload_n C dX2_firstWishes_23 rfl 0 rfl ?_
    refine r_bipush (v := 7) C dX2_firstWishes_24 (by decide) ?_
    refine r_iconst (v := (-1)) C dX2_firstWishes_26 (by decide) ?_
    show Jr _ _ _ _ _ _ 27 _
    refine r_iast (n := (LN p0)) C dX2_firstWishes_27 hk0 rfl h (fun j8 T10 hj9 h => ?_)
    exact r_vret C M dX2_firstWishes_28 h
noncomputable def f_X2_setHead (p1 : Int32) (p2 : Int32) (p3 : Int32) (p4 : Int32) (p5 : Int32) (p6 : Int32) (T : Mm) : Option (Unit × Mm) :=
  lb ((p1 * 5)) fun v1 =>
  if v1 < 0 then (some ((), T))
  else (if 2470 < (v1 + 5) then (some ((), T))
  else (ix (v1 + 0) 2470 fun j2 => lb (uA T 33 j2 (p2)) fun T4 =>
  ix (v1 + 1) 2470 fun j5 => lb (uA T4 33 j5 (p3)) fun T7 =>
  ix (v1 + 2) 2470 fun j8 => lb (uA T7 33 j8 (p4)) fun T10 =>
  ix (v1 + 3) 2470 fun j11 => lb (uA T10 33 j11 (p5)) fun T13 =>
  ix (v1 + 4) 2470 fun j14 => lb (uA T13 33 j14 (p6)) fun T16 =>
  some ((), T16)))
set_option maxRecDepth 100000 in
set_option maxHeartbeats 4000000 in
theorem s_X2_setHead {ad : Nat → Nat} {U T : Mm} {q : Unit × Mm}  (p1 : Int32) (p2 : Int32) (p3 : Int32) (p4 : Int32) (p5 : Int32) (p6 : Int32) (h : f_X2_setHead p1 p2 p3 p4 p5 p6 T = some q) : Cr 1 yX2_setHead cX2_setHead 8 none [.ref (ad 27), .int p1, .int p2, .int p3, .int p4, .int p5, .int p6] ad true U T eV q := by
  refine cr_of (by decide) (Nat.le_of_ble_eq_true rfl) fun x S0 hn9 C M => ?_
  have C : CB x RX2 cX2_setHead := C
  refine Jr.eq (lv' := [(0, .ref (ad 27)), (1, .int p1), (2, .int p2), (3, .int p3), (4, .int p4), (5, .int p5), (6, .int p6)]) (st' := []) rfl rfl ?_
  unfold f_X2_setHead at h
  refine r_iload_n C dX2_setHead_0 rfl 1 rfl ?_
  refine r_iconst (v := 5) C dX2_setHead_1 (by decide) ?_
  refine r_imul C dX2_setHead_2 rfl ?_
  refine r_lbI h (fun v1 h => ?_)
  refine r_istore (lv' := [(7, .int v1), (0, .ref (ad 27)), (1, .int p1), (2, .int p2), (3, .int p3), (4, .int p4), (5, .int p5), (6, .int p6)]) C dX2_setHead_3 (by rw [hn9]; decide) rfl ?_
  refine r_iload C dX2_setHead_5 0 rfl ?_
  show Jr _ _ _ _ _ _ 7 _
  refine r_if_lt (tgt := 75) C dX2_setHead_7 (by decide) h (fun h => ?_) (fun h => ?_)
  · exact r_vret C M dX2_setHead_75 h
  · refine r_iload C dX2_setHead_10 0 rfl ?_
    refine r_iconst (v := 5) C dX2_setHead_12 (by decide) ?_
    refine r_iadd C dX2_setHead_13 rfl ?_
    refine r_aload_n C dX2_setHead_14 rfl 1 rfl ?_
    refine r_getp (f := 204) (j := 33) C flX2_29 dX2_setHead_15 kq_27 (by decide) rfl (fun W => pt_204 kq_27 W) ?_
    show Jr _ _ _ _ _ _ 18 _
    refine r_alen (n := 0) (v := 2470) C dX2_setHead_18 kq_33 (by decide) (by decide) (congrArg Int32.ofNat lq_33) ?_
    refine r_ic_gt (tgt := 75) C dX2_setHead_19 (by decide) h (fun h => ?_) (fun h => ?_)
    · exact r_vret C M dX2_setHead_75 h
    · refine r_aload_n C dX2_setHead_22 rfl 1 rfl ?_
      refine r_getp (f := 204) (j := 33) C flX2_29 dX2_setHead_23 kq_27 (by decide) rfl (fun W => pt_204 kq_27 W) ?_
      refine r_iload C dX2_setHead_26 0 rfl ?_
      refine r_iconst (v := 0) C dX2_setHead_28 (by decide) ?_
      refine r_iadd C dX2_setHead_29 rfl ?_
      show Jr _ _ _ _ _ _ 30 _
      refine r_iload_n C dX2_setHead_30 rfl 3 rfl ?_
      refine r_iast (n := 2470) C dX2_setHead_31 kq_33 lq_33 h (fun j2 T4 hj3 h => ?_)
      refine r_aload_n C dX2_setHead_32 rfl 1 rfl ?_
      refine r_getp (f := 204) (j := 33) C flX2_29 dX2_setHead_33 kq_27 (by decide) rfl (fun W => pt_204 kq_27 W) ?_
      refine r_iload C dX2_setHead_36 0 rfl ?_
      refine r_iconst (v := 1) C dX2_setHead_38 (by decide) ?_
      show Jr _ _ _ _ _ _ 39 _
      refine r_iadd C dX2_setHead_39 rfl ?_
      refine r_iload_n C dX2_setHead_40 rfl 4 rfl ?_
      refine r_iast (n := 2470) C dX2_setHead_41 kq_33 lq_33 h (fun j5 T7 hj6 h => ?_)
      refine r_aload_n C dX2_setHead_42 rfl 1 rfl ?_
      refine r_getp (f := 204) (j := 33) C flX2_29 dX2_setHead_43 kq_27 (by decide) rfl (fun W => pt_204 kq_27 W) ?_
      refine r_iload C dX2_setHead_46 0 rfl ?_
      show Jr _ _ _ _ _ _ 48 _
      refine r_iconst (v := 2) C dX2_setHead_48 (by decide) ?_
      refine r_iadd C dX2_setHead_49 rfl ?_
      refine r_iload C dX2_setHead_50 5 rfl ?_
      refine r_iast (n := 2470) C dX2_setHead_52 kq_33 lq_33 h (fun j8 T10 hj9 h => ?_)
      refine r_aload_n C dX2_setHead_53 rfl 1 rfl ?_
      refine r_getp (f := 204) (j := 33) C flX2_29 dX2_setHead_54 kq_27 (by decide) rfl (fun W => pt_204 kq_27 W) ?_
      show Jr _ _ _ _ _ _ 57 _
      refine r_iload C dX2_setHead_57 0 rfl ?_
      refine r_iconst (v := 3) C dX2_setHead_59 (by decide) ?_
      refine r_iadd C dX2_setHead_60 rfl ?_
      refine r_iload C dX2_setHead_61 6 rfl ?_
      refine r_iast (n := 2470) C dX2_setHead_63 kq_33 lq_33 h (fun j11 T13 hj12 h => ?_)
      refine r_aload_n C dX2_setHead_64 rfl 1 rfl ?_
      show Jr _ _ _ _ _ _ 65 _
      refine r_getp (f := 204) (j := 33) C flX2_29 dX2_setHead_65 kq_27 (by decide) rfl (fun W => pt_204 kq_27 W) ?_
      refine r_iload C dX2_setHead_68 0 rfl ?_
      refine r_iconst (v := 4) C dX2_setHead_70 (by decide) ?_
      refine r_iadd C dX2_setHead_71 rfl ?_
      refine r_iload C dX2_setHead_72 7 rfl ?_
      refine r_iast (n := 2470) C dX2_setHead_74 kq_33 lq_33 h (fun j14 T16 hj15 h => ?_)
      show Jr _ _ _ _ _ _ 75 _
      exact r_vret C M dX2_setHead_75 h
theorem dX11_feedNumber_0 : decode cX11_feedNumber 0 = .ok (.bipush 24, 2) := by decide +kernel
theorem dX11_feedNumber_2 : decode cX11_feedNumber 2 = .ok (.istore_n 2, 1) := by decide +kernel
theorem dX11_feedNumber_3 : decode cX11_feedNumber 3 = .ok (.iload_n 2, 1) := by decide +kernel
theorem dX11_feedNumber_4 : decode cX11_feedNumber 4 = .ok (.ifCond .lt 51, 3) := by decide +kernel
theorem dX11_feedNumber_7 : decode cX11_feedNumber 7 = .ok (.aload_n 0, 1) := by decide +kernel
theorem dX11_feedNumber_8 : decode cX11_feedNumber 8 = .ok (.getfield 53, 3) := by decide +kernel
theorem dX11_feedNumber_11 : decode cX11_feedNumber 11 = .ok (.ifCond .lt 38, 3) := by decide +kernel
theorem dX11_feedNumber_14 : decode cX11_feedNumber 14 = .ok (.aload_n 0, 1) := by decide +kernel
theorem dX11_feedNumber_15 : decode cX11_feedNumber 15 = .ok (.getfield 53, 3) := by decide +kernel
theorem dX11_feedNumber_18 : decode cX11_feedNumber 18 = .ok (.aload_n 0, 1) := by decide +kernel
theorem dX11_feedNumber_19 : decode cX11_feedNumber 19 = .ok (.getfield 9, 3) := by decide +kernel
theorem dX11_feedNumber_22 : decode cX11_feedNumber 22 = .ok (.arraylength, 1) := by decide +kernel
theorem dX11_feedNumber_23 : decode cX11_feedNumber 23 = .ok (.if_icmp .ge 26, 3) := by decide +kernel
theorem dX11_feedNumber_26 : decode cX11_feedNumber 26 = .ok (.aload_n 0, 1) := by decide +kernel
theorem dX11_feedNumber_27 : decode cX11_feedNumber 27 = .ok (.getfield 9, 3) := by decide +kernel
theorem dX11_feedNumber_30 : decode cX11_feedNumber 30 = .ok (.aload_n 0, 1) := by decide +kernel
theorem dX11_feedNumber_31 : decode cX11_feedNumber 31 = .ok (.getfield 53, 3) := by decide +kernel
theorem dX11_feedNumber_34 : decode cX11_feedNumber 34 = .ok (.iload_n 1, 1) := by decide +kernel
theorem dX11_feedNumber_35 : decode cX11_feedNumber 35 = .ok (.iload_n 2, 1) := by decide +kernel
theorem dX11_feedNumber_36 : decode cX11_feedNumber 36 = .ok (.ishr, 1) := by decide +kernel
theorem dX11_feedNumber_37 : decode cX11_feedNumber 37 = .ok (.i2b, 1) := by decide +kernel
theorem dX11_feedNumber_38 : decode cX11_feedNumber 38 = .ok (.bastore, 1) := by decide +kernel
theorem dX11_feedNumber_39 : decode cX11_feedNumber 39 = .ok (.aload_n 0, 1) := by decide +kernel
theorem dX11_feedNumber_40 : decode cX11_feedNumber 40 = .ok (.dup, 1) := by decide +kernel
theorem dX11_feedNumber_41 : decode cX11_feedNumber 41 = .ok (.getfield 53, 3) := by decide +kernel
theorem dX11_feedNumber_44 : decode cX11_feedNumber 44 = .ok (.iconst 1, 1) := by decide +kernel
theorem dX11_feedNumber_45 : decode cX11_feedNumber 45 = .ok (.iadd, 1) := by decide +kernel
theorem dX11_feedNumber_46 : decode cX11_feedNumber 46 = .ok (.putfield 53, 3) := by decide +kernel
theorem dX11_feedNumber_49 : decode cX11_feedNumber 49 = .ok (.iinc 2 (-8), 3) := by decide +kernel
theorem dX11_feedNumber_52 : decode cX11_feedNumber 52 = .ok (.goto (-49), 3) := by decide +kernel
theorem dX11_feedNumber_55 : decode cX11_feedNumber 55 = .ok (.return_, 1) := by decide +kernel
noncomputable def f_X11_feedNumber_b3 (k3 : Int32 → Int32 → Mm → Option (Unit × Mm)) (a1 : Int32) (a2 : Int32) (T : Mm) : Option (Unit × Mm) :=
  if a2 < 0 then (some ((), T))
  else (if (gI T 1101 0) < 0 then (k3 a1 (a2 + (-8)) T)
  else (if 8000 ≤ (gI T 1101 0) then (k3 a1 (a2 + (-8)) T)
  else (ix (gI T 1101 0) 8000 fun j1 => lb (uA T 1 j1 ((((a1 >>> (a2 &&& 31))).toInt8.toInt32).toInt8.toInt32)) fun T3 =>
  lb (uI T3 1101 0 ((gI T3 1101 0) + 1)) fun T4 =>
  k3 a1 (a2 + (-8)) T4)))
set_option maxRecDepth 100000 in
set_option maxHeartbeats 4000000 in
theorem s_X11_feedNumber_b3 {x : JX} {ad : Nat → Nat} {U : Mm} {S0 : Hp} {q : Unit × Mm}  {k3 : Int32 → Int32 → Mm → Option (Unit × Mm)} (hn9 : x_n x = 3) (C : CB x RX11 cX11_feedNumber) (M : CMr x 1 none S0 ad true U eV q) (hk3 : ∀ (a1 : Int32) (a2 : Int32) (T : Mm), k3 a1 a2 T = some q → Jr x ad true U T [(0, .ref (ad 0)), (1, .int a1), (2, .int a2)] 3 []) (a1 : Int32) (a2 : Int32) (T : Mm) (h : f_X11_feedNumber_b3 k3 a1 a2 T = some q) : Jr x ad true U T [(0, .ref (ad 0)), (1, .int a1), (2, .int a2)] 3 [] := by
  unfold f_X11_feedNumber_b3 at h
  refine r_iload_n C dX11_feedNumber_3 rfl 2 rfl ?_
  refine r_if_lt (tgt := 55) C dX11_feedNumber_4 (by decide) h (fun h => ?_) (fun h => ?_)
  · exact r_vret C M dX11_feedNumber_55 h
  · refine r_aload_n C dX11_feedNumber_7 rfl 0 rfl ?_
    refine r_geti (f := 1101) C flX11_53 dX11_feedNumber_8 kq_0 (by decide) (by decide) rfl ?_
    refine r_if_lt (tgt := 49) C dX11_feedNumber_11 (by decide) h (fun h => ?_) (fun h => ?_)
    · refine r_iinc (q := 2) (v := (a2 + (-8))) (lv' := [(2, .int (a2 + (-8))), (0, .ref (ad 0)), (1, .int a1)]) C dX11_feedNumber_49 rfl (by rw [show Int32.ofInt (-8) = (-8) by decide]) (by rw [hn9]; decide) rfl ?_
      refine r_goto (tgt := 3) C dX11_feedNumber_52 (by decide) ?_
      refine Jr.sub [1, 2, 0] (lv' := [(0, .ref (ad 0)), (1, .int a1), (2, .int (a2 + (-8)))]) rfl ?_
      exact hk3 a1 (a2 + (-8)) T h
    · refine r_aload_n C dX11_feedNumber_14 rfl 0 rfl ?_
      refine r_geti (f := 1101) C flX11_53 dX11_feedNumber_15 kq_0 (by decide) (by decide) rfl ?_
      refine r_aload_n C dX11_feedNumber_18 rfl 0 rfl ?_
      refine r_getp (f := 1100) (j := 1) C flX11_9 dX11_feedNumber_19 kq_0 (by decide) rfl (fun W => pt_1100 kq_0 W) ?_
      refine r_alen (n := 0) (v := 8000) C dX11_feedNumber_22 kq_1 (by decide) (by decide) (congrArg Int32.ofNat lq_1) ?_
      show Jr _ _ _ _ _ _ 23 _
      refine r_ic_ge (tgt := 49) C dX11_feedNumber_23 (by decide) h (fun h => ?_) (fun h => ?_)
      · refine r_iinc (q := 2) (v := (a2 + (-8))) (lv' := [(2, .int (a2 + (-8))), (0, .ref (ad 0)), (1, .int a1)]) C dX11_feedNumber_49 rfl (by rw [show Int32.ofInt (-8) = (-8) by decide]) (by rw [hn9]; decide) rfl ?_
        refine r_goto (tgt := 3) C dX11_feedNumber_52 (by decide) ?_
        refine Jr.sub [1, 2, 0] (lv' := [(0, .ref (ad 0)), (1, .int a1), (2, .int (a2 + (-8)))]) rfl ?_
        exact hk3 a1 (a2 + (-8)) T h
      · refine r_aload_n C dX11_feedNumber_26 rfl 0 rfl ?_
        refine r_getp (f := 1100) (j := 1) C flX11_9 dX11_feedNumber_27 kq_0 (by decide) rfl (fun W => pt_1100 kq_0 W) ?_
        refine r_aload_n C dX11_feedNumber_30 rfl 0 rfl ?_
        refine r_geti (f := 1101) C flX11_53 dX11_feedNumber_31 kq_0 (by decide) (by decide) rfl ?_
        refine r_iload_n C dX11_feedNumber_34 rfl 1 rfl ?_
        show Jr _ _ _ _ _ _ 35 _
        refine r_iload_n C dX11_feedNumber_35 rfl 2 rfl ?_
        refine r_ishr C dX11_feedNumber_36 rfl ?_
        refine r_i2b C dX11_feedNumber_37 rfl ?_
        refine r_bast (n := 8000) C dX11_feedNumber_38 kq_1 lq_1 h (fun j1 T3 hj2 h => ?_)
        refine r_aload_n C dX11_feedNumber_39 rfl 0 rfl ?_
        refine r_dup C dX11_feedNumber_40 rfl ?_
        show Jr _ _ _ _ _ _ 41 _
        refine r_geti (f := 1101) C flX11_53 dX11_feedNumber_41 kq_0 (by decide) (by decide) rfl ?_
        refine r_iconst (v := 1) C dX11_feedNumber_44 (by decide) ?_
        refine r_iadd C dX11_feedNumber_45 rfl ?_
        refine r_puti (f := 1101) C flX11_53 (by decide) rfl rfl dX11_feedNumber_46 kq_0 rfl h (fun T4 h => ?_)
        refine r_iinc (q := 2) (v := (a2 + (-8))) (lv' := [(2, .int (a2 + (-8))), (0, .ref (ad 0)), (1, .int a1)]) C dX11_feedNumber_49 rfl (by rw [show Int32.ofInt (-8) = (-8) by decide]) (by rw [hn9]; decide) rfl ?_
        refine r_goto (tgt := 3) C dX11_feedNumber_52 (by decide) ?_
        refine Jr.sub [1, 2, 0] (lv' := [(0, .ref (ad 0)), (1, .int a1), (2, .int (a2 + (-8)))]) rfl ?_
        exact hk3 a1 (a2 + (-8)) T4 h
noncomputable def f_X11_feedNumber_l3 (n : Nat) : Int32 → Int32 → Mm → Option (Unit × Mm) := Nat.rec (fun _ _ _ => none) (fun _ ih => f_X11_feedNumber_b3 ih) n
theorem s_X11_feedNumber_l3 {x : JX} {ad : Nat → Nat} {U : Mm} {S0 : Hp} {q : Unit × Mm}  (hn9 : x_n x = 3) (C : CB x RX11 cX11_feedNumber) (M : CMr x 1 none S0 ad true U eV q) : ∀ (n : Nat), ∀ (a1 : Int32) (a2 : Int32) (T : Mm), f_X11_feedNumber_l3  n a1 a2 T = some q → Jr x ad true U T [(0, .ref (ad 0)), (1, .int a1), (2, .int a2)] 3 [] := by
  intro n
  induction n with
  | zero => intro a1 a2 T  h; exact absurd h (by intro h; cases h)
  | succ n ih => exact fun a1 a2 T  h => s_X11_feedNumber_b3 hn9 C M (ih) a1 a2 T  h
noncomputable def f_X11_feedNumber (p1 : Int32) (T : Mm) : Option (Unit × Mm) :=
  f_X11_feedNumber_l3 FU p1 24 T
set_option maxRecDepth 100000 in
set_option maxHeartbeats 4000000 in
theorem s_X11_feedNumber {ad : Nat → Nat} {U T : Mm} {q : Unit × Mm}  (p1 : Int32) (h : f_X11_feedNumber p1 T = some q) : Cr 1 yX11_feedNumber cX11_feedNumber 3 none [.ref (ad 0), .int p1] ad true U T eV q := by
  refine cr_of (by decide) (Nat.le_of_ble_eq_true rfl) fun x S0 hn9 C M => ?_
  have C : CB x RX11 cX11_feedNumber := C
  refine Jr.eq (lv' := [(0, .ref (ad 0)), (1, .int p1)]) (st' := []) rfl rfl ?_
  unfold f_X11_feedNumber at h
  refine r_bipush (v := 24) C dX11_feedNumber_0 (by decide) ?_
  refine r_istore_n (lv' := [(2, .int 24), (0, .ref (ad 0)), (1, .int p1)]) C dX11_feedNumber_2 rfl (by rw [hn9]; decide) rfl ?_
  refine Jr.sub [1, 2, 0] (lv' := [(0, .ref (ad 0)), (1, .int p1), (2, .int 24)]) rfl ?_
  exact s_X11_feedNumber_l3 hn9 C M  FU p1 24 T h
theorem dX11_feed_0 : decode cX11_feed 0 = .ok (.aload_n 0, 1) := by decide +kernel
theorem dX11_feed_1 : decode cX11_feed 1 = .ok (.getfield 53, 3) := by decide +kernel
theorem dX11_feed_4 : decode cX11_feed 4 = .ok (.bipush 20, 2) := by decide +kernel
theorem dX11_feed_6 : decode cX11_feed 6 = .ok (.iadd, 1) := by decide +kernel
theorem dX11_feed_7 : decode cX11_feed 7 = .ok (.sipush 8000, 3) := by decide +kernel
theorem dX11_feed_10 : decode cX11_feed 10 = .ok (.if_icmp .le 5, 3) := by decide +kernel
theorem dX11_feed_13 : decode cX11_feed 13 = .ok (.iconst (-1), 1) := by decide +kernel
theorem dX11_feed_14 : decode cX11_feed 14 = .ok (.ireturn, 1) := by decide +kernel
theorem dX11_feed_15 : decode cX11_feed 15 = .ok (.aload_n 0, 1) := by decide +kernel
theorem dX11_feed_16 : decode cX11_feed 16 = .ok (.iload_n 1, 1) := by decide +kernel
theorem dX11_feed_17 : decode cX11_feed 17 = .ok (.invokevirtual 56, 3) := by decide +kernel
theorem dX11_feed_20 : decode cX11_feed 20 = .ok (.aload_n 0, 1) := by decide +kernel
theorem dX11_feed_21 : decode cX11_feed 21 = .ok (.iload_n 2, 1) := by decide +kernel
theorem dX11_feed_22 : decode cX11_feed 22 = .ok (.invokevirtual 56, 3) := by decide +kernel
theorem dX11_feed_25 : decode cX11_feed 25 = .ok (.aload_n 0, 1) := by decide +kernel
theorem dX11_feed_26 : decode cX11_feed 26 = .ok (.iload_n 3, 1) := by decide +kernel
theorem dX11_feed_27 : decode cX11_feed 27 = .ok (.invokevirtual 56, 3) := by decide +kernel
theorem dX11_feed_30 : decode cX11_feed 30 = .ok (.aload_n 0, 1) := by decide +kernel
theorem dX11_feed_31 : decode cX11_feed 31 = .ok (.iload 4, 2) := by decide +kernel
theorem dX11_feed_33 : decode cX11_feed 33 = .ok (.invokevirtual 56, 3) := by decide +kernel
theorem dX11_feed_36 : decode cX11_feed 36 = .ok (.aload_n 0, 1) := by decide +kernel
theorem dX11_feed_37 : decode cX11_feed 37 = .ok (.iload 5, 2) := by decide +kernel
theorem dX11_feed_39 : decode cX11_feed 39 = .ok (.invokevirtual 56, 3) := by decide +kernel
theorem dX11_feed_42 : decode cX11_feed 42 = .ok (.aload_n 0, 1) := by decide +kernel
theorem dX11_feed_43 : decode cX11_feed 43 = .ok (.getfield 53, 3) := by decide +kernel
theorem dX11_feed_46 : decode cX11_feed 46 = .ok (.ireturn, 1) := by decide +kernel
noncomputable def f_X11_feed (p1 : Int32) (p2 : Int32) (p3 : Int32) (p4 : Int32) (p5 : Int32) (T : Mm) : Option (Int32 × Mm) :=
  if ((gI T 1101 0) + 20) ≤ 8000 then (bd (f_X11_feedNumber p1 T) fun _ T1 =>
  bd (f_X11_feedNumber p2 T1) fun _ T2 =>
  bd (f_X11_feedNumber p3 T2) fun _ T3 =>
  bd (f_X11_feedNumber p4 T3) fun _ T4 =>
  bd (f_X11_feedNumber p5 T4) fun _ T5 =>
  some ((gI T5 1101 0), T5))
  else (some ((-1), T))
set_option maxRecDepth 100000 in
set_option maxHeartbeats 4000000 in
theorem s_X11_feed {ad : Nat → Nat} {U T : Mm} {q : Int32 × Mm}  (p1 : Int32) (p2 : Int32) (p3 : Int32) (p4 : Int32) (p5 : Int32) (h : f_X11_feed p1 p2 p3 p4 p5 T = some q) : Cr 2 yX11_feed cX11_feed 6 (some .int) [.ref (ad 0), .int p1, .int p2, .int p3, .int p4, .int p5] ad true U T eI q := by
  refine cr_of (by decide) (Nat.le_of_ble_eq_true rfl) fun x S0 hn9 C M => ?_
  have C : CB x RX11 cX11_feed := C
  refine Jr.eq (lv' := [(0, .ref (ad 0)), (1, .int p1), (2, .int p2), (3, .int p3), (4, .int p4), (5, .int p5)]) (st' := []) rfl rfl ?_
  unfold f_X11_feed at h
  refine r_aload_n C dX11_feed_0 rfl 0 rfl ?_
  refine r_geti (f := 1101) C flX11_53 dX11_feed_1 kq_0 (by decide) (by decide) rfl ?_
  refine r_bipush (v := 20) C dX11_feed_4 (by decide) ?_
  refine r_iadd C dX11_feed_6 rfl ?_
  refine r_sipush (v := 8000) C dX11_feed_7 (by decide) ?_
  show Jr _ _ _ _ _ _ 10 _
  refine r_ic_le (tgt := 15) C dX11_feed_10 (by decide) h (fun h => ?_) (fun h => ?_)
  · refine r_aload_n C dX11_feed_15 rfl 0 rfl ?_
    refine r_iload_n C dX11_feed_16 rfl 1 rfl ?_
    refine r_callVN C M h [.int p1] [] mlX11_56 mcX11_feedNumber (fun q9 e9 => s_X11_feedNumber p1  e9) kq_0 rfl (by decide) (by decide) rfl rfl (Nat.le_of_ble_eq_true rfl) dX11_feed_17 (fun _ T1 h => ?_)
    refine r_aload_n C dX11_feed_20 rfl 0 rfl ?_
    refine r_iload_n C dX11_feed_21 rfl 2 rfl ?_
    show Jr _ _ _ _ _ _ 22 _
    refine r_callVN C M h [.int p2] [] mlX11_56 mcX11_feedNumber (fun q9 e9 => s_X11_feedNumber p2  e9) kq_0 rfl (by decide) (by decide) rfl rfl (Nat.le_of_ble_eq_true rfl) dX11_feed_22 (fun _ T2 h => ?_)
    refine r_aload_n C dX11_feed_25 rfl 0 rfl ?_
    refine r_iload_n C dX11_feed_26 rfl 3 rfl ?_
    refine r_callVN C M h [.int p3] [] mlX11_56 mcX11_feedNumber (fun q9 e9 => s_X11_feedNumber p3  e9) kq_0 rfl (by decide) (by decide) rfl rfl (Nat.le_of_ble_eq_true rfl) dX11_feed_27 (fun _ T3 h => ?_)
    refine r_aload_n C dX11_feed_30 rfl 0 rfl ?_
    refine r_iload C dX11_feed_31 4 rfl ?_
    show Jr _ _ _ _ _ _ 33 _
    refine r_callVN C M h [.int p4] [] mlX11_56 mcX11_feedNumber (fun q9 e9 => s_X11_feedNumber p4  e9) kq_0 rfl (by decide) (by decide) rfl rfl (Nat.le_of_ble_eq_true rfl) dX11_feed_33 (fun _ T4 h => ?_)
    refine r_aload_n C dX11_feed_36 rfl 0 rfl ?_
    refine r_iload C dX11_feed_37 5 rfl ?_
    refine r_callVN C M h [.int p5] [] mlX11_56 mcX11_feedNumber (fun q9 e9 => s_X11_feedNumber p5  e9) kq_0 rfl (by decide) (by decide) rfl rfl (Nat.le_of_ble_eq_true rfl) dX11_feed_39 (fun _ T5 h => ?_)
    refine r_aload_n C dX11_feed_42 rfl 0 rfl ?_
    refine r_geti (f := 1101) C flX11_53 dX11_feed_43 kq_0 (by decide) (by decide) rfl ?_
    show Jr _ _ _ _ _ _ 46 _
    exact r_iret C M dX11_feed_46 h
  · refine r_iconst (v := (-1)) C dX11_feed_13 (by decide) ?_
    exact r_iret C M dX11_feed_14 h
theorem dX11_cut_0 : decode cX11_cut 0 = .ok (.iload_n 1, 1) := by decide +kernel
theorem dX11_cut_1 : decode cX11_cut 1 = .ok (.ifCond .lt 11, 3) := by decide +kernel
theorem dX11_cut_4 : decode cX11_cut 4 = .ok (.iload_n 1, 1) := by decide +kernel
theorem dX11_cut_5 : decode cX11_cut 5 = .ok (.aload_n 0, 1) := by decide +kernel
theorem dX11_cut_6 : decode cX11_cut 6 = .ok (.getfield 53, 3) := by decide +kernel
theorem dX11_cut_9 : decode cX11_cut 9 = .ok (.if_icmp .le 5, 3) := by decide +kernel
theorem dX11_cut_12 : decode cX11_cut 12 = .ok (.iconst (-1), 1) := by decide +kernel
theorem dX11_cut_13 : decode cX11_cut 13 = .ok (.ireturn, 1) := by decide +kernel
theorem dX11_cut_14 : decode cX11_cut 14 = .ok (.aload_n 0, 1) := by decide +kernel
theorem dX11_cut_15 : decode cX11_cut 15 = .ok (.getfield 53, 3) := by decide +kernel
theorem dX11_cut_18 : decode cX11_cut 18 = .ok (.iload_n 1, 1) := by decide +kernel
theorem dX11_cut_19 : decode cX11_cut 19 = .ok (.isub, 1) := by decide +kernel
theorem dX11_cut_20 : decode cX11_cut 20 = .ok (.istore_n 2, 1) := by decide +kernel
theorem dX11_cut_21 : decode cX11_cut 21 = .ok (.aload_n 0, 1) := by decide +kernel
theorem dX11_cut_22 : decode cX11_cut 22 = .ok (.iload_n 1, 1) := by decide +kernel
theorem dX11_cut_23 : decode cX11_cut 23 = .ok (.putfield 53, 3) := by decide +kernel
theorem dX11_cut_26 : decode cX11_cut 26 = .ok (.iload_n 2, 1) := by decide +kernel
theorem dX11_cut_27 : decode cX11_cut 27 = .ok (.ireturn, 1) := by decide +kernel
noncomputable def f_X11_cut (p1 : Int32) (T : Mm) : Option (Int32 × Mm) :=
  if p1 < 0 then (some ((-1), T))
  else (if p1 ≤ (gI T 1101 0) then (lb (((gI T 1101 0) - p1)) fun v1 =>
  lb (uI T 1101 0 p1) fun T2 =>
  some (v1, T2))
  else (some ((-1), T)))
set_option maxRecDepth 100000 in
set_option maxHeartbeats 4000000 in
theorem s_X11_cut {ad : Nat → Nat} {U T : Mm} {q : Int32 × Mm}  (p1 : Int32) (h : f_X11_cut p1 T = some q) : Cr 1 yX11_cut cX11_cut 3 (some .int) [.ref (ad 0), .int p1] ad true U T eI q := by
  refine cr_of (by decide) (Nat.le_of_ble_eq_true rfl) fun x S0 hn9 C M => ?_
  have C : CB x RX11 cX11_cut := C
  refine Jr.eq (lv' := [(0, .ref (ad 0)), (1, .int p1)]) (st' := []) rfl rfl ?_
  unfold f_X11_cut at h
  refine r_iload_n C dX11_cut_0 rfl 1 rfl ?_
  refine r_if_lt (tgt := 12) C dX11_cut_1 (by decide) h (fun h => ?_) (fun h => ?_)
  · refine r_iconst (v := (-1)) C dX11_cut_12 (by decide) ?_
    exact r_iret C M dX11_cut_13 h
  · refine r_iload_n C dX11_cut_4 rfl 1 rfl ?_
    refine r_aload_n C dX11_cut_5 rfl 0 rfl ?_
    refine r_geti (f := 1101) C flX11_53 dX11_cut_6 kq_0 (by decide) (by decide) rfl ?_
    refine r_ic_le (tgt := 14) C dX11_cut_9 (by decide) h (fun h => ?_) (fun h => ?_)
    · refine r_aload_n C dX11_cut_14 rfl 0 rfl ?_
      refine r_geti (f := 1101) C flX11_53 dX11_cut_15 kq_0 (by decide) (by decide) rfl ?_
      refine r_iload_n C dX11_cut_18 rfl 1 rfl ?_
      refine r_isub C dX11_cut_19 rfl ?_
      refine r_lbI h (fun v1 h => ?_)
      refine r_istore_n (lv' := [(2, .int v1), (0, .ref (ad 0)), (1, .int p1)]) C dX11_cut_20 rfl (by rw [hn9]; decide) rfl ?_
      show Jr _ _ _ _ _ _ 21 _
      refine r_aload_n C dX11_cut_21 rfl 1 rfl ?_
      refine r_iload_n C dX11_cut_22 rfl 2 rfl ?_
      refine r_puti (f := 1101) C flX11_53 (by decide) rfl rfl dX11_cut_23 kq_0 rfl h (fun T2 h => ?_)
      refine r_iload_n C dX11_cut_26 rfl 0 rfl ?_
      exact r_iret C M dX11_cut_27 h
    · refine r_iconst (v := (-1)) C dX11_cut_12 (by decide) ?_
      exact r_iret C M dX11_cut_13 h
theorem dX11_part_0 : decode cX11_part 0 = .ok (.aload_n 0, 1) := by decide +kernel
theorem dX11_part_1 : decode cX11_part 1 = .ok (.getfield 53, 3) := by decide +kernel
theorem dX11_part_4 : decode cX11_part 4 = .ok (.istore_n 2, 1) := by decide +kernel
theorem dX11_part_5 : decode cX11_part 5 = .ok (.aload_n 0, 1) := by decide +kernel
theorem dX11_part_6 : decode cX11_part 6 = .ok (.iconst 0, 1) := by decide +kernel
theorem dX11_part_7 : decode cX11_part 7 = .ok (.putfield 53, 3) := by decide +kernel
theorem dX11_part_10 : decode cX11_part 10 = .ok (.iload_n 1, 1) := by decide +kernel
theorem dX11_part_11 : decode cX11_part 11 = .ok (.ifCond .eq 8, 3) := by decide +kernel
theorem dX11_part_14 : decode cX11_part 14 = .ok (.iload_n 1, 1) := by decide +kernel
theorem dX11_part_15 : decode cX11_part 15 = .ok (.iconst 1, 1) := by decide +kernel
theorem dX11_part_16 : decode cX11_part 16 = .ok (.if_icmp .ne 19, 3) := by decide +kernel
theorem dX11_part_19 : decode cX11_part 19 = .ok (.aload_n 0, 1) := by decide +kernel
theorem dX11_part_20 : decode cX11_part 20 = .ok (.getfield 60, 3) := by decide +kernel
theorem dX11_part_23 : decode cX11_part 23 = .ok (.ifCond .lt 12, 3) := by decide +kernel
theorem dX11_part_26 : decode cX11_part 26 = .ok (.aload_n 0, 1) := by decide +kernel
theorem dX11_part_27 : decode cX11_part 27 = .ok (.getfield 60, 3) := by decide +kernel
theorem dX11_part_30 : decode cX11_part 30 = .ok (.bipush 6, 2) := by decide +kernel
theorem dX11_part_32 : decode cX11_part 32 = .ok (.if_icmp .lt 5, 3) := by decide +kernel
theorem dX11_part_35 : decode cX11_part 35 = .ok (.iconst (-1), 1) := by decide +kernel
theorem dX11_part_36 : decode cX11_part 36 = .ok (.ireturn, 1) := by decide +kernel
theorem dX11_part_37 : decode cX11_part 37 = .ok (.aload_n 0, 1) := by decide +kernel
theorem dX11_part_38 : decode cX11_part 38 = .ok (.getfield 20, 3) := by decide +kernel
theorem dX11_part_41 : decode cX11_part 41 = .ok (.aload_n 0, 1) := by decide +kernel
theorem dX11_part_42 : decode cX11_part 42 = .ok (.getfield 60, 3) := by decide +kernel
theorem dX11_part_45 : decode cX11_part 45 = .ok (.iaload, 1) := by decide +kernel
theorem dX11_part_46 : decode cX11_part 46 = .ok (.istore_n 3, 1) := by decide +kernel
theorem dX11_part_47 : decode cX11_part 47 = .ok (.iload_n 3, 1) := by decide +kernel
theorem dX11_part_48 : decode cX11_part 48 = .ok (.iload_n 2, 1) := by decide +kernel
theorem dX11_part_49 : decode cX11_part 49 = .ok (.iadd, 1) := by decide +kernel
theorem dX11_part_50 : decode cX11_part 50 = .ok (.sipush 12000, 3) := by decide +kernel
theorem dX11_part_53 : decode cX11_part 53 = .ok (.if_icmp .le 5, 3) := by decide +kernel
theorem dX11_part_56 : decode cX11_part 56 = .ok (.iconst (-1), 1) := by decide +kernel
theorem dX11_part_57 : decode cX11_part 57 = .ok (.ireturn, 1) := by decide +kernel
theorem dX11_part_58 : decode cX11_part 58 = .ok (.aload_n 0, 1) := by decide +kernel
theorem dX11_part_59 : decode cX11_part 59 = .ok (.getfield 9, 3) := by decide +kernel
theorem dX11_part_62 : decode cX11_part 62 = .ok (.iconst 0, 1) := by decide +kernel
theorem dX11_part_63 : decode cX11_part 63 = .ok (.aload_n 0, 1) := by decide +kernel
theorem dX11_part_64 : decode cX11_part 64 = .ok (.getfield 13, 3) := by decide +kernel
theorem dX11_part_67 : decode cX11_part 67 = .ok (.iload_n 3, 1) := by decide +kernel
theorem dX11_part_68 : decode cX11_part 68 = .ok (.iload_n 2, 1) := by decide +kernel
theorem dX11_part_69 : decode cX11_part 69 = .ok (.invokestatic 63, 3) := by decide +kernel
theorem dX11_part_72 : decode cX11_part 72 = .ok (.aload_n 0, 1) := by decide +kernel
theorem dX11_part_73 : decode cX11_part 73 = .ok (.getfield 16, 3) := by decide +kernel
theorem dX11_part_76 : decode cX11_part 76 = .ok (.aload_n 0, 1) := by decide +kernel
theorem dX11_part_77 : decode cX11_part 77 = .ok (.getfield 60, 3) := by decide +kernel
theorem dX11_part_80 : decode cX11_part 80 = .ok (.iload_n 1, 1) := by decide +kernel
theorem dX11_part_81 : decode cX11_part 81 = .ok (.iastore, 1) := by decide +kernel
theorem dX11_part_82 : decode cX11_part 82 = .ok (.aload_n 0, 1) := by decide +kernel
theorem dX11_part_83 : decode cX11_part 83 = .ok (.dup, 1) := by decide +kernel
theorem dX11_part_84 : decode cX11_part 84 = .ok (.getfield 60, 3) := by decide +kernel
theorem dX11_part_87 : decode cX11_part 87 = .ok (.iconst 1, 1) := by decide +kernel
theorem dX11_part_88 : decode cX11_part 88 = .ok (.iadd, 1) := by decide +kernel
theorem dX11_part_89 : decode cX11_part 89 = .ok (.putfield 60, 3) := by decide +kernel
theorem dX11_part_92 : decode cX11_part 92 = .ok (.aload_n 0, 1) := by decide +kernel
theorem dX11_part_93 : decode cX11_part 93 = .ok (.getfield 20, 3) := by decide +kernel
theorem dX11_part_96 : decode cX11_part 96 = .ok (.aload_n 0, 1) := by decide +kernel
theorem dX11_part_97 : decode cX11_part 97 = .ok (.getfield 60, 3) := by decide +kernel
theorem dX11_part_100 : decode cX11_part 100 = .ok (.iload_n 3, 1) := by decide +kernel
theorem dX11_part_101 : decode cX11_part 101 = .ok (.iload_n 2, 1) := by decide +kernel
theorem dX11_part_102 : decode cX11_part 102 = .ok (.iadd, 1) := by decide +kernel
theorem dX11_part_103 : decode cX11_part 103 = .ok (.iastore, 1) := by decide +kernel
theorem dX11_part_104 : decode cX11_part 104 = .ok (.aload_n 0, 1) := by decide +kernel
theorem dX11_part_105 : decode cX11_part 105 = .ok (.getfield 60, 3) := by decide +kernel
theorem dX11_part_108 : decode cX11_part 108 = .ok (.ireturn, 1) := by decide +kernel
noncomputable def f_X11_part_19 (a1 : Int32) (a2 : Int32) (T : Mm) : Option (Int32 × Mm) :=
  if (gI T 1105 0) < 0 then (some ((-1), T))
  else (if (gI T 1105 0) < 6 then (ix (gI T 1105 0) 7 fun j1 =>
  lb ((gA T 4 j1)) fun v3 =>
  if (v3 + a2) ≤ 12000 then (cp 0 v3 a2 8000 12000 fun q4 q5 q6 => lb (vA T 2 (va_cpy (gA T 1) (gA T 2) q4 q5 q6)) fun T7 =>
  ix (gI T7 1105 0) 6 fun j8 => lb (uA T7 3 j8 (a1)) fun T10 =>
  lb (uI T10 1105 0 ((gI T10 1105 0) + 1)) fun T11 =>
  ix (gI T11 1105 0) 7 fun j12 => lb (uA T11 4 j12 ((v3 + a2))) fun T14 =>
  some ((gI T14 1105 0), T14))
  else (some ((-1), T)))
  else (some ((-1), T)))
set_option maxRecDepth 100000 in
set_option maxHeartbeats 4000000 in
theorem s_X11_part_19 {x : JX} {ad : Nat → Nat} {U : Mm} {S0 : Hp} {q : Int32 × Mm}  (hn9 : x_n x = 4) (C : CB x RX11 cX11_part) (M : CMr x 1 (some .int) S0 ad true U eI q) (a1 : Int32) (a2 : Int32) (T : Mm) (h : f_X11_part_19  a1 a2 T = some q) : Jr x ad true U T [(0, .ref (ad 0)), (1, .int a1), (2, .int a2)] 19 [] := by
  unfold f_X11_part_19 at h
  refine r_aload_n C dX11_part_19 rfl 0 rfl ?_
  refine r_geti (f := 1105) C flX11_60 dX11_part_20 kq_0 (by decide) (by decide) rfl ?_
  refine r_if_lt (tgt := 35) C dX11_part_23 (by decide) h (fun h => ?_) (fun h => ?_)
  · refine r_iconst (v := (-1)) C dX11_part_35 (by decide) ?_
    exact r_iret C M dX11_part_36 h
  · refine r_aload_n C dX11_part_26 rfl 0 rfl ?_
    refine r_geti (f := 1105) C flX11_60 dX11_part_27 kq_0 (by decide) (by decide) rfl ?_
    refine r_bipush (v := 6) C dX11_part_30 (by decide) ?_
    refine r_ic_lt (tgt := 37) C dX11_part_32 (by decide) h (fun h => ?_) (fun h => ?_)
    · refine r_aload_n C dX11_part_37 rfl 0 rfl ?_
      refine r_getp (f := 1104) (j := 4) C flX11_20 dX11_part_38 kq_0 (by decide) rfl (fun W => pt_1104 kq_0 W) ?_
      refine r_aload_n C dX11_part_41 rfl 0 rfl ?_
      refine r_geti (f := 1105) C flX11_60 dX11_part_42 kq_0 (by decide) (by decide) rfl ?_
      refine r_iald (n := 7) C dX11_part_45 kq_4 lq_4 h (fun j1 hj2 h => ?_)
      show Jr _ _ _ _ _ _ 46 _
      refine r_lbI h (fun v3 h => ?_)
      refine r_istore_n (lv' := [(3, .int v3), (0, .ref (ad 0)), (1, .int a1), (2, .int a2)]) C dX11_part_46 rfl (by rw [hn9]; decide) rfl ?_
      refine r_iload_n C dX11_part_47 rfl 0 rfl ?_
      refine r_iload_n C dX11_part_48 rfl 3 rfl ?_
      refine r_iadd C dX11_part_49 rfl ?_
      refine r_sipush (v := 12000) C dX11_part_50 (by decide) ?_
      refine r_ic_le (tgt := 58) C dX11_part_53 (by decide) h (fun h => ?_) (fun h => ?_)
      · refine r_aload_n C dX11_part_58 rfl 1 rfl ?_
        refine r_getp (f := 1100) (j := 1) C flX11_9 dX11_part_59 kq_0 (by decide) rfl (fun W => pt_1100 kq_0 W) ?_
        refine r_iconst (v := 0) C dX11_part_62 (by decide) ?_
        refine r_aload_n C dX11_part_63 rfl 1 rfl ?_
        refine r_getp (f := 1102) (j := 2) C flX11_13 dX11_part_64 kq_0 (by decide) rfl (fun W => pt_1102 kq_0 W) ?_
        show Jr _ _ _ _ _ _ 67 _
        refine r_iload_n C dX11_part_67 rfl 0 rfl ?_
        refine r_iload_n C dX11_part_68 rfl 3 rfl ?_
        refine r_copy (n0 := 8000) (n1 := 12000) (kd := 13) (ty := .byte) C M (by decide) mlX11_63 (by decide) kq_1 lq_1 kq_2 lq_2 dX11_part_69 h (fun q4 q5 q6 T7 h => ?_)
        refine r_aload_n C dX11_part_72 rfl 1 rfl ?_
        refine r_getp (f := 1103) (j := 3) C flX11_16 dX11_part_73 kq_0 (by decide) rfl (fun W => pt_1103 kq_0 W) ?_
        refine r_aload_n C dX11_part_76 rfl 1 rfl ?_
        show Jr _ _ _ _ _ _ 77 _
        refine r_geti (f := 1105) C flX11_60 dX11_part_77 kq_0 (by decide) (by decide) rfl ?_
        refine r_iload_n C dX11_part_80 rfl 2 rfl ?_
        refine r_iast (n := 6) C dX11_part_81 kq_3 lq_3 h (fun j8 T10 hj9 h => ?_)
        refine r_aload_n C dX11_part_82 rfl 1 rfl ?_
        refine r_dup C dX11_part_83 rfl ?_
        refine r_geti (f := 1105) C flX11_60 dX11_part_84 kq_0 (by decide) (by decide) rfl ?_
        show Jr _ _ _ _ _ _ 87 _
        refine r_iconst (v := 1) C dX11_part_87 (by decide) ?_
        refine r_iadd C dX11_part_88 rfl ?_
        refine r_puti (f := 1105) C flX11_60 (by decide) rfl rfl dX11_part_89 kq_0 rfl h (fun T11 h => ?_)
        refine r_aload_n C dX11_part_92 rfl 1 rfl ?_
        refine r_getp (f := 1104) (j := 4) C flX11_20 dX11_part_93 kq_0 (by decide) rfl (fun W => pt_1104 kq_0 W) ?_
        refine r_aload_n C dX11_part_96 rfl 1 rfl ?_
        show Jr _ _ _ _ _ _ 97 _
        refine r_geti (f := 1105) C flX11_60 dX11_part_97 kq_0 (by decide) (by decide) rfl ?_
        refine r_iload_n C dX11_part_100 rfl 0 rfl ?_
        refine r_iload_n C dX11_part_101 rfl 3 rfl ?_
        refine r_iadd C dX11_part_102 rfl ?_
        refine r_iast (n := 7) C dX11_part_103 kq_4 lq_4 h (fun j12 T14 hj13 h => ?_)
        refine r_aload_n C dX11_part_104 rfl 1 rfl ?_
        show Jr _ _ _ _ _ _ 105 _
        refine r_geti (f := 1105) C flX11_60 dX11_part_105 kq_0 (by decide) (by decide) rfl ?_
        exact r_iret C M dX11_part_108 h
      · refine r_iconst (v := (-1)) C dX11_part_56 (by decide) ?_
        exact r_iret C M dX11_part_57 h
    · refine r_iconst (v := (-1)) C dX11_part_35 (by decide) ?_
      exact r_iret C M dX11_part_36 h
noncomputable def f_X11_part (p1 : Int32) (T : Mm) : Option (Int32 × Mm) :=
  lb ((gI T 1101 0)) fun v1 =>
  lb (uI T 1101 0 0) fun T2 =>
  if p1 = 0 then (f_X11_part_19 p1 v1 T2)
  else (if p1 = 1 then (f_X11_part_19 p1 v1 T2)
  else (some ((-1), T2)))
set_option maxRecDepth 100000 in
set_option maxHeartbeats 4000000 in
theorem s_X11_part {ad : Nat → Nat} {U T : Mm} {q : Int32 × Mm}  (p1 : Int32) (h : f_X11_part p1 T = some q) : Cr 1 yX11_part cX11_part 4 (some .int) [.ref (ad 0), .int p1] ad true U T eI q := by
  refine cr_of (by decide) (Nat.le_of_ble_eq_true rfl) fun x S0 hn9 C M => ?_
  have C : CB x RX11 cX11_part := C
  refine Jr.eq (lv' := [(0, .ref (ad 0)), (1, .int p1)]) (st' := []) rfl rfl ?_
  unfold f_X11_part at h
  refine r_aload_n C dX11_part_0 rfl 0 rfl ?_
  refine r_geti (f := 1101) C flX11_53 dX11_part_1 kq_0 (by decide) (by decide) rfl ?_
  refine r_lbI h (fun v1 h => ?_)
  refine r_istore_n (lv' := [(2, .int v1), (0, .ref (ad 0)), (1, .int p1)]) C dX11_part_4 rfl (by rw [hn9]; decide) rfl ?_
  refine r_aload_n C dX11_part_5 rfl 1 rfl ?_
  refine r_iconst (v := 0) C dX11_part_6 (by decide) ?_
  show Jr _ _ _ _ _ _ 7 _
  refine r_puti (f := 1101) C flX11_53 (by decide) rfl rfl dX11_part_7 kq_0 rfl h (fun T2 h => ?_)
  refine r_iload_n C dX11_part_10 rfl 2 rfl ?_
  refine r_if_eq (tgt := 19) C dX11_part_11 (by decide) h (fun h => ?_) (fun h => ?_)
  · refine Jr.sub [1, 2, 0] (lv' := [(0, .ref (ad 0)), (1, .int p1), (2, .int v1)]) rfl ?_
    exact s_X11_part_19 hn9 C M  p1 v1 T2 h
  · refine r_iload_n C dX11_part_14 rfl 2 rfl ?_
    refine r_iconst (v := 1) C dX11_part_15 (by decide) ?_
    refine r_ic_ne (tgt := 35) C dX11_part_16 (by decide) h (fun h => ?_) (fun h => ?_)
    · refine r_iconst (v := (-1)) C dX11_part_35 (by decide) ?_
      exact r_iret C M dX11_part_36 h
    · refine Jr.sub [1, 2, 0] (lv' := [(0, .ref (ad 0)), (1, .int p1), (2, .int v1)]) rfl ?_
      exact s_X11_part_19 hn9 C M  p1 v1 T2 h
theorem dX11_drop_0 : decode cX11_drop 0 = .ok (.aload_n 0, 1) := by decide +kernel
theorem dX11_drop_1 : decode cX11_drop 1 = .ok (.getfield 60, 3) := by decide +kernel
theorem dX11_drop_4 : decode cX11_drop 4 = .ok (.istore_n 1, 1) := by decide +kernel
theorem dX11_drop_5 : decode cX11_drop 5 = .ok (.aload_n 0, 1) := by decide +kernel
theorem dX11_drop_6 : decode cX11_drop 6 = .ok (.iconst 0, 1) := by decide +kernel
theorem dX11_drop_7 : decode cX11_drop 7 = .ok (.putfield 60, 3) := by decide +kernel
theorem dX11_drop_10 : decode cX11_drop 10 = .ok (.iload_n 1, 1) := by decide +kernel
theorem dX11_drop_11 : decode cX11_drop 11 = .ok (.ireturn, 1) := by decide +kernel
noncomputable def f_X11_drop (T : Mm) : Option (Int32 × Mm) :=
  lb ((gI T 1105 0)) fun v1 =>
  lb (uI T 1105 0 0) fun T2 =>
  some (v1, T2)
set_option maxRecDepth 100000 in
set_option maxHeartbeats 4000000 in
theorem s_X11_drop {ad : Nat → Nat} {U T : Mm} {q : Int32 × Mm}  (h : f_X11_drop  T = some q) : Cr 1 yX11_drop cX11_drop 2 (some .int) [.ref (ad 0)] ad true U T eI q := by
  refine cr_of (by decide) (Nat.le_of_ble_eq_true rfl) fun x S0 hn9 C M => ?_
  have C : CB x RX11 cX11_drop := C
  refine Jr.eq (lv' := [(0, .ref (ad 0))]) (st' := []) rfl rfl ?_
  unfold f_X11_drop at h
  refine r_aload_n C dX11_drop_0 rfl 0 rfl ?_
  refine r_geti (f := 1105) C flX11_60 dX11_drop_1 kq_0 (by decide) (by decide) rfl ?_
  refine r_lbI h (fun v1 h => ?_)
  refine r_istore_n (lv' := [(1, .int v1), (0, .ref (ad 0))]) C dX11_drop_4 rfl (by rw [hn9]; decide) rfl ?_
  refine r_aload_n C dX11_drop_5 rfl 1 rfl ?_
  refine r_iconst (v := 0) C dX11_drop_6 (by decide) ?_
  show Jr _ _ _ _ _ _ 7 _
  refine r_puti (f := 1105) C flX11_60 (by decide) rfl rfl dX11_drop_7 kq_0 rfl h (fun T2 h => ?_)
  refine r_iload_n C dX11_drop_10 rfl 0 rfl ?_
  exact r_iret C M dX11_drop_11 h
theorem dX6_clear_0 : decode cX6_clear 0 = .ok (.aload_n 0, 1) := by decide +kernel
theorem dX6_clear_1 : decode cX6_clear 1 = .ok (.iconst 0, 1) := by decide +kernel
theorem dX6_clear_2 : decode cX6_clear 2 = .ok (.putfield 28, 3) := by decide +kernel
theorem dX6_clear_5 : decode cX6_clear 5 = .ok (.aload_n 0, 1) := by decide +kernel
theorem dX6_clear_6 : decode cX6_clear 6 = .ok (.iconst 0, 1) := by decide +kernel
theorem dX6_clear_7 : decode cX6_clear 7 = .ok (.putfield 32, 3) := by decide +kernel
theorem dX6_clear_10 : decode cX6_clear 10 = .ok (.aload_n 0, 1) := by decide +kernel
theorem dX6_clear_11 : decode cX6_clear 11 = .ok (.iconst 0, 1) := by decide +kernel
theorem dX6_clear_12 : decode cX6_clear 12 = .ok (.putfield 35, 3) := by decide +kernel
theorem dX6_clear_15 : decode cX6_clear 15 = .ok (.return_, 1) := by decide +kernel
noncomputable def f_X6_clear (T : Mm) : Option (Unit × Mm) :=
  lb (uI T 601 5 0) fun T1 =>
  lb (uI T1 602 5 0) fun T2 =>
  lb (uI T2 603 5 0) fun T3 =>
  some ((), T3)
set_option maxRecDepth 100000 in
set_option maxHeartbeats 4000000 in
theorem s_X6_clear {ad : Nat → Nat} {U T : Mm} {q : Unit × Mm}  (h : f_X6_clear  T = some q) : Cr 1 yX6_clear cX6_clear 1 none [.ref (ad 5)] ad true U T eV q := by
  refine cr_of (by decide) (Nat.le_of_ble_eq_true rfl) fun x S0 hn9 C M => ?_
  have C : CB x RX6 cX6_clear := C
  refine Jr.eq (lv' := [(0, .ref (ad 5))]) (st' := []) rfl rfl ?_
  unfold f_X6_clear at h
  refine r_aload_n C dX6_clear_0 rfl 0 rfl ?_
  refine r_iconst (v := 0) C dX6_clear_1 (by decide) ?_
  refine r_puti (f := 601) C flX6_28 (by decide) rfl rfl dX6_clear_2 kq_5 rfl h (fun T1 h => ?_)
  refine r_aload_n C dX6_clear_5 rfl 0 rfl ?_
  refine r_iconst (v := 0) C dX6_clear_6 (by decide) ?_
  show Jr _ _ _ _ _ _ 7 _
  refine r_puti (f := 602) C flX6_32 (by decide) rfl rfl dX6_clear_7 kq_5 rfl h (fun T2 h => ?_)
  refine r_aload_n C dX6_clear_10 rfl 0 rfl ?_
  refine r_iconst (v := 0) C dX6_clear_11 (by decide) ?_
  refine r_putz (f := 603) C flX6_35 (by decide) rfl rfl (by decide) dX6_clear_12 kq_5 rfl h (fun T3 h => ?_)
  exact r_vret C M dX6_clear_15 h
theorem dX0_clear_0 : decode cX0_clear 0 = .ok (.aload_n 0, 1) := by decide +kernel
theorem dX0_clear_1 : decode cX0_clear 1 = .ok (.iconst 0, 1) := by decide +kernel
theorem dX0_clear_2 : decode cX0_clear 2 = .ok (.putfield 39, 3) := by decide +kernel
theorem dX0_clear_5 : decode cX0_clear 5 = .ok (.aload_n 0, 1) := by decide +kernel
theorem dX0_clear_6 : decode cX0_clear 6 = .ok (.getfield 11, 3) := by decide +kernel
theorem dX0_clear_9 : decode cX0_clear 9 = .ok (.iconst 0, 1) := by decide +kernel
theorem dX0_clear_10 : decode cX0_clear 10 = .ok (.invokestatic 42, 3) := by decide +kernel
theorem dX0_clear_13 : decode cX0_clear 13 = .ok (.return_, 1) := by decide +kernel
noncomputable def f_X0_clear (T : Mm) : Option (Unit × Mm) :=
  lb (uI T 2 24 0) fun T1 =>
  bd (f_J7_fill_53178 25 0 T1) fun _ T2 =>
  some ((), T2)
set_option maxRecDepth 100000 in
set_option maxHeartbeats 4000000 in
theorem s_X0_clear {ad : Nat → Nat} {U T : Mm} {q : Unit × Mm}  (h : f_X0_clear  T = some q) : Cr 2 yX0_clear cX0_clear 1 none [.ref (ad 24)] ad true U T eV q := by
  refine cr_of (by decide) (Nat.le_of_ble_eq_true rfl) fun x S0 hn9 C M => ?_
  have C : CB x RX0 cX0_clear := C
  refine Jr.eq (lv' := [(0, .ref (ad 24))]) (st' := []) rfl rfl ?_
  unfold f_X0_clear at h
  refine r_aload_n C dX0_clear_0 rfl 0 rfl ?_
  refine r_iconst (v := 0) C dX0_clear_1 (by decide) ?_
  refine r_puti (f := 2) C flX0_39 (by decide) rfl rfl dX0_clear_2 kq_24 rfl h (fun T1 h => ?_)
  refine r_aload_n C dX0_clear_5 rfl 0 rfl ?_
  refine r_getp (f := 0) (j := 25) C flX0_11 dX0_clear_6 kq_24 (by decide) rfl (fun W => pt_0 kq_24 W) ?_
  show Jr _ _ _ _ _ _ 9 _
  refine r_iconst (v := 0) C dX0_clear_9 (by decide) ?_
  refine r_callSN C M h [.ref (ad 25), .int 0] [] mlX0_42 mcJ7_fill_53178 (fun q9 e9 => s_J7_fill_53178 25 0 kq_25 e9) (by decide) (by decide) rfl rfl (Nat.le_of_ble_eq_true rfl) dX0_clear_10 (fun _ T2 h => ?_)
  exact r_vret C M dX0_clear_13 h
theorem dX0_startJob_0 : decode cX0_startJob 0 = .ok (.aload_n 0, 1) := by decide +kernel
theorem dX0_startJob_1 : decode cX0_startJob 1 = .ok (.iconst 0, 1) := by decide +kernel
theorem dX0_startJob_2 : decode cX0_startJob 2 = .ok (.putfield 25, 3) := by decide +kernel
theorem dX0_startJob_5 : decode cX0_startJob 5 = .ok (.aload_n 0, 1) := by decide +kernel
theorem dX0_startJob_6 : decode cX0_startJob 6 = .ok (.iconst 0, 1) := by decide +kernel
theorem dX0_startJob_7 : decode cX0_startJob 7 = .ok (.putfield 29, 3) := by decide +kernel
theorem dX0_startJob_10 : decode cX0_startJob 10 = .ok (.aload_n 0, 1) := by decide +kernel
theorem dX0_startJob_11 : decode cX0_startJob 11 = .ok (.iconst 0, 1) := by decide +kernel
theorem dX0_startJob_12 : decode cX0_startJob 12 = .ok (.putfield 32, 3) := by decide +kernel
theorem dX0_startJob_15 : decode cX0_startJob 15 = .ok (.aload_n 0, 1) := by decide +kernel
theorem dX0_startJob_16 : decode cX0_startJob 16 = .ok (.invokevirtual 36, 3) := by decide +kernel
theorem dX0_startJob_19 : decode cX0_startJob 19 = .ok (.return_, 1) := by decide +kernel
noncomputable def f_X0_startJob (T : Mm) : Option (Unit × Mm) :=
  lb (uI T 3 24 0) fun T1 =>
  lb (uI T1 4 24 0) fun T2 =>
  lb (uI T2 5 24 0) fun T3 =>
  bd (f_X0_clear T3) fun _ T4 =>
  some ((), T4)
set_option maxRecDepth 100000 in
set_option maxHeartbeats 4000000 in
theorem s_X0_startJob {ad : Nat → Nat} {U T : Mm} {q : Unit × Mm}  (h : f_X0_startJob  T = some q) : Cr 3 yX0_startJob cX0_startJob 1 none [.ref (ad 24)] ad true U T eV q := by
  refine cr_of (by decide) (Nat.le_of_ble_eq_true rfl) fun x S0 hn9 C M => ?_
  have C : CB x RX0 cX0_startJob := C
  refine Jr.eq (lv' := [(0, .ref (ad 24))]) (st' := []) rfl rfl ?_
  unfold f_X0_startJob at h
  refine r_aload_n C dX0_startJob_0 rfl 0 rfl ?_
  refine r_iconst (v := 0) C dX0_startJob_1 (by decide) ?_
  refine r_puti (f := 3) C flX0_25 (by decide) rfl rfl dX0_startJob_2 kq_24 rfl h (fun T1 h => ?_)
  refine r_aload_n C dX0_startJob_5 rfl 0 rfl ?_
  refine r_iconst (v := 0) C dX0_startJob_6 (by decide) ?_
  show Jr _ _ _ _ _ _ 7 _
  refine r_puti (f := 4) C flX0_29 (by decide) rfl rfl dX0_startJob_7 kq_24 rfl h (fun T2 h => ?_)
  refine r_aload_n C dX0_startJob_10 rfl 0 rfl ?_
  refine r_iconst (v := 0) C dX0_startJob_11 (by decide) ?_
  refine r_putz (f := 5) C flX0_32 (by decide) rfl rfl (by decide) dX0_startJob_12 kq_24 rfl h (fun T3 h => ?_)
  refine r_aload_n C dX0_startJob_15 rfl 0 rfl ?_
  refine r_callVN C M h [] [] mlX0_36 mcX0_clear (fun q9 e9 => s_X0_clear   e9) kq_24 rfl (by decide) (by decide) rfl rfl (Nat.le_of_ble_eq_true rfl) dX0_startJob_16 (fun _ T4 h => ?_)
  show Jr _ _ _ _ _ _ 19 _
  exact r_vret C M dX0_startJob_19 h
theorem dX9_startJob_0 : decode cX9_startJob 0 = .ok (.aload_n 0, 1) := by decide +kernel
theorem dX9_startJob_1 : decode cX9_startJob 1 = .ok (.iconst 0, 1) := by decide +kernel
theorem dX9_startJob_2 : decode cX9_startJob 2 = .ok (.putfield 86, 3) := by decide +kernel
theorem dX9_startJob_5 : decode cX9_startJob 5 = .ok (.aload_n 0, 1) := by decide +kernel
theorem dX9_startJob_6 : decode cX9_startJob 6 = .ok (.getfield 12, 3) := by decide +kernel
theorem dX9_startJob_9 : decode cX9_startJob 9 = .ok (.invokevirtual 98, 3) := by decide +kernel
theorem dX9_startJob_12 : decode cX9_startJob 12 = .ok (.return_, 1) := by decide +kernel
noncomputable def f_X9_startJob (T : Mm) : Option (Unit × Mm) :=
  lb (uI T 916 23 0) fun T1 =>
  bd (f_X0_startJob T1) fun _ T2 =>
  some ((), T2)
set_option maxRecDepth 100000 in
set_option maxHeartbeats 4000000 in
theorem s_X9_startJob {ad : Nat → Nat} {U T : Mm} {q : Unit × Mm}  (h : f_X9_startJob  T = some q) : Cr 4 yX9_startJob cX9_startJob 1 none [.ref (ad 23)] ad true U T eV q := by
  refine cr_of (by decide) (Nat.le_of_ble_eq_true rfl) fun x S0 hn9 C M => ?_
  have C : CB x RX9 cX9_startJob := C
  refine Jr.eq (lv' := [(0, .ref (ad 23))]) (st' := []) rfl rfl ?_
  unfold f_X9_startJob at h
  refine r_aload_n C dX9_startJob_0 rfl 0 rfl ?_
  refine r_iconst (v := 0) C dX9_startJob_1 (by decide) ?_
  refine r_puti (f := 916) C flX9_86 (by decide) rfl rfl dX9_startJob_2 kq_23 rfl h (fun T1 h => ?_)
  refine r_aload_n C dX9_startJob_5 rfl 0 rfl ?_
  refine r_getp (f := 901) (j := 24) C flX9_12 dX9_startJob_6 kq_23 (by decide) rfl (fun W => pt_901 kq_23 W) ?_
  show Jr _ _ _ _ _ _ 9 _
  refine r_callVN C M h [] [] mlX9_98 mcX0_startJob (fun q9 e9 => s_X0_startJob   e9) kq_24 rfl (by decide) (by decide) rfl rfl (Nat.le_of_ble_eq_true rfl) dX9_startJob_9 (fun _ T2 h => ?_)
  exact r_vret C M dX9_startJob_12 h
theorem dX7_reset_0 : decode cX7_reset 0 = .ok (.aload_n 0, 1) := by decide +kernel
theorem dX7_reset_1 : decode cX7_reset 1 = .ok (.sipush 1200, 3) := by decide +kernel
theorem dX7_reset_4 : decode cX7_reset 4 = .ok (.putfield 40, 3) := by decide +kernel
theorem dX7_reset_7 : decode cX7_reset 7 = .ok (.aload_n 0, 1) := by decide +kernel
theorem dX7_reset_8 : decode cX7_reset 8 = .ok (.sipush 720, 3) := by decide +kernel
theorem dX7_reset_11 : decode cX7_reset 11 = .ok (.putfield 43, 3) := by decide +kernel
theorem dX7_reset_14 : decode cX7_reset 14 = .ok (.aload_n 0, 1) := by decide +kernel
theorem dX7_reset_15 : decode cX7_reset 15 = .ok (.iconst 0, 1) := by decide +kernel
theorem dX7_reset_16 : decode cX7_reset 16 = .ok (.putfield 46, 3) := by decide +kernel
theorem dX7_reset_19 : decode cX7_reset 19 = .ok (.aload_n 0, 1) := by decide +kernel
theorem dX7_reset_20 : decode cX7_reset 20 = .ok (.iconst 0, 1) := by decide +kernel
theorem dX7_reset_21 : decode cX7_reset 21 = .ok (.putfield 49, 3) := by decide +kernel
theorem dX7_reset_24 : decode cX7_reset 24 = .ok (.return_, 1) := by decide +kernel
noncomputable def f_X7_reset (p0 : Nat) (T : Mm) : Option (Unit × Mm) :=
  lb (uI T 708 p0 1200) fun T1 =>
  lb (uI T1 709 p0 720) fun T2 =>
  lb (uI T2 710 p0 0) fun T3 =>
  lb (uI T3 711 p0 0) fun T4 =>
  some ((), T4)
set_option maxRecDepth 100000 in
set_option maxHeartbeats 4000000 in
theorem s_X7_reset {ad : Nat → Nat} {U T : Mm} {q : Unit × Mm}  (p0 : Nat) (hk0 : kS true p0 = 7) (h : f_X7_reset p0 T = some q) : Cr 1 yX7_reset cX7_reset 1 none [.ref (ad p0)] ad true U T eV q := by
  refine cr_of (by decide) (Nat.le_of_ble_eq_true rfl) fun x S0 hn9 C M => ?_
  have C : CB x RX7 cX7_reset := C
  refine Jr.eq (lv' := [(0, .ref (ad p0))]) (st' := []) rfl rfl ?_
  unfold f_X7_reset at h
  refine r_aload_n C dX7_reset_0 rfl 0 rfl ?_
  refine r_sipush (v := 1200) C dX7_reset_1 (by decide) ?_
  refine r_puti (f := 708) C flX7_40 (by decide) rfl rfl dX7_reset_4 hk0 rfl h (fun T1 h => ?_)
  refine r_aload_n C dX7_reset_7 rfl 0 rfl ?_
  refine r_sipush (v := 720) C dX7_reset_8 (by decide) ?_
  show Jr _ _ _ _ _ _ 11 _
  refine r_puti (f := 709) C flX7_43 (by decide) rfl rfl dX7_reset_11 hk0 rfl h (fun T2 h => ?_)
  refine r_aload_n C dX7_reset_14 rfl 0 rfl ?_
  refine r_iconst (v := 0) C dX7_reset_15 (by decide) ?_
  refine r_puti (f := 710) C flX7_46 (by decide) rfl rfl dX7_reset_16 hk0 rfl h (fun T3 h => ?_)
  refine r_aload_n C dX7_reset_19 rfl 0 rfl ?_
  refine r_iconst (v := 0) C dX7_reset_20 (by decide) ?_
  show Jr _ _ _ _ _ _ 21 _
  refine r_puti (f := 711) C flX7_49 (by decide) rfl rfl dX7_reset_21 hk0 rfl h (fun T4 h => ?_)
  exact r_vret C M dX7_reset_24 h
theorem dX7_dotsDown_0 : decode cX7_dotsDown 0 = .ok (.aload_n 0, 1) := by decide +kernel
theorem dX7_dotsDown_1 : decode cX7_dotsDown 1 = .ok (.getfield 19, 3) := by decide +kernel
theorem dX7_dotsDown_4 : decode cX7_dotsDown 4 = .ok (.ifCond .ne 16, 3) := by decide +kernel
theorem dX7_dotsDown_7 : decode cX7_dotsDown 7 = .ok (.getstatic 78, 3) := by decide +kernel
theorem dX7_dotsDown_10 : decode cX7_dotsDown 10 = .ok (.aload_n 0, 1) := by decide +kernel
theorem dX7_dotsDown_11 : decode cX7_dotsDown 11 = .ok (.getfield 15, 3) := by decide +kernel
theorem dX7_dotsDown_14 : decode cX7_dotsDown 14 = .ok (.iconst 3, 1) := by decide +kernel
theorem dX7_dotsDown_15 : decode cX7_dotsDown 15 = .ok (.iand, 1) := by decide +kernel
theorem dX7_dotsDown_16 : decode cX7_dotsDown 16 = .ok (.iaload, 1) := by decide +kernel
theorem dX7_dotsDown_17 : decode cX7_dotsDown 17 = .ok (.goto 13, 3) := by decide +kernel
theorem dX7_dotsDown_20 : decode cX7_dotsDown 20 = .ok (.getstatic 75, 3) := by decide +kernel
theorem dX7_dotsDown_23 : decode cX7_dotsDown 23 = .ok (.aload_n 0, 1) := by decide +kernel
theorem dX7_dotsDown_24 : decode cX7_dotsDown 24 = .ok (.getfield 15, 3) := by decide +kernel
theorem dX7_dotsDown_27 : decode cX7_dotsDown 27 = .ok (.iconst 3, 1) := by decide +kernel
theorem dX7_dotsDown_28 : decode cX7_dotsDown 28 = .ok (.iand, 1) := by decide +kernel
theorem dX7_dotsDown_29 : decode cX7_dotsDown 29 = .ok (.iaload, 1) := by decide +kernel
theorem dX7_dotsDown_30 : decode cX7_dotsDown 30 = .ok (.ireturn, 1) := by decide +kernel
noncomputable def f_X7_dotsDown (p0 : Nat) (T : Mm) : Option (Int32 × Mm) :=
  if (gI T 701 p0) = 0 then (ix ((gI T 700 p0) &&& 3) 4 fun j3 =>
  some ((st_FORMAT_HIGH.getD j3 0), T))
  else (ix ((gI T 700 p0) &&& 3) 4 fun j1 =>
  some ((st_FORMAT_WIDE.getD j1 0), T))
set_option maxRecDepth 100000 in
set_option maxHeartbeats 4000000 in
theorem s_X7_dotsDown {ad : Nat → Nat} {U T : Mm} {q : Int32 × Mm}  (p0 : Nat) (hk0 : kS true p0 = 7) (h : f_X7_dotsDown p0 T = some q) : Cr 1 yX7_dotsDown cX7_dotsDown 1 (some .int) [.ref (ad p0)] ad true U T eI q := by
  refine cr_of (by decide) (Nat.le_of_ble_eq_true rfl) fun x S0 hn9 C M => ?_
  have C : CB x RX7 cX7_dotsDown := C
  refine Jr.eq (lv' := [(0, .ref (ad p0))]) (st' := []) rfl rfl ?_
  unfold f_X7_dotsDown at h
  refine r_aload_n C dX7_dotsDown_0 rfl 0 rfl ?_
  refine r_geti (f := 701) C flX7_19 dX7_dotsDown_1 hk0 (by decide) (by decide) rfl ?_
  refine r_if_ne (tgt := 20) C dX7_dotsDown_4 (by decide) h (fun h => ?_) (fun h => ?_)
  · refine r_gets C 0 rfl (Or.inr ⟨_, gsX7_75⟩) dX7_dotsDown_20 ?_
    refine r_aload_n C dX7_dotsDown_23 rfl 0 rfl ?_
    refine r_geti (f := 700) C flX7_15 dX7_dotsDown_24 hk0 (by decide) (by decide) rfl ?_
    refine r_iconst (v := 3) C dX7_dotsDown_27 (by decide) ?_
    refine r_iand C dX7_dotsDown_28 rfl ?_
    show Jr _ _ _ _ _ _ 29 _
    refine r_stld C 0 rfl (n := 4) rfl dX7_dotsDown_29 h (fun j1 hj2 h => ?_)
    exact r_iret C M dX7_dotsDown_30 h
  · refine r_gets C 1 rfl (Or.inr ⟨_, gsX7_78⟩) dX7_dotsDown_7 ?_
    refine r_aload_n C dX7_dotsDown_10 rfl 0 rfl ?_
    refine r_geti (f := 700) C flX7_15 dX7_dotsDown_11 hk0 (by decide) (by decide) rfl ?_
    refine r_iconst (v := 3) C dX7_dotsDown_14 (by decide) ?_
    refine r_iand C dX7_dotsDown_15 rfl ?_
    show Jr _ _ _ _ _ _ 16 _
    refine r_stld C 1 rfl (n := 4) rfl dX7_dotsDown_16 h (fun j3 hj4 h => ?_)
    refine r_goto (tgt := 30) C dX7_dotsDown_17 (by decide) ?_
    exact r_iret C M dX7_dotsDown_30 h
theorem dX7_down_0 : decode cX7_down 0 = .ok (.bipush 96, 2) := by decide +kernel
theorem dX7_down_2 : decode cX7_down 2 = .ok (.aload_n 0, 1) := by decide +kernel
theorem dX7_down_3 : decode cX7_down 3 = .ok (.invokevirtual 84, 3) := by decide +kernel
theorem dX7_down_6 : decode cX7_down 6 = .ok (.imul, 1) := by decide +kernel
theorem dX7_down_7 : decode cX7_down 7 = .ok (.ireturn, 1) := by decide +kernel
noncomputable def f_X7_down (p0 : Nat) (T : Mm) : Option (Int32 × Mm) :=
  bd (f_X7_dotsDown p0 T) fun v1 T2 =>
  some (((96 : Int32) * v1), T2)
set_option maxRecDepth 100000 in
set_option maxHeartbeats 4000000 in
theorem s_X7_down {ad : Nat → Nat} {U T : Mm} {q : Int32 × Mm}  (p0 : Nat) (hk0 : kS true p0 = 7) (h : f_X7_down p0 T = some q) : Cr 2 yX7_down cX7_down 1 (some .int) [.ref (ad p0)] ad true U T eI q := by
  refine cr_of (by decide) (Nat.le_of_ble_eq_true rfl) fun x S0 hn9 C M => ?_
  have C : CB x RX7 cX7_down := C
  refine Jr.eq (lv' := [(0, .ref (ad p0))]) (st' := []) rfl rfl ?_
  unfold f_X7_down at h
  refine r_bipush (v := 96) C dX7_down_0 (by decide) ?_
  refine r_aload_n C dX7_down_2 rfl 0 rfl ?_
  refine r_callVI C M h [] [.int 96] mlX7_84 mcX7_dotsDown (fun q9 e9 => s_X7_dotsDown p0 hk0 e9) hk0 rfl (by decide) (by decide) rfl rfl (Nat.le_of_ble_eq_true rfl) dX7_down_3 (fun v1 T2 h => ?_)
  refine r_imul C dX7_down_6 rfl ?_
  exact r_iret C M dX7_down_7 h
theorem dX7_dotsAcross_0 : decode cX7_dotsAcross 0 = .ok (.aload_n 0, 1) := by decide +kernel
theorem dX7_dotsAcross_1 : decode cX7_dotsAcross 1 = .ok (.getfield 19, 3) := by decide +kernel
theorem dX7_dotsAcross_4 : decode cX7_dotsAcross 4 = .ok (.ifCond .ne 16, 3) := by decide +kernel
theorem dX7_dotsAcross_7 : decode cX7_dotsAcross 7 = .ok (.getstatic 75, 3) := by decide +kernel
theorem dX7_dotsAcross_10 : decode cX7_dotsAcross 10 = .ok (.aload_n 0, 1) := by decide +kernel
theorem dX7_dotsAcross_11 : decode cX7_dotsAcross 11 = .ok (.getfield 15, 3) := by decide +kernel
theorem dX7_dotsAcross_14 : decode cX7_dotsAcross 14 = .ok (.iconst 3, 1) := by decide +kernel
theorem dX7_dotsAcross_15 : decode cX7_dotsAcross 15 = .ok (.iand, 1) := by decide +kernel
theorem dX7_dotsAcross_16 : decode cX7_dotsAcross 16 = .ok (.iaload, 1) := by decide +kernel
theorem dX7_dotsAcross_17 : decode cX7_dotsAcross 17 = .ok (.goto 13, 3) := by decide +kernel
theorem dX7_dotsAcross_20 : decode cX7_dotsAcross 20 = .ok (.getstatic 78, 3) := by decide +kernel
theorem dX7_dotsAcross_23 : decode cX7_dotsAcross 23 = .ok (.aload_n 0, 1) := by decide +kernel
theorem dX7_dotsAcross_24 : decode cX7_dotsAcross 24 = .ok (.getfield 15, 3) := by decide +kernel
theorem dX7_dotsAcross_27 : decode cX7_dotsAcross 27 = .ok (.iconst 3, 1) := by decide +kernel
theorem dX7_dotsAcross_28 : decode cX7_dotsAcross 28 = .ok (.iand, 1) := by decide +kernel
theorem dX7_dotsAcross_29 : decode cX7_dotsAcross 29 = .ok (.iaload, 1) := by decide +kernel
theorem dX7_dotsAcross_30 : decode cX7_dotsAcross 30 = .ok (.ireturn, 1) := by decide +kernel
noncomputable def f_X7_dotsAcross (p0 : Nat) (T : Mm) : Option (Int32 × Mm) :=
  if (gI T 701 p0) = 0 then (ix ((gI T 700 p0) &&& 3) 4 fun j3 =>
  some ((st_FORMAT_WIDE.getD j3 0), T))
  else (ix ((gI T 700 p0) &&& 3) 4 fun j1 =>
  some ((st_FORMAT_HIGH.getD j1 0), T))
set_option maxRecDepth 100000 in
set_option maxHeartbeats 4000000 in
theorem s_X7_dotsAcross {ad : Nat → Nat} {U T : Mm} {q : Int32 × Mm}  (p0 : Nat) (hk0 : kS true p0 = 7) (h : f_X7_dotsAcross p0 T = some q) : Cr 1 yX7_dotsAcross cX7_dotsAcross 1 (some .int) [.ref (ad p0)] ad true U T eI q := by
  refine cr_of (by decide) (Nat.le_of_ble_eq_true rfl) fun x S0 hn9 C M => ?_
  have C : CB x RX7 cX7_dotsAcross := C
  refine Jr.eq (lv' := [(0, .ref (ad p0))]) (st' := []) rfl rfl ?_
  unfold f_X7_dotsAcross at h
  refine r_aload_n C dX7_dotsAcross_0 rfl 0 rfl ?_
  refine r_geti (f := 701) C flX7_19 dX7_dotsAcross_1 hk0 (by decide) (by decide) rfl ?_
  refine r_if_ne (tgt := 20) C dX7_dotsAcross_4 (by decide) h (fun h => ?_) (fun h => ?_)
  · refine r_gets C 1 rfl (Or.inr ⟨_, gsX7_78⟩) dX7_dotsAcross_20 ?_
    refine r_aload_n C dX7_dotsAcross_23 rfl 0 rfl ?_
    refine r_geti (f := 700) C flX7_15 dX7_dotsAcross_24 hk0 (by decide) (by decide) rfl ?_
    refine r_iconst (v := 3) C dX7_dotsAcross_27 (by decide) ?_
    refine r_iand C dX7_dotsAcross_28 rfl ?_
    show Jr _ _ _ _ _ _ 29 _
    refine r_stld C 1 rfl (n := 4) rfl dX7_dotsAcross_29 h (fun j1 hj2 h => ?_)
    exact r_iret C M dX7_dotsAcross_30 h
  · refine r_gets C 0 rfl (Or.inr ⟨_, gsX7_75⟩) dX7_dotsAcross_7 ?_
    refine r_aload_n C dX7_dotsAcross_10 rfl 0 rfl ?_
    refine r_geti (f := 700) C flX7_15 dX7_dotsAcross_11 hk0 (by decide) (by decide) rfl ?_
    refine r_iconst (v := 3) C dX7_dotsAcross_14 (by decide) ?_
    refine r_iand C dX7_dotsAcross_15 rfl ?_
    show Jr _ _ _ _ _ _ 16 _
    refine r_stld C 0 rfl (n := 4) rfl dX7_dotsAcross_16 h (fun j3 hj4 h => ?_)
    refine r_goto (tgt := 30) C dX7_dotsAcross_17 (by decide) ?_
    exact r_iret C M dX7_dotsAcross_30 h
theorem dX7_across_0 : decode cX7_across 0 = .ok (.bipush 96, 2) := by decide +kernel
theorem dX7_across_2 : decode cX7_across 2 = .ok (.aload_n 0, 1) := by decide +kernel
theorem dX7_across_3 : decode cX7_across 3 = .ok (.invokevirtual 81, 3) := by decide +kernel
theorem dX7_across_6 : decode cX7_across 6 = .ok (.imul, 1) := by decide +kernel
theorem dX7_across_7 : decode cX7_across 7 = .ok (.ireturn, 1) := by decide +kernel
noncomputable def f_X7_across (p0 : Nat) (T : Mm) : Option (Int32 × Mm) :=
  bd (f_X7_dotsAcross p0 T) fun v1 T2 =>
  some (((96 : Int32) * v1), T2)
set_option maxRecDepth 100000 in
set_option maxHeartbeats 4000000 in
theorem s_X7_across {ad : Nat → Nat} {U T : Mm} {q : Int32 × Mm}  (p0 : Nat) (hk0 : kS true p0 = 7) (h : f_X7_across p0 T = some q) : Cr 2 yX7_across cX7_across 1 (some .int) [.ref (ad p0)] ad true U T eI q := by
  refine cr_of (by decide) (Nat.le_of_ble_eq_true rfl) fun x S0 hn9 C M => ?_
  have C : CB x RX7 cX7_across := C
  refine Jr.eq (lv' := [(0, .ref (ad p0))]) (st' := []) rfl rfl ?_
  unfold f_X7_across at h
  refine r_bipush (v := 96) C dX7_across_0 (by decide) ?_
  refine r_aload_n C dX7_across_2 rfl 0 rfl ?_
  refine r_callVI C M h [] [.int 96] mlX7_81 mcX7_dotsAcross (fun q9 e9 => s_X7_dotsAcross p0 hk0 e9) hk0 rfl (by decide) (by decide) rfl rfl (Nat.le_of_ble_eq_true rfl) dX7_across_3 (fun v1 T2 h => ?_)
  refine r_imul C dX7_across_6 rfl ?_
  exact r_iret C M dX7_across_7 h
theorem dX7_clearMargins_0 : decode cX7_clearMargins 0 = .ok (.aload_n 0, 1) := by decide +kernel
theorem dX7_clearMargins_1 : decode cX7_clearMargins 1 = .ok (.iconst 0, 1) := by decide +kernel
theorem dX7_clearMargins_2 : decode cX7_clearMargins 2 = .ok (.putfield 22, 3) := by decide +kernel
theorem dX7_clearMargins_5 : decode cX7_clearMargins 5 = .ok (.aload_n 0, 1) := by decide +kernel
theorem dX7_clearMargins_6 : decode cX7_clearMargins 6 = .ok (.aload_n 0, 1) := by decide +kernel
theorem dX7_clearMargins_7 : decode cX7_clearMargins 7 = .ok (.invokevirtual 72, 3) := by decide +kernel
theorem dX7_clearMargins_10 : decode cX7_clearMargins 10 = .ok (.putfield 25, 3) := by decide +kernel
theorem dX7_clearMargins_13 : decode cX7_clearMargins 13 = .ok (.return_, 1) := by decide +kernel
noncomputable def f_X7_clearMargins (p0 : Nat) (T : Mm) : Option (Unit × Mm) :=
  lb (uI T 702 p0 0) fun T1 =>
  bd (f_X7_across p0 T1) fun v2 T3 =>
  lb (uI T3 703 p0 v2) fun T4 =>
  some ((), T4)
set_option maxRecDepth 100000 in
set_option maxHeartbeats 4000000 in
theorem s_X7_clearMargins {ad : Nat → Nat} {U T : Mm} {q : Unit × Mm}  (p0 : Nat) (hk0 : kS true p0 = 7) (h : f_X7_clearMargins p0 T = some q) : Cr 3 yX7_clearMargins cX7_clearMargins 1 none [.ref (ad p0)] ad true U T eV q := by
  refine cr_of (by decide) (Nat.le_of_ble_eq_true rfl) fun x S0 hn9 C M => ?_
  have C : CB x RX7 cX7_clearMargins := C
  refine Jr.eq (lv' := [(0, .ref (ad p0))]) (st' := []) rfl rfl ?_
  unfold f_X7_clearMargins at h
  refine r_aload_n C dX7_clearMargins_0 rfl 0 rfl ?_
  refine r_iconst (v := 0) C dX7_clearMargins_1 (by decide) ?_
  refine r_puti (f := 702) C flX7_22 (by decide) rfl rfl dX7_clearMargins_2 hk0 rfl h (fun T1 h => ?_)
  refine r_aload_n C dX7_clearMargins_5 rfl 0 rfl ?_
  refine r_aload_n C dX7_clearMargins_6 rfl 0 rfl ?_
  show Jr _ _ _ _ _ _ 7 _
  refine r_callVI C M h [] [.ref (ad p0)] mlX7_72 mcX7_across (fun q9 e9 => s_X7_across p0 hk0 e9) hk0 rfl (by decide) (by decide) rfl rfl (Nat.le_of_ble_eq_true rfl) dX7_clearMargins_7 (fun v2 T3 h => ?_)
  refine r_puti (f := 703) C flX7_25 (by decide) rfl rfl dX7_clearMargins_10 hk0 rfl h (fun T4 h => ?_)
  exact r_vret C M dX7_clearMargins_13 h
theorem dX7_moveX_0 : decode cX7_moveX 0 = .ok (.aload_n 0, 1) := by decide +kernel
theorem dX7_moveX_1 : decode cX7_moveX 1 = .ok (.lconst 0, 1) := by decide +kernel
theorem dX7_moveX_2 : decode cX7_moveX 2 = .ok (.lload_n 1, 1) := by decide +kernel
theorem dX7_moveX_3 : decode cX7_moveX 3 = .ok (.bipush 96, 2) := by decide +kernel
theorem dX7_moveX_5 : decode cX7_moveX 5 = .ok (.aload_n 0, 1) := by decide +kernel
theorem dX7_moveX_6 : decode cX7_moveX 6 = .ok (.invokevirtual 81, 3) := by decide +kernel
theorem dX7_moveX_9 : decode cX7_moveX 9 = .ok (.imul, 1) := by decide +kernel
theorem dX7_moveX_10 : decode cX7_moveX 10 = .ok (.i2l, 1) := by decide +kernel
theorem dX7_moveX_11 : decode cX7_moveX 11 = .ok (.invokestatic 90, 3) := by decide +kernel
theorem dX7_moveX_14 : decode cX7_moveX 14 = .ok (.invokestatic 96, 3) := by decide +kernel
theorem dX7_moveX_17 : decode cX7_moveX 17 = .ok (.l2i, 1) := by decide +kernel
theorem dX7_moveX_18 : decode cX7_moveX 18 = .ok (.putfield 34, 3) := by decide +kernel
theorem dX7_moveX_21 : decode cX7_moveX 21 = .ok (.return_, 1) := by decide +kernel
noncomputable def f_X7_moveX (p0 : Nat) (p1 : Int64) (T : Mm) : Option (Unit × Mm) :=
  bd (f_X7_dotsAcross p0 T) fun v1 T2 =>
  bd (f_J9_min_f86c9 p1 ((((96 : Int32) * v1)).toInt64) T2) fun v3 T4 =>
  bd (f_J9_max_f86c9 0 v3 T4) fun v5 T6 =>
  lb (uI T6 706 p0 ((v5).toInt32)) fun T7 =>
  some ((), T7)
set_option maxRecDepth 100000 in
set_option maxHeartbeats 4000000 in
theorem s_X7_moveX {ad : Nat → Nat} {U T : Mm} {q : Unit × Mm}  (p0 : Nat) (p1 : Int64) (hk0 : kS true p0 = 7) (h : f_X7_moveX p0 p1 T = some q) : Cr 2 yX7_moveX cX7_moveX 3 none [.ref (ad p0), .long p1] ad true U T eV q := by
  refine cr_of (by decide) (Nat.le_of_ble_eq_true rfl) fun x S0 hn9 C M => ?_
  have C : CB x RX7 cX7_moveX := C
  refine Jr.eq (lv' := [(0, .ref (ad p0)), (1, .long p1)]) (st' := []) rfl rfl ?_
  unfold f_X7_moveX at h
  refine r_aload_n C dX7_moveX_0 rfl 0 rfl ?_
  refine r_lconst (v := 0) C dX7_moveX_1 (by decide) ?_
  refine r_lload_n C dX7_moveX_2 rfl 1 rfl ?_
  refine r_bipush (v := 96) C dX7_moveX_3 (by decide) ?_
  refine r_aload_n C dX7_moveX_5 rfl 0 rfl ?_
  show Jr _ _ _ _ _ _ 6 _
  refine r_callVI C M h [] [.int 96, .long p1, .long 0, .ref (ad p0)] mlX7_81 mcX7_dotsAcross (fun q9 e9 => s_X7_dotsAcross p0 hk0 e9) hk0 rfl (by decide) (by decide) rfl rfl (Nat.le_of_ble_eq_true rfl) dX7_moveX_6 (fun v1 T2 h => ?_)
  refine r_imul C dX7_moveX_9 rfl ?_
  refine r_i2l C dX7_moveX_10 rfl ?_
  refine r_callSJ C M h [.long p1, .long ((((96 : Int32) * v1)).toInt64)] [.long 0, .ref (ad p0)] mlX7_90 mcJ9_min_f86c9 (fun q9 e9 => s_J9_min_f86c9 p1 ((((96 : Int32) * v1)).toInt64)  e9) (by decide) (by decide) rfl rfl (Nat.le_of_ble_eq_true rfl) dX7_moveX_11 (fun v3 T4 h => ?_)
  refine r_callSJ C M h [.long 0, .long v3] [.ref (ad p0)] mlX7_96 mcJ9_max_f86c9 (fun q9 e9 => s_J9_max_f86c9 0 v3  e9) (by decide) (by decide) rfl rfl (Nat.le_of_ble_eq_true rfl) dX7_moveX_14 (fun v5 T6 h => ?_)
  refine r_l2i C dX7_moveX_17 rfl ?_
  show Jr _ _ _ _ _ _ 18 _
  refine r_puti (f := 706) C flX7_34 (by decide) rfl rfl dX7_moveX_18 hk0 rfl h (fun T7 h => ?_)
  exact r_vret C M dX7_moveX_21 h
theorem dX7_moveY_0 : decode cX7_moveY 0 = .ok (.aload_n 0, 1) := by decide +kernel
theorem dX7_moveY_1 : decode cX7_moveY 1 = .ok (.lconst 0, 1) := by decide +kernel
theorem dX7_moveY_2 : decode cX7_moveY 2 = .ok (.lload_n 1, 1) := by decide +kernel
theorem dX7_moveY_3 : decode cX7_moveY 3 = .ok (.bipush 96, 2) := by decide +kernel
theorem dX7_moveY_5 : decode cX7_moveY 5 = .ok (.aload_n 0, 1) := by decide +kernel
theorem dX7_moveY_6 : decode cX7_moveY 6 = .ok (.invokevirtual 84, 3) := by decide +kernel
theorem dX7_moveY_9 : decode cX7_moveY 9 = .ok (.imul, 1) := by decide +kernel
theorem dX7_moveY_10 : decode cX7_moveY 10 = .ok (.i2l, 1) := by decide +kernel
theorem dX7_moveY_11 : decode cX7_moveY 11 = .ok (.invokestatic 90, 3) := by decide +kernel
theorem dX7_moveY_14 : decode cX7_moveY 14 = .ok (.invokestatic 96, 3) := by decide +kernel
theorem dX7_moveY_17 : decode cX7_moveY 17 = .ok (.l2i, 1) := by decide +kernel
theorem dX7_moveY_18 : decode cX7_moveY 18 = .ok (.putfield 37, 3) := by decide +kernel
theorem dX7_moveY_21 : decode cX7_moveY 21 = .ok (.return_, 1) := by decide +kernel
noncomputable def f_X7_moveY (p0 : Nat) (p1 : Int64) (T : Mm) : Option (Unit × Mm) :=
  bd (f_X7_dotsDown p0 T) fun v1 T2 =>
  bd (f_J9_min_f86c9 p1 ((((96 : Int32) * v1)).toInt64) T2) fun v3 T4 =>
  bd (f_J9_max_f86c9 0 v3 T4) fun v5 T6 =>
  lb (uI T6 707 p0 ((v5).toInt32)) fun T7 =>
  some ((), T7)
set_option maxRecDepth 100000 in
set_option maxHeartbeats 4000000 in
theorem s_X7_moveY {ad : Nat → Nat} {U T : Mm} {q : Unit × Mm}  (p0 : Nat) (p1 : Int64) (hk0 : kS true p0 = 7) (h : f_X7_moveY p0 p1 T = some q) : Cr 2 yX7_moveY cX7_moveY 3 none [.ref (ad p0), .long p1] ad true U T eV q := by
  refine cr_of (by decide) (Nat.le_of_ble_eq_true rfl) fun x S0 hn9 C M => ?_
  have C : CB x RX7 cX7_moveY := C
  refine Jr.eq (lv' := [(0, .ref (ad p0)), (1, .long p1)]) (st' := []) rfl rfl ?_
  unfold f_X7_moveY at h
  refine r_aload_n C dX7_moveY_0 rfl 0 rfl ?_
  refine r_lconst (v := 0) C dX7_moveY_1 (by decide) ?_
  refine r_lload_n C dX7_moveY_2 rfl 1 rfl ?_
  refine r_bipush (v := 96) C dX7_moveY_3 (by decide) ?_
  refine r_aload_n C dX7_moveY_5 rfl 0 rfl ?_
  show Jr _ _ _ _ _ _ 6 _
  refine r_callVI C M h [] [.int 96, .long p1, .long 0, .ref (ad p0)] mlX7_84 mcX7_dotsDown (fun q9 e9 => s_X7_dotsDown p0 hk0 e9) hk0 rfl (by decide) (by decide) rfl rfl (Nat.le_of_ble_eq_true rfl) dX7_moveY_6 (fun v1 T2 h => ?_)
  refine r_imul C dX7_moveY_9 rfl ?_
  refine r_i2l C dX7_moveY_10 rfl ?_
  refine r_callSJ C M h [.long p1, .long ((((96 : Int32) * v1)).toInt64)] [.long 0, .ref (ad p0)] mlX7_90 mcJ9_min_f86c9 (fun q9 e9 => s_J9_min_f86c9 p1 ((((96 : Int32) * v1)).toInt64)  e9) (by decide) (by decide) rfl rfl (Nat.le_of_ble_eq_true rfl) dX7_moveY_11 (fun v3 T4 h => ?_)
  refine r_callSJ C M h [.long 0, .long v3] [.ref (ad p0)] mlX7_96 mcJ9_max_f86c9 (fun q9 e9 => s_J9_max_f86c9 0 v3  e9) (by decide) (by decide) rfl rfl (Nat.le_of_ble_eq_true rfl) dX7_moveY_14 (fun v5 T6 h => ?_)
  refine r_l2i C dX7_moveY_17 rfl ?_
  show Jr _ _ _ _ _ _ 18 _
  refine r_puti (f := 707) C flX7_37 (by decide) rfl rfl dX7_moveY_18 hk0 rfl h (fun T7 h => ?_)
  exact r_vret C M dX7_moveY_21 h
theorem dX7_homeY_0 : decode cX7_homeY 0 = .ok (.aload_n 0, 1) := by decide +kernel
theorem dX7_homeY_1 : decode cX7_homeY 1 = .ok (.aload_n 0, 1) := by decide +kernel
theorem dX7_homeY_2 : decode cX7_homeY 2 = .ok (.getfield 28, 3) := by decide +kernel
theorem dX7_homeY_5 : decode cX7_homeY 5 = .ok (.aload_n 0, 1) := by decide +kernel
theorem dX7_homeY_6 : decode cX7_homeY 6 = .ok (.getfield 40, 3) := by decide +kernel
theorem dX7_homeY_9 : decode cX7_homeY 9 = .ok (.iconst 3, 1) := by decide +kernel
theorem dX7_homeY_10 : decode cX7_homeY 10 = .ok (.imul, 1) := by decide +kernel
theorem dX7_homeY_11 : decode cX7_homeY 11 = .ok (.iconst 4, 1) := by decide +kernel
theorem dX7_homeY_12 : decode cX7_homeY 12 = .ok (.idiv, 1) := by decide +kernel
theorem dX7_homeY_13 : decode cX7_homeY 13 = .ok (.iadd, 1) := by decide +kernel
theorem dX7_homeY_14 : decode cX7_homeY 14 = .ok (.i2l, 1) := by decide +kernel
theorem dX7_homeY_15 : decode cX7_homeY 15 = .ok (.invokevirtual 87, 3) := by decide +kernel
theorem dX7_homeY_18 : decode cX7_homeY 18 = .ok (.return_, 1) := by decide +kernel
noncomputable def f_X7_homeY (p0 : Nat) (T : Mm) : Option (Unit × Mm) :=
  bd (f_X7_moveY p0 ((((gI T 704 p0) + (((gI T 708 p0) * 3) / 4))).toInt64) T) fun _ T1 =>
  some ((), T1)
set_option maxRecDepth 100000 in
set_option maxHeartbeats 4000000 in
theorem s_X7_homeY {ad : Nat → Nat} {U T : Mm} {q : Unit × Mm}  (p0 : Nat) (hk0 : kS true p0 = 7) (h : f_X7_homeY p0 T = some q) : Cr 3 yX7_homeY cX7_homeY 1 none [.ref (ad p0)] ad true U T eV q := by
  refine cr_of (by decide) (Nat.le_of_ble_eq_true rfl) fun x S0 hn9 C M => ?_
  have C : CB x RX7 cX7_homeY := C
  refine Jr.eq (lv' := [(0, .ref (ad p0))]) (st' := []) rfl rfl ?_
  unfold f_X7_homeY at h
  refine r_aload_n C dX7_homeY_0 rfl 0 rfl ?_
  refine r_aload_n C dX7_homeY_1 rfl 0 rfl ?_
  refine r_geti (f := 704) C flX7_28 dX7_homeY_2 hk0 (by decide) (by decide) rfl ?_
  refine r_aload_n C dX7_homeY_5 rfl 0 rfl ?_
  refine r_geti (f := 708) C flX7_40 dX7_homeY_6 hk0 (by decide) (by decide) rfl ?_
  show Jr _ _ _ _ _ _ 9 _
  refine r_iconst (v := 3) C dX7_homeY_9 (by decide) ?_
  refine r_imul C dX7_homeY_10 rfl ?_
  refine r_iconst (v := 4) C dX7_homeY_11 (by decide) ?_
  refine r_idiv C dX7_homeY_12 (by decide) rfl ?_
  refine r_iadd C dX7_homeY_13 rfl ?_
  refine r_i2l C dX7_homeY_14 rfl ?_
  show Jr _ _ _ _ _ _ 15 _
  refine r_callVN C M h [.long ((((gI T 704 p0) + (((gI T 708 p0) * 3) / 4))).toInt64)] [] mlX7_87 mcX7_moveY (fun q9 e9 => s_X7_moveY p0 ((((gI T 704 p0) + (((gI T 708 p0) * 3) / 4))).toInt64) hk0 e9) hk0 rfl (by decide) (by decide) rfl rfl (Nat.le_of_ble_eq_true rfl) dX7_homeY_15 (fun _ T1 h => ?_)
  exact r_vret C M dX7_homeY_18 h
theorem dX7_turn_0 : decode cX7_turn 0 = .ok (.aload_n 0, 1) := by decide +kernel
theorem dX7_turn_1 : decode cX7_turn 1 = .ok (.iload_n 1, 1) := by decide +kernel
theorem dX7_turn_2 : decode cX7_turn 2 = .ok (.putfield 15, 3) := by decide +kernel
theorem dX7_turn_5 : decode cX7_turn 5 = .ok (.aload_n 0, 1) := by decide +kernel
theorem dX7_turn_6 : decode cX7_turn 6 = .ok (.iload_n 2, 1) := by decide +kernel
theorem dX7_turn_7 : decode cX7_turn 7 = .ok (.putfield 19, 3) := by decide +kernel
theorem dX7_turn_10 : decode cX7_turn 10 = .ok (.aload_n 0, 1) := by decide +kernel
theorem dX7_turn_11 : decode cX7_turn 11 = .ok (.iconst 0, 1) := by decide +kernel
theorem dX7_turn_12 : decode cX7_turn 12 = .ok (.putfield 28, 3) := by decide +kernel
theorem dX7_turn_15 : decode cX7_turn 15 = .ok (.aload_n 0, 1) := by decide +kernel
theorem dX7_turn_16 : decode cX7_turn 16 = .ok (.aload_n 0, 1) := by decide +kernel
theorem dX7_turn_17 : decode cX7_turn 17 = .ok (.invokevirtual 58, 3) := by decide +kernel
theorem dX7_turn_20 : decode cX7_turn 20 = .ok (.putfield 31, 3) := by decide +kernel
theorem dX7_turn_23 : decode cX7_turn 23 = .ok (.aload_n 0, 1) := by decide +kernel
theorem dX7_turn_24 : decode cX7_turn 24 = .ok (.invokevirtual 62, 3) := by decide +kernel
theorem dX7_turn_27 : decode cX7_turn 27 = .ok (.aload_n 0, 1) := by decide +kernel
theorem dX7_turn_28 : decode cX7_turn 28 = .ok (.aload_n 0, 1) := by decide +kernel
theorem dX7_turn_29 : decode cX7_turn 29 = .ok (.getfield 22, 3) := by decide +kernel
theorem dX7_turn_32 : decode cX7_turn 32 = .ok (.i2l, 1) := by decide +kernel
theorem dX7_turn_33 : decode cX7_turn 33 = .ok (.invokevirtual 65, 3) := by decide +kernel
theorem dX7_turn_36 : decode cX7_turn 36 = .ok (.aload_n 0, 1) := by decide +kernel
theorem dX7_turn_37 : decode cX7_turn 37 = .ok (.invokevirtual 69, 3) := by decide +kernel
theorem dX7_turn_40 : decode cX7_turn 40 = .ok (.return_, 1) := by decide +kernel
noncomputable def f_X7_turn (p0 : Nat) (p1 : Int32) (p2 : Int32) (T : Mm) : Option (Unit × Mm) :=
  lb (uI T 700 p0 p1) fun T1 =>
  lb (uI T1 701 p0 p2) fun T2 =>
  lb (uI T2 704 p0 0) fun T3 =>
  bd (f_X7_down p0 T3) fun v4 T5 =>
  lb (uI T5 705 p0 v4) fun T6 =>
  bd (f_X7_clearMargins p0 T6) fun _ T7 =>
  bd (f_X7_moveX p0 (((gI T7 702 p0)).toInt64) T7) fun _ T8 =>
  bd (f_X7_homeY p0 T8) fun _ T9 =>
  some ((), T9)
set_option maxRecDepth 100000 in
set_option maxHeartbeats 4000000 in
theorem s_X7_turn {ad : Nat → Nat} {U T : Mm} {q : Unit × Mm}  (p0 : Nat) (p1 : Int32) (p2 : Int32) (hk0 : kS true p0 = 7) (h : f_X7_turn p0 p1 p2 T = some q) : Cr 4 yX7_turn cX7_turn 3 none [.ref (ad p0), .int p1, .int p2] ad true U T eV q := by
  refine cr_of (by decide) (Nat.le_of_ble_eq_true rfl) fun x S0 hn9 C M => ?_
  have C : CB x RX7 cX7_turn := C
  refine Jr.eq (lv' := [(0, .ref (ad p0)), (1, .int p1), (2, .int p2)]) (st' := []) rfl rfl ?_
  unfold f_X7_turn at h
  refine r_aload_n C dX7_turn_0 rfl 0 rfl ?_
  refine r_iload_n C dX7_turn_1 rfl 1 rfl ?_
  refine r_puti (f := 700) C flX7_15 (by decide) rfl rfl dX7_turn_2 hk0 rfl h (fun T1 h => ?_)
  refine r_aload_n C dX7_turn_5 rfl 0 rfl ?_
  refine r_iload_n C dX7_turn_6 rfl 2 rfl ?_
  show Jr _ _ _ _ _ _ 7 _
  refine r_puti (f := 701) C flX7_19 (by decide) rfl rfl dX7_turn_7 hk0 rfl h (fun T2 h => ?_)
  refine r_aload_n C dX7_turn_10 rfl 0 rfl ?_
  refine r_iconst (v := 0) C dX7_turn_11 (by decide) ?_
  refine r_puti (f := 704) C flX7_28 (by decide) rfl rfl dX7_turn_12 hk0 rfl h (fun T3 h => ?_)
  refine r_aload_n C dX7_turn_15 rfl 0 rfl ?_
  refine r_aload_n C dX7_turn_16 rfl 0 rfl ?_
  show Jr _ _ _ _ _ _ 17 _
  refine r_callVI C M h [] [.ref (ad p0)] mlX7_58 mcX7_down (fun q9 e9 => s_X7_down p0 hk0 e9) hk0 rfl (by decide) (by decide) rfl rfl (Nat.le_of_ble_eq_true rfl) dX7_turn_17 (fun v4 T5 h => ?_)
  refine r_puti (f := 705) C flX7_31 (by decide) rfl rfl dX7_turn_20 hk0 rfl h (fun T6 h => ?_)
  refine r_aload_n C dX7_turn_23 rfl 0 rfl ?_
  refine r_callVN C M h [] [] mlX7_62 mcX7_clearMargins (fun q9 e9 => s_X7_clearMargins p0 hk0 e9) hk0 rfl (by decide) (by decide) rfl rfl (Nat.le_of_ble_eq_true rfl) dX7_turn_24 (fun _ T7 h => ?_)
  refine r_aload_n C dX7_turn_27 rfl 0 rfl ?_
  refine r_aload_n C dX7_turn_28 rfl 0 rfl ?_
  show Jr _ _ _ _ _ _ 29 _
  refine r_geti (f := 702) C flX7_22 dX7_turn_29 hk0 (by decide) (by decide) rfl ?_
  refine r_i2l C dX7_turn_32 rfl ?_
  refine r_callVN C M h [.long (((gI T7 702 p0)).toInt64)] [] mlX7_65 mcX7_moveX (fun q9 e9 => s_X7_moveX p0 (((gI T7 702 p0)).toInt64) hk0 e9) hk0 rfl (by decide) (by decide) rfl rfl (Nat.le_of_ble_eq_true rfl) dX7_turn_33 (fun _ T8 h => ?_)
  refine r_aload_n C dX7_turn_36 rfl 0 rfl ?_
  refine r_callVN C M h [] [] mlX7_69 mcX7_homeY (fun q9 e9 => s_X7_homeY p0 hk0 e9) hk0 rfl (by decide) (by decide) rfl rfl (Nat.le_of_ble_eq_true rfl) dX7_turn_37 (fun _ T9 h => ?_)
  exact r_vret C M dX7_turn_40 h
theorem dX4_clearRow_0 : decode cX4_clearRow 0 = .ok (.aload_n 0, 1) := by decide +kernel
theorem dX4_clearRow_1 : decode cX4_clearRow 1 = .ok (.getfield 9, 3) := by decide +kernel
theorem dX4_clearRow_4 : decode cX4_clearRow 4 = .ok (.iconst 0, 1) := by decide +kernel
theorem dX4_clearRow_5 : decode cX4_clearRow 5 = .ok (.invokestatic 49, 3) := by decide +kernel
theorem dX4_clearRow_8 : decode cX4_clearRow 8 = .ok (.return_, 1) := by decide +kernel
noncomputable def f_X4_clearRow (p0 : Nat) (T : Mm) : Option (Unit × Mm) :=
  bd (f_J7_fill_53178 (p0 + 1) 0 T) fun _ T1 =>
  some ((), T1)
set_option maxRecDepth 100000 in
set_option maxHeartbeats 4000000 in
theorem s_X4_clearRow {ad : Nat → Nat} {U T : Mm} {q : Unit × Mm}  (p0 : Nat) (hk0 : kS true p0 = 4) (h : f_X4_clearRow p0 T = some q) : Cr 2 yX4_clearRow cX4_clearRow 1 none [.ref (ad p0)] ad true U T eV q := by
  refine cr_of (by decide) (Nat.le_of_ble_eq_true rfl) fun x S0 hn9 C M => ?_
  have C : CB x RX4 cX4_clearRow := C
  refine Jr.eq (lv' := [(0, .ref (ad p0))]) (st' := []) rfl rfl ?_
  unfold f_X4_clearRow at h
  refine r_aload_n C dX4_clearRow_0 rfl 0 rfl ?_
  refine r_getp (f := 407) (j := (p0 + 1)) C flX4_9 dX4_clearRow_1 hk0 (by decide) rfl (fun W => pt_407 hk0 W) ?_
  refine r_iconst (v := 0) C dX4_clearRow_4 (by decide) ?_
  refine r_callSN C M h [.ref (ad (p0 + 1)), .int 0] [] mlX4_49 mcJ7_fill_53178 (fun q9 e9 => s_J7_fill_53178 (p0 + 1) 0 (pk_407 hk0) e9) (by decide) (by decide) rfl rfl (Nat.le_of_ble_eq_true rfl) dX4_clearRow_5 (fun _ T1 h => ?_)
  exact r_vret C M dX4_clearRow_8 h
theorem dX4_end_0 : decode cX4_end 0 = .ok (.aload_n 0, 1) := by decide +kernel
theorem dX4_end_1 : decode cX4_end 1 = .ok (.iconst 0, 1) := by decide +kernel
theorem dX4_end_2 : decode cX4_end 2 = .ok (.putfield 26, 3) := by decide +kernel
theorem dX4_end_5 : decode cX4_end 5 = .ok (.iload_n 1, 1) := by decide +kernel
theorem dX4_end_6 : decode cX4_end 6 = .ok (.ifCond .eq 18, 3) := by decide +kernel
theorem dX4_end_9 : decode cX4_end 9 = .ok (.aload_n 0, 1) := by decide +kernel
theorem dX4_end_10 : decode cX4_end 10 = .ok (.iconst 0, 1) := by decide +kernel
theorem dX4_end_11 : decode cX4_end 11 = .ok (.putfield 17, 3) := by decide +kernel
theorem dX4_end_14 : decode cX4_end 14 = .ok (.aload_n 0, 1) := by decide +kernel
theorem dX4_end_15 : decode cX4_end 15 = .ok (.iconst 0, 1) := by decide +kernel
theorem dX4_end_16 : decode cX4_end 16 = .ok (.putfield 20, 3) := by decide +kernel
theorem dX4_end_19 : decode cX4_end 19 = .ok (.aload_n 0, 1) := by decide +kernel
theorem dX4_end_20 : decode cX4_end 20 = .ok (.iconst 0, 1) := by decide +kernel
theorem dX4_end_21 : decode cX4_end 21 = .ok (.putfield 23, 3) := by decide +kernel
theorem dX4_end_24 : decode cX4_end 24 = .ok (.return_, 1) := by decide +kernel
noncomputable def f_X4_end (p0 : Nat) (p1 : Int32) (T : Mm) : Option (Unit × Mm) :=
  lb (uI T 404 p0 0) fun T1 =>
  if p1 = 0 then (some ((), T1))
  else (lb (uI T1 401 p0 0) fun T2 =>
  lb (uI T2 402 p0 0) fun T3 =>
  lb (uI T3 403 p0 0) fun T4 =>
  some ((), T4))
set_option maxRecDepth 100000 in
set_option maxHeartbeats 4000000 in
theorem s_X4_end {ad : Nat → Nat} {U T : Mm} {q : Unit × Mm}  (p0 : Nat) (p1 : Int32) (hk0 : kS true p0 = 4) (h : f_X4_end p0 p1 T = some q) : Cr 1 yX4_end cX4_end 2 none [.ref (ad p0), .int p1] ad true U T eV q := by
  refine cr_of (by decide) (Nat.le_of_ble_eq_true rfl) fun x S0 hn9 C M => ?_
  have C : CB x RX4 cX4_end := C
  refine Jr.eq (lv' := [(0, .ref (ad p0)), (1, .int p1)]) (st' := []) rfl rfl ?_
  unfold f_X4_end at h
  refine r_aload_n C dX4_end_0 rfl 0 rfl ?_
  refine r_iconst (v := 0) C dX4_end_1 (by decide) ?_
  refine r_putz (f := 404) C flX4_26 (by decide) rfl rfl (by decide) dX4_end_2 hk0 rfl h (fun T1 h => ?_)
  refine r_iload_n C dX4_end_5 rfl 1 rfl ?_
  refine r_if_eq (tgt := 24) C dX4_end_6 (by decide) h (fun h => ?_) (fun h => ?_)
  · exact r_vret C M dX4_end_24 h
  · refine r_aload_n C dX4_end_9 rfl 0 rfl ?_
    refine r_iconst (v := 0) C dX4_end_10 (by decide) ?_
    refine r_puti (f := 401) C flX4_17 (by decide) rfl rfl dX4_end_11 hk0 rfl h (fun T2 h => ?_)
    refine r_aload_n C dX4_end_14 rfl 0 rfl ?_
    refine r_iconst (v := 0) C dX4_end_15 (by decide) ?_
    show Jr _ _ _ _ _ _ 16 _
    refine r_puti (f := 402) C flX4_20 (by decide) rfl rfl dX4_end_16 hk0 rfl h (fun T3 h => ?_)
    refine r_aload_n C dX4_end_19 rfl 0 rfl ?_
    refine r_iconst (v := 0) C dX4_end_20 (by decide) ?_
    refine r_puti (f := 403) C flX4_23 (by decide) rfl rfl dX4_end_21 hk0 rfl h (fun T4 h => ?_)
    exact r_vret C M dX4_end_24 h
theorem dX4_reset_0 : decode cX4_reset 0 = .ok (.aload_n 0, 1) := by decide +kernel
theorem dX4_reset_1 : decode cX4_reset 1 = .ok (.iconst 1, 1) := by decide +kernel
theorem dX4_reset_2 : decode cX4_reset 2 = .ok (.putfield 13, 3) := by decide +kernel
theorem dX4_reset_5 : decode cX4_reset 5 = .ok (.aload_n 0, 1) := by decide +kernel
theorem dX4_reset_6 : decode cX4_reset 6 = .ok (.iconst 0, 1) := by decide +kernel
theorem dX4_reset_7 : decode cX4_reset 7 = .ok (.putfield 30, 3) := by decide +kernel
theorem dX4_reset_10 : decode cX4_reset 10 = .ok (.aload_n 0, 1) := by decide +kernel
theorem dX4_reset_11 : decode cX4_reset 11 = .ok (.iconst 0, 1) := by decide +kernel
theorem dX4_reset_12 : decode cX4_reset 12 = .ok (.putfield 33, 3) := by decide +kernel
theorem dX4_reset_15 : decode cX4_reset 15 = .ok (.aload_n 0, 1) := by decide +kernel
theorem dX4_reset_16 : decode cX4_reset 16 = .ok (.invokevirtual 42, 3) := by decide +kernel
theorem dX4_reset_19 : decode cX4_reset 19 = .ok (.aload_n 0, 1) := by decide +kernel
theorem dX4_reset_20 : decode cX4_reset 20 = .ok (.iconst 1, 1) := by decide +kernel
theorem dX4_reset_21 : decode cX4_reset 21 = .ok (.invokevirtual 45, 3) := by decide +kernel
theorem dX4_reset_24 : decode cX4_reset 24 = .ok (.return_, 1) := by decide +kernel
noncomputable def f_X4_reset (p0 : Nat) (T : Mm) : Option (Unit × Mm) :=
  lb (uI T 400 p0 1) fun T1 =>
  lb (uI T1 405 p0 0) fun T2 =>
  lb (uI T2 406 p0 0) fun T3 =>
  bd (f_X4_clearRow p0 T3) fun _ T4 =>
  bd (f_X4_end p0 1 T4) fun _ T5 =>
  some ((), T5)
set_option maxRecDepth 100000 in
set_option maxHeartbeats 4000000 in
theorem s_X4_reset {ad : Nat → Nat} {U T : Mm} {q : Unit × Mm}  (p0 : Nat) (hk0 : kS true p0 = 4) (h : f_X4_reset p0 T = some q) : Cr 3 yX4_reset cX4_reset 1 none [.ref (ad p0)] ad true U T eV q := by
  refine cr_of (by decide) (Nat.le_of_ble_eq_true rfl) fun x S0 hn9 C M => ?_
  have C : CB x RX4 cX4_reset := C
  refine Jr.eq (lv' := [(0, .ref (ad p0))]) (st' := []) rfl rfl ?_
  unfold f_X4_reset at h
  refine r_aload_n C dX4_reset_0 rfl 0 rfl ?_
  refine r_iconst (v := 1) C dX4_reset_1 (by decide) ?_
  refine r_puti (f := 400) C flX4_13 (by decide) rfl rfl dX4_reset_2 hk0 rfl h (fun T1 h => ?_)
  refine r_aload_n C dX4_reset_5 rfl 0 rfl ?_
  refine r_iconst (v := 0) C dX4_reset_6 (by decide) ?_
  show Jr _ _ _ _ _ _ 7 _
  refine r_puti (f := 405) C flX4_30 (by decide) rfl rfl dX4_reset_7 hk0 rfl h (fun T2 h => ?_)
  refine r_aload_n C dX4_reset_10 rfl 0 rfl ?_
  refine r_iconst (v := 0) C dX4_reset_11 (by decide) ?_
  refine r_puti (f := 406) C flX4_33 (by decide) rfl rfl dX4_reset_12 hk0 rfl h (fun T3 h => ?_)
  refine r_aload_n C dX4_reset_15 rfl 0 rfl ?_
  refine r_callVN C M h [] [] mlX4_42 mcX4_clearRow (fun q9 e9 => s_X4_clearRow p0 hk0 e9) hk0 rfl (by decide) (by decide) rfl rfl (Nat.le_of_ble_eq_true rfl) dX4_reset_16 (fun _ T4 h => ?_)
  show Jr _ _ _ _ _ _ 19 _
  refine r_aload_n C dX4_reset_19 rfl 0 rfl ?_
  refine r_iconst (v := 1) C dX4_reset_20 (by decide) ?_
  refine r_callVN C M h [.int 1] [] mlX4_45 mcX4_end (fun q9 e9 => s_X4_end p0 1 hk0 e9) hk0 rfl (by decide) (by decide) rfl rfl (Nat.le_of_ble_eq_true rfl) dX4_reset_21 (fun _ T5 h => ?_)
  exact r_vret C M dX4_reset_24 h
noncomputable def f_X10_size (p0 : Nat) (p1 : Int32) (p2 : Int32) (T : Mm) : Option (Unit × Mm) :=
  bd (f_J9_min_7cf53 p1 16 T) fun v1 T2 =>
  bd (f_J9_max_7cf53 1 v1 T2) fun v3 T4 =>
  lb (uI T4 1000 p0 v3) fun T5 =>
  bd (f_J9_min_7cf53 p2 16 T5) fun v6 T7 =>
  bd (f_J9_max_7cf53 1 v6 T7) fun v8 T9 =>
  lb (uI T9 1001 p0 v8) fun T10 =>
  lb (uI T10 1002 p0 0) fun T11 =>
  some ((), T11)
set_option maxRecDepth 100000 in
set_option maxHeartbeats 4000000 in
theorem s_X10_size {ad : Nat → Nat} {U T : Mm} {q : Unit × Mm}  (p0 : Nat) (p1 : Int32) (p2 : Int32) (hk0 : kS true p0 = 10) (h : f_X10_size p0 p1 p2 T = some q) : Cr 2 yX10_size cX10_size 3 none [.ref (ad p0), .int p1, .int p2] ad true U T eV q := by
  refine cr_of (by decide) (Nat.le_of_ble_eq_true rfl) fun x S0 hn9 C M => ?_
  have C : CB x RX10 cX10_size := C
  refine Jr.eq (lv' := [(0, .ref (ad p0)), (1, .int p1), (2, .int p2)]) (st' := []) rfl rfl ?_
  unfold f_X10_size at h
  refine r_aload_n C dX10_size_0 rfl 0 rfl ?_
  refine r_iconst (v := 1) C dX10_size_1 (by decide) ?_
  refine r_iload_n C dX10_size_2 rfl 1 rfl ?_
  refine r_bipush (v := 16) C dX10_size_3 (by decide) ?_
  refine r_callSI C M h [.int p1, .int 16] [.int 1, .ref (ad p0)] mlX10_30 mcJ9_min_7cf53 (fun q9 e9 => s_J9_min_7cf53 p1 16  e9) (by decide) (by decide) rfl rfl (Nat.le_of_ble_eq_true rfl) dX10_size_5 (fun v1 T2 h => ?_)
  show Jr _ _ _ _ _ _ 8 _
  refine r_callSI C M h [.int 1, .int v1] [.ref (ad p0)] mlX10_36 mcJ9_max_7cf53 (fun q9 e9 => s_J9_max_7cf53 1 v1  e9) (by decide) (by decide) rfl rfl (Nat.le_of_ble_eq_true rfl) dX10_size_8 (fun v3 T4 h => ?_)
  refine r_puti (f := 1000) C flX10_7 (by decide) rfl rfl dX10_size_11 hk0 rfl h (fun T5 h => ?_)
  refine r_aload_n C dX10_size_14 rfl 0 rfl ?_
  refine r_iconst (v := 1) C dX10_size_15 (by decide) ?_
  refine r_iload_n C dX10_size_16 rfl 2 rfl ?_
  refine r_bipush (v := 16) C dX10_size_17 (by decide) ?_
  show Jr _ _ _ _ _ _ 19 _
  refine r_callSI C M h [.int p2, .int 16] [.int 1, .ref (ad p0)] mlX10_30 mcJ9_min_7cf53 (fun q9 e9 => s_J9_min_7cf53 p2 16  e9) (by decide) (by decide) rfl rfl (Nat.le_of_ble_eq_true rfl) dX10_size_19 (fun v6 T7 h => ?_)
  refine r_callSI C M h [.int 1, .int v6] [.ref (ad p0)] mlX10_36 mcJ9_max_7cf53 (fun q9 e9 => s_J9_max_7cf53 1 v6  e9) (by decide) (by decide) rfl rfl (Nat.le_of_ble_eq_true rfl) dX10_size_22 (fun v8 T9 h => ?_)
  refine r_puti (f := 1001) C flX10_13 (by decide) rfl rfl dX10_size_25 hk0 rfl h (fun T10 h => ?_)
  refine r_aload_n C dX10_size_28 rfl 0 rfl ?_
  refine r_iconst (v := 0) C dX10_size_29 (by decide) ?_
  refine r_putz (f := 1002) C flX10_20 (by decide) rfl rfl (by decide) dX10_size_30 hk0 rfl h (fun T11 h => ?_)
  show Jr _ _ _ _ _ _ 33 _
  exact r_vret C M dX10_size_33 h
noncomputable def f_X10_setRow_b18 (k18 : Nat → Int32 → Int32 → Int64 → Mm → Option (Unit × Mm)) (a0 : Nat) (a1 : Int32) (a3 : Int32) (a4 : Int64) (T : Mm) : Option (Unit × Mm) :=
  if 64 ≤ a3 then (if a1 < 0 then (some ((), T))
  else (if 16 ≤ a1 then (some ((), T))
  else (ix a1 16 fun j1 => lb (uB T (a0 + 1) j1 (a4)) fun T3 =>
  some ((), T3))))
  else (lb ((a4 ||| (((a4).toUInt64 >>> ((a3 : Int32).toInt64.toUInt64 &&& Int64.toUInt64 63)).toInt64))) fun v4 =>
  lb ((a3 * 2)) fun v5 =>
  k18 a0 a1 v5 v4 T)
set_option maxRecDepth 100000 in
set_option maxHeartbeats 4000000 in
theorem s_X10_setRow_b18 {x : JX} {ad : Nat → Nat} {U : Mm} {S0 : Hp} {q : Unit × Mm}  {k18 : Nat → Int32 → Int32 → Int64 → Mm → Option (Unit × Mm)} (hn9 : x_n x = 6) (C : CB x RX10 cX10_setRow) (M : CMr x 2 none S0 ad true U eV q) (hk18 : ∀ (a0 : Nat) (a1 : Int32) (a3 : Int32) (a4 : Int64) (T : Mm) (_ : kS true a0 = 10), k18 a0 a1 a3 a4 T = some q → Jr x ad true U T [(0, .ref (ad a0)), (1, .int a1), (3, .int a3), (4, .long a4)] 18 []) (a0 : Nat) (a1 : Int32) (a3 : Int32) (a4 : Int64) (T : Mm) (ha0 : kS true a0 = 10) (h : f_X10_setRow_b18 k18 a0 a1 a3 a4 T = some q) : Jr x ad true U T [(0, .ref (ad a0)), (1, .int a1), (3, .int a3), (4, .long a4)] 18 [] := by
  unfold f_X10_setRow_b18 at h
  refine r_iload_n C dX10_setRow_18 rfl 2 rfl ?_
  refine r_bipush (v := 64) C dX10_setRow_19 (by decide) ?_
  refine r_ic_ge (tgt := 40) C dX10_setRow_21 (by decide) h (fun h => ?_) (fun h => ?_)
  · refine r_iload_n C dX10_setRow_40 rfl 1 rfl ?_
    refine r_if_lt (tgt := 61) C dX10_setRow_41 (by decide) h (fun h => ?_) (fun h => ?_)
    · exact r_vret C M dX10_setRow_61 h
    · refine r_iload_n C dX10_setRow_44 rfl 1 rfl ?_
      refine r_aload_n C dX10_setRow_45 rfl 0 rfl ?_
      refine r_getp (f := 1003) (j := (a0 + 1)) C flX10_16 dX10_setRow_46 ha0 (by decide) rfl (fun W => pt_1003 ha0 W) ?_
      refine r_alen (n := 0) (v := 16) C dX10_setRow_49 (pk_1003 ha0) (by decide) (by decide) (congrArg Int32.ofNat (pl_1003 ha0)) ?_
      refine r_ic_ge (tgt := 61) C dX10_setRow_50 (by decide) h (fun h => ?_) (fun h => ?_)
      · exact r_vret C M dX10_setRow_61 h
      · refine r_aload_n C dX10_setRow_53 rfl 0 rfl ?_
        refine r_getp (f := 1003) (j := (a0 + 1)) C flX10_16 dX10_setRow_54 ha0 (by decide) rfl (fun W => pt_1003 ha0 W) ?_
        refine r_iload_n C dX10_setRow_57 rfl 1 rfl ?_
        refine r_lload C dX10_setRow_58 3 rfl ?_
        refine r_last (n := 16) C dX10_setRow_60 (pk_1003 ha0) (pl_1003 ha0) h (fun j1 T3 hj2 h => ?_)
        show Jr _ _ _ _ _ _ 61 _
        exact r_vret C M dX10_setRow_61 h
  · refine r_lload C dX10_setRow_24 3 rfl ?_
    refine r_lload C dX10_setRow_26 3 rfl ?_
    refine r_iload_n C dX10_setRow_28 rfl 2 rfl ?_
    refine r_lushr C dX10_setRow_29 rfl ?_
    refine r_lor C dX10_setRow_30 rfl ?_
    show Jr _ _ _ _ _ _ 31 _
    refine r_lbJ h (fun v4 h => ?_)
    refine r_lstore (lv' := [(4, .long v4), (0, .ref (ad a0)), (1, .int a1), (3, .int a3)]) C dX10_setRow_31 (by rw [hn9]; decide) rfl ?_
    refine r_iload_n C dX10_setRow_33 rfl 3 rfl ?_
    refine r_iconst (v := 2) C dX10_setRow_34 (by decide) ?_
    refine r_imul C dX10_setRow_35 rfl ?_
    refine r_lbI h (fun v5 h => ?_)
    refine r_istore_n (lv' := [(3, .int v5), (4, .long v4), (0, .ref (ad a0)), (1, .int a1)]) C dX10_setRow_36 rfl (by rw [hn9]; decide) rfl ?_
    refine r_goto (tgt := 18) C dX10_setRow_37 (by decide) ?_
    refine Jr.sub [2, 3, 0, 1] (lv' := [(0, .ref (ad a0)), (1, .int a1), (3, .int v5), (4, .long v4)]) rfl ?_
    exact hk18 a0 a1 v5 v4 T ha0 h
noncomputable def f_X10_setRow_l18 (n : Nat) : Nat → Int32 → Int32 → Int64 → Mm → Option (Unit × Mm) := Nat.rec (fun _ _ _ _ _ => none) (fun _ ih => f_X10_setRow_b18 ih) n
theorem s_X10_setRow_l18 {x : JX} {ad : Nat → Nat} {U : Mm} {S0 : Hp} {q : Unit × Mm}  (hn9 : x_n x = 6) (C : CB x RX10 cX10_setRow) (M : CMr x 2 none S0 ad true U eV q) : ∀ (n : Nat), ∀ (a0 : Nat) (a1 : Int32) (a3 : Int32) (a4 : Int64) (T : Mm) (_ : kS true a0 = 10), f_X10_setRow_l18  n a0 a1 a3 a4 T = some q → Jr x ad true U T [(0, .ref (ad a0)), (1, .int a1), (3, .int a3), (4, .long a4)] 18 [] := by
  intro n
  induction n with
  | zero => intro a0 a1 a3 a4 T _ h; exact absurd h (by intro h; cases h)
  | succ n ih => exact fun a0 a1 a3 a4 T ha0 h => s_X10_setRow_b18 hn9 C M (ih) a0 a1 a3 a4 T ha0 h
noncomputable def f_X10_setRow (p0 : Nat) (p1 : Int32) (p2 : Int32) (T : Mm) : Option (Unit × Mm) :=
  bd (f_J9_max_7cf53 (gI T 1000 p0) 1 T) fun v1 T2 =>
  lb ((((p2).toInt64) <<< ((((64 : Int32) - v1) : Int32).toInt64 &&& 63))) fun v3 =>
  f_X10_setRow_l18 FU p0 p1 v1 v3 T2
set_option maxRecDepth 100000 in
set_option maxHeartbeats 4000000 in
theorem s_X10_setRow {ad : Nat → Nat} {U T : Mm} {q : Unit × Mm}  (p0 : Nat) (p1 : Int32) (p2 : Int32) (hk0 : kS true p0 = 10) (h : f_X10_setRow p0 p1 p2 T = some q) : Cr 2 yX10_setRow cX10_setRow 6 none [.ref (ad p0), .int p1, .int p2] ad true U T eV q := by
  refine cr_of (by decide) (Nat.le_of_ble_eq_true rfl) fun x S0 hn9 C M => ?_
  have C : CB x RX10 cX10_setRow := C
  refine Jr.eq (lv' := [(0, .ref (ad p0)), (1, .int p1), (2, .int p2)]) (st' := []) rfl rfl ?_
  unfold f_X10_setRow at h
  refine r_aload_n C dX10_setRow_0 rfl 0 rfl ?_
  refine r_geti (f := 1000) C flX10_7 dX10_setRow_1 hk0 (by decide) (by decide) rfl ?_
  refine r_iconst (v := 1) C dX10_setRow_4 (by decide) ?_
  refine r_callSI C M h [.int (gI T 1000 p0), .int 1] [] mlX10_36 mcJ9_max_7cf53 (fun q9 e9 => s_J9_max_7cf53 (gI T 1000 p0) 1  e9) (by decide) (by decide) rfl rfl (Nat.le_of_ble_eq_true rfl) dX10_setRow_5 (fun v1 T2 h => ?_)
  refine r_istore_n (lv' := [(3, .int v1), (0, .ref (ad p0)), (1, .int p1), (2, .int p2)]) C dX10_setRow_8 rfl (by rw [hn9]; decide) rfl ?_
  show Jr _ _ _ _ _ _ 9 _
  refine r_iload_n C dX10_setRow_9 rfl 3 rfl ?_
  refine r_i2l C dX10_setRow_10 rfl ?_
  refine r_bipush (v := 64) C dX10_setRow_11 (by decide) ?_
  refine r_iload_n C dX10_setRow_13 rfl 0 rfl ?_
  refine r_isub C dX10_setRow_14 rfl ?_
  refine r_lshl C dX10_setRow_15 rfl ?_
  show Jr _ _ _ _ _ _ 16 _
  refine r_lbJ h (fun v3 h => ?_)
  refine r_lstore (lv' := [(4, .long v3), (3, .int v1), (0, .ref (ad p0)), (1, .int p1), (2, .int p2)]) C dX10_setRow_16 (by rw [hn9]; decide) rfl ?_
  refine Jr.sub [2, 3, 1, 0] (lv' := [(0, .ref (ad p0)), (1, .int p1), (3, .int v1), (4, .long v3)]) rfl ?_
  exact s_X10_setRow_l18 hn9 C M  FU p0 p1 v1 v3 T2 hk0 h
noncomputable def f_X10_solid (p0 : Nat) (T : Mm) : Option (Unit × Mm) :=
  bd (f_X10_size p0 1 1 T) fun _ T1 =>
  bd (f_X10_setRow p0 0 1 T1) fun _ T2 =>
  some ((), T2)
set_option maxRecDepth 100000 in
set_option maxHeartbeats 4000000 in
theorem s_X10_solid {ad : Nat → Nat} {U T : Mm} {q : Unit × Mm}  (p0 : Nat) (hk0 : kS true p0 = 10) (h : f_X10_solid p0 T = some q) : Cr 3 yX10_solid cX10_solid 1 none [.ref (ad p0)] ad true U T eV q := by
  refine cr_of (by decide) (Nat.le_of_ble_eq_true rfl) fun x S0 hn9 C M => ?_
  have C : CB x RX10 cX10_solid := C
  refine Jr.eq (lv' := [(0, .ref (ad p0))]) (st' := []) rfl rfl ?_
  unfold f_X10_solid at h
  refine r_aload_n C dX10_solid_0 rfl 0 rfl ?_
  refine r_iconst (v := 1) C dX10_solid_1 (by decide) ?_
  refine r_iconst (v := 1) C dX10_solid_2 (by decide) ?_
  refine r_callVN C M h [.int 1, .int 1] [] mlX10_39 mcX10_size (fun q9 e9 => s_X10_size p0 1 1 hk0 e9) hk0 rfl (by decide) (by decide) rfl rfl (Nat.le_of_ble_eq_true rfl) dX10_solid_3 (fun _ T1 h => ?_)
  refine r_aload_n C dX10_solid_6 rfl 0 rfl ?_
  show Jr _ _ _ _ _ _ 7 _
  refine r_iconst (v := 0) C dX10_solid_7 (by decide) ?_
  refine r_iconst (v := 1) C dX10_solid_8 (by decide) ?_
  refine r_callVN C M h [.int 0, .int 1] [] mlX10_43 mcX10_setRow (fun q9 e9 => s_X10_setRow p0 0 1 hk0 e9) hk0 rfl (by decide) (by decide) rfl rfl (Nat.le_of_ble_eq_true rfl) dX10_solid_9 (fun _ T2 h => ?_)
  exact r_vret C M dX10_solid_12 h
theorem dX1_reset_0 : decode cX1_reset 0 = .ok (.aload_n 0, 1) := by decide +kernel
theorem dX1_reset_1 : decode cX1_reset 1 = .ok (.getfield 12, 3) := by decide +kernel
theorem dX1_reset_4 : decode cX1_reset 4 = .ok (.invokevirtual 107, 3) := by decide +kernel
theorem dX1_reset_7 : decode cX1_reset 7 = .ok (.aload_n 0, 1) := by decide +kernel
theorem dX1_reset_8 : decode cX1_reset 8 = .ok (.getfield 12, 3) := by decide +kernel
theorem dX1_reset_11 : decode cX1_reset 11 = .ok (.iload_n 1, 1) := by decide +kernel
theorem dX1_reset_12 : decode cX1_reset 12 = .ok (.iload_n 2, 1) := by decide +kernel
theorem dX1_reset_13 : decode cX1_reset 13 = .ok (.invokevirtual 110, 3) := by decide +kernel
theorem dX1_reset_16 : decode cX1_reset 16 = .ok (.aload_n 0, 1) := by decide +kernel
theorem dX1_reset_17 : decode cX1_reset 17 = .ok (.getfield 21, 3) := by decide +kernel
theorem dX1_reset_20 : decode cX1_reset 20 = .ok (.invokevirtual 114, 3) := by decide +kernel
theorem dX1_reset_23 : decode cX1_reset 23 = .ok (.aload_n 0, 1) := by decide +kernel
theorem dX1_reset_24 : decode cX1_reset 24 = .ok (.getfield 28, 3) := by decide +kernel
theorem dX1_reset_27 : decode cX1_reset 27 = .ok (.invokevirtual 115, 3) := by decide +kernel
theorem dX1_reset_30 : decode cX1_reset 30 = .ok (.aload_n 0, 1) := by decide +kernel
theorem dX1_reset_31 : decode cX1_reset 31 = .ok (.getfield 34, 3) := by decide +kernel
theorem dX1_reset_34 : decode cX1_reset 34 = .ok (.invokestatic 118, 3) := by decide +kernel
theorem dX1_reset_37 : decode cX1_reset 37 = .ok (.aload_n 0, 1) := by decide +kernel
theorem dX1_reset_38 : decode cX1_reset 38 = .ok (.getfield 38, 3) := by decide +kernel
theorem dX1_reset_41 : decode cX1_reset 41 = .ok (.invokestatic 118, 3) := by decide +kernel
theorem dX1_reset_44 : decode cX1_reset 44 = .ok (.aload_n 0, 1) := by decide +kernel
theorem dX1_reset_45 : decode cX1_reset 45 = .ok (.iconst 0, 1) := by decide +kernel
theorem dX1_reset_46 : decode cX1_reset 46 = .ok (.putfield 57, 3) := by decide +kernel
theorem dX1_reset_49 : decode cX1_reset 49 = .ok (.aload_n 0, 1) := by decide +kernel
theorem dX1_reset_50 : decode cX1_reset 50 = .ok (.iconst 1, 1) := by decide +kernel
theorem dX1_reset_51 : decode cX1_reset 51 = .ok (.putfield 61, 3) := by decide +kernel
theorem dX1_reset_54 : decode cX1_reset 54 = .ok (.aload_n 0, 1) := by decide +kernel
theorem dX1_reset_55 : decode cX1_reset 55 = .ok (.iconst 0, 1) := by decide +kernel
theorem dX1_reset_56 : decode cX1_reset 56 = .ok (.putfield 65, 3) := by decide +kernel
theorem dX1_reset_59 : decode cX1_reset 59 = .ok (.aload_n 0, 1) := by decide +kernel
theorem dX1_reset_60 : decode cX1_reset 60 = .ok (.iconst 0, 1) := by decide +kernel
theorem dX1_reset_61 : decode cX1_reset 61 = .ok (.putfield 68, 3) := by decide +kernel
theorem dX1_reset_64 : decode cX1_reset 64 = .ok (.aload_n 0, 1) := by decide +kernel
theorem dX1_reset_65 : decode cX1_reset 65 = .ok (.iconst 0, 1) := by decide +kernel
theorem dX1_reset_66 : decode cX1_reset 66 = .ok (.putfield 71, 3) := by decide +kernel
theorem dX1_reset_69 : decode cX1_reset 69 = .ok (.aload_n 0, 1) := by decide +kernel
theorem dX1_reset_70 : decode cX1_reset 70 = .ok (.iconst 0, 1) := by decide +kernel
theorem dX1_reset_71 : decode cX1_reset 71 = .ok (.putfield 74, 3) := by decide +kernel
theorem dX1_reset_74 : decode cX1_reset 74 = .ok (.aload_n 0, 1) := by decide +kernel
theorem dX1_reset_75 : decode cX1_reset 75 = .ok (.iconst 0, 1) := by decide +kernel
theorem dX1_reset_76 : decode cX1_reset 76 = .ok (.putfield 77, 3) := by decide +kernel
theorem dX1_reset_79 : decode cX1_reset 79 = .ok (.aload_n 0, 1) := by decide +kernel
theorem dX1_reset_80 : decode cX1_reset 80 = .ok (.iconst 0, 1) := by decide +kernel
theorem dX1_reset_81 : decode cX1_reset 81 = .ok (.putfield 80, 3) := by decide +kernel
theorem dX1_reset_84 : decode cX1_reset 84 = .ok (.aload_n 0, 1) := by decide +kernel
theorem dX1_reset_85 : decode cX1_reset 85 = .ok (.iconst 0, 1) := by decide +kernel
theorem dX1_reset_86 : decode cX1_reset 86 = .ok (.putfield 83, 3) := by decide +kernel
theorem dX1_reset_89 : decode cX1_reset 89 = .ok (.aload_n 0, 1) := by decide +kernel
theorem dX1_reset_90 : decode cX1_reset 90 = .ok (.iconst 0, 1) := by decide +kernel
theorem dX1_reset_91 : decode cX1_reset 91 = .ok (.putfield 86, 3) := by decide +kernel
theorem dX1_reset_94 : decode cX1_reset 94 = .ok (.aload_n 0, 1) := by decide +kernel
theorem dX1_reset_95 : decode cX1_reset 95 = .ok (.iconst 0, 1) := by decide +kernel
theorem dX1_reset_96 : decode cX1_reset 96 = .ok (.putfield 89, 3) := by decide +kernel
theorem dX1_reset_99 : decode cX1_reset 99 = .ok (.aload_n 0, 1) := by decide +kernel
theorem dX1_reset_100 : decode cX1_reset 100 = .ok (.iconst 0, 1) := by decide +kernel
theorem dX1_reset_101 : decode cX1_reset 101 = .ok (.putfield 92, 3) := by decide +kernel
theorem dX1_reset_104 : decode cX1_reset 104 = .ok (.aload_n 0, 1) := by decide +kernel
theorem dX1_reset_105 : decode cX1_reset 105 = .ok (.iconst 0, 1) := by decide +kernel
theorem dX1_reset_106 : decode cX1_reset 106 = .ok (.putfield 95, 3) := by decide +kernel
theorem dX1_reset_109 : decode cX1_reset 109 = .ok (.aload_n 0, 1) := by decide +kernel
theorem dX1_reset_110 : decode cX1_reset 110 = .ok (.iconst 0, 1) := by decide +kernel
theorem dX1_reset_111 : decode cX1_reset 111 = .ok (.putfield 98, 3) := by decide +kernel
theorem dX1_reset_114 : decode cX1_reset 114 = .ok (.aload_n 0, 1) := by decide +kernel
theorem dX1_reset_115 : decode cX1_reset 115 = .ok (.iconst 0, 1) := by decide +kernel
theorem dX1_reset_116 : decode cX1_reset 116 = .ok (.putfield 101, 3) := by decide +kernel
theorem dX1_reset_119 : decode cX1_reset 119 = .ok (.aload_n 0, 1) := by decide +kernel
theorem dX1_reset_120 : decode cX1_reset 120 = .ok (.iconst (-1), 1) := by decide +kernel
theorem dX1_reset_121 : decode cX1_reset 121 = .ok (.putfield 104, 3) := by decide +kernel
theorem dX1_reset_124 : decode cX1_reset 124 = .ok (.return_, 1) := by decide +kernel
noncomputable def f_X1_reset (p0 : Nat) (p1 : Int32) (p2 : Int32) (T : Mm) : Option (Unit × Mm) :=
  bd (f_X7_reset (p0 + 1) T) fun _ T1 =>
  bd (f_X7_turn (p0 + 1) p1 p2 T1) fun _ T2 =>
  bd (f_X4_reset (p0 + 3) T2) fun _ T3 =>
  bd (f_X10_solid (p0 + 5) T3) fun _ T4 =>
  bd (f_X2_firstWishes (p0 + 7) T4) fun _ T5 =>
  bd (f_X2_firstWishes (p0 + 8) T5) fun _ T6 =>
  lb (uI T6 105 p0 0) fun T7 =>
  lb (uI T7 106 p0 1) fun T8 =>
  lb (uI T8 107 p0 0) fun T9 =>
  lb (uI T9 108 p0 0) fun T10 =>
  lb (uI T10 109 p0 0) fun T11 =>
  lb (uI T11 110 p0 0) fun T12 =>
  lb (uI T12 111 p0 0) fun T13 =>
  lb (uI T13 112 p0 0) fun T14 =>
  lb (uI T14 113 p0 0) fun T15 =>
  lb (uI T15 114 p0 0) fun T16 =>
  lb (uI T16 115 p0 0) fun T17 =>
  lb (uI T17 116 p0 0) fun T18 =>
  lb (uI T18 117 p0 0) fun T19 =>
  lb (uI T19 118 p0 0) fun T20 =>
  lb (uI T20 119 p0 0) fun T21 =>
  lb (uI T21 120 p0 (-1)) fun T22 =>
  some ((), T22)
set_option maxRecDepth 100000 in
set_option maxHeartbeats 4000000 in
theorem s_X1_reset {ad : Nat → Nat} {U T : Mm} {q : Unit × Mm}  (p0 : Nat) (p1 : Int32) (p2 : Int32) (hk0 : kS true p0 = 1) (h : f_X1_reset p0 p1 p2 T = some q) : Cr 5 yX1_reset cX1_reset 3 none [.ref (ad p0), .int p1, .int p2] ad true U T eV q := by
  refine cr_of (by decide) (Nat.le_of_ble_eq_true rfl) fun x S0 hn9 C M => ?_
  have C : CB x RX1 cX1_reset := C
  refine Jr.eq (lv' := [(0, .ref (ad p0)), (1, .int p1), (2, .int p2)]) (st' := []) rfl rfl ?_
  unfold f_X1_reset at h
  refine r_aload_n C dX1_reset_0 rfl 0 rfl ?_
  refine r_getp (f := 100) (j := (p0 + 1)) C flX1_12 dX1_reset_1 hk0 (by decide) rfl (fun W => pt_100 hk0 W) ?_
  refine r_callVN C M h [] [] mlX1_107 mcX7_reset (fun q9 e9 => s_X7_reset (p0 + 1) (pk_100 hk0) e9) (pk_100 hk0) rfl (by decide) (by decide) rfl rfl (Nat.le_of_ble_eq_true rfl) dX1_reset_4 (fun _ T1 h => ?_)
  refine r_aload_n C dX1_reset_7 rfl 0 rfl ?_
  refine r_getp (f := 100) (j := (p0 + 1)) C flX1_12 dX1_reset_8 hk0 (by decide) rfl (fun W => pt_100 hk0 W) ?_
  show Jr _ _ _ _ _ _ 11 _
  refine r_iload_n C dX1_reset_11 rfl 1 rfl ?_
  refine r_iload_n C dX1_reset_12 rfl 2 rfl ?_
  refine r_callVN C M h [.int p1, .int p2] [] mlX1_110 mcX7_turn (fun q9 e9 => s_X7_turn (p0 + 1) p1 p2 (pk_100 hk0) e9) (pk_100 hk0) rfl (by decide) (by decide) rfl rfl (Nat.le_of_ble_eq_true rfl) dX1_reset_13 (fun _ T2 h => ?_)
  refine r_aload_n C dX1_reset_16 rfl 0 rfl ?_
  refine r_getp (f := 101) (j := (p0 + 3)) C flX1_21 dX1_reset_17 hk0 (by decide) rfl (fun W => pt_101 hk0 W) ?_
  refine r_callVN C M h [] [] mlX1_114 mcX4_reset (fun q9 e9 => s_X4_reset (p0 + 3) (pk_101 hk0) e9) (pk_101 hk0) rfl (by decide) (by decide) rfl rfl (Nat.le_of_ble_eq_true rfl) dX1_reset_20 (fun _ T3 h => ?_)
  show Jr _ _ _ _ _ _ 23 _
  refine r_aload_n C dX1_reset_23 rfl 0 rfl ?_
  refine r_getp (f := 102) (j := (p0 + 5)) C flX1_28 dX1_reset_24 hk0 (by decide) rfl (fun W => pt_102 hk0 W) ?_
  refine r_callVN C M h [] [] mlX1_115 mcX10_solid (fun q9 e9 => s_X10_solid (p0 + 5) (pk_102 hk0) e9) (pk_102 hk0) rfl (by decide) (by decide) rfl rfl (Nat.le_of_ble_eq_true rfl) dX1_reset_27 (fun _ T4 h => ?_)
  refine r_aload_n C dX1_reset_30 rfl 0 rfl ?_
  refine r_getp (f := 103) (j := (p0 + 7)) C flX1_34 dX1_reset_31 hk0 (by decide) rfl (fun W => pt_103 hk0 W) ?_
  refine r_callSN C M h [.ref (ad (p0 + 7))] [] mlX1_118 mcX2_firstWishes (fun q9 e9 => s_X2_firstWishes (p0 + 7) (pk_103 hk0) e9) (by decide) (by decide) rfl rfl (Nat.le_of_ble_eq_true rfl) dX1_reset_34 (fun _ T5 h => ?_)
  show Jr _ _ _ _ _ _ 37 _
  refine r_aload_n C dX1_reset_37 rfl 0 rfl ?_
  refine r_getp (f := 104) (j := (p0 + 8)) C flX1_38 dX1_reset_38 hk0 (by decide) rfl (fun W => pt_104 hk0 W) ?_
  refine r_callSN C M h [.ref (ad (p0 + 8))] [] mlX1_118 mcX2_firstWishes (fun q9 e9 => s_X2_firstWishes (p0 + 8) (pk_104 hk0) e9) (by decide) (by decide) rfl rfl (Nat.le_of_ble_eq_true rfl) dX1_reset_41 (fun _ T6 h => ?_)
  refine r_aload_n C dX1_reset_44 rfl 0 rfl ?_
  refine r_iconst (v := 0) C dX1_reset_45 (by decide) ?_
  refine r_putz (f := 105) C flX1_57 (by decide) rfl rfl (by decide) dX1_reset_46 hk0 rfl h (fun T7 h => ?_)
  show Jr _ _ _ _ _ _ 49 _
  refine r_aload_n C dX1_reset_49 rfl 0 rfl ?_
  refine r_iconst (v := 1) C dX1_reset_50 (by decide) ?_
  refine r_puti (f := 106) C flX1_61 (by decide) rfl rfl dX1_reset_51 hk0 rfl h (fun T8 h => ?_)
  refine r_aload_n C dX1_reset_54 rfl 0 rfl ?_
  refine r_iconst (v := 0) C dX1_reset_55 (by decide) ?_
  refine r_putz (f := 107) C flX1_65 (by decide) rfl rfl (by decide) dX1_reset_56 hk0 rfl h (fun T9 h => ?_)
  show Jr _ _ _ _ _ _ 59 _
  refine r_aload_n C dX1_reset_59 rfl 0 rfl ?_
  refine r_iconst (v := 0) C dX1_reset_60 (by decide) ?_
  refine r_puti (f := 108) C flX1_68 (by decide) rfl rfl dX1_reset_61 hk0 rfl h (fun T10 h => ?_)
  refine r_aload_n C dX1_reset_64 rfl 0 rfl ?_
  refine r_iconst (v := 0) C dX1_reset_65 (by decide) ?_
  refine r_putz (f := 109) C flX1_71 (by decide) rfl rfl (by decide) dX1_reset_66 hk0 rfl h (fun T11 h => ?_)
  show Jr _ _ _ _ _ _ 69 _
  refine r_aload_n C dX1_reset_69 rfl 0 rfl ?_
  refine r_iconst (v := 0) C dX1_reset_70 (by decide) ?_
  refine r_putz (f := 110) C flX1_74 (by decide) rfl rfl (by decide) dX1_reset_71 hk0 rfl h (fun T12 h => ?_)
  refine r_aload_n C dX1_reset_74 rfl 0 rfl ?_
  refine r_iconst (v := 0) C dX1_reset_75 (by decide) ?_
  refine r_putz (f := 111) C flX1_77 (by decide) rfl rfl (by decide) dX1_reset_76 hk0 rfl h (fun T13 h => ?_)
  show Jr _ _ _ _ _ _ 79 _
  refine r_aload_n C dX1_reset_79 rfl 0 rfl ?_
  refine r_iconst (v := 0) C dX1_reset_80 (by decide) ?_
  refine r_puti (f := 112) C flX1_80 (by decide) rfl rfl dX1_reset_81 hk0 rfl h (fun T14 h => ?_)
  refine r_aload_n C dX1_reset_84 rfl 0 rfl ?_
  refine r_iconst (v := 0) C dX1_reset_85 (by decide) ?_
  refine r_puti (f := 113) C flX1_83 (by decide) rfl rfl dX1_reset_86 hk0 rfl h (fun T15 h => ?_)
  show Jr _ _ _ _ _ _ 89 _
  refine r_aload_n C dX1_reset_89 rfl 0 rfl ?_
  refine r_iconst (v := 0) C dX1_reset_90 (by decide) ?_
  refine r_puti (f := 114) C flX1_86 (by decide) rfl rfl dX1_reset_91 hk0 rfl h (fun T16 h => ?_)
  refine r_aload_n C dX1_reset_94 rfl 0 rfl ?_
  refine r_iconst (v := 0) C dX1_reset_95 (by decide) ?_
  refine r_puti (f := 115) C flX1_89 (by decide) rfl rfl dX1_reset_96 hk0 rfl h (fun T17 h => ?_)
  show Jr _ _ _ _ _ _ 99 _
  refine r_aload_n C dX1_reset_99 rfl 0 rfl ?_
  refine r_iconst (v := 0) C dX1_reset_100 (by decide) ?_
  refine r_puti (f := 116) C flX1_92 (by decide) rfl rfl dX1_reset_101 hk0 rfl h (fun T18 h => ?_)
  refine r_aload_n C dX1_reset_104 rfl 0 rfl ?_
  refine r_iconst (v := 0) C dX1_reset_105 (by decide) ?_
  refine r_puti (f := 117) C flX1_95 (by decide) rfl rfl dX1_reset_106 hk0 rfl h (fun T19 h => ?_)
  show Jr _ _ _ _ _ _ 109 _
  refine r_aload_n C dX1_reset_109 rfl 0 rfl ?_
  refine r_iconst (v := 0) C dX1_reset_110 (by decide) ?_
  refine r_puti (f := 118) C flX1_98 (by decide) rfl rfl dX1_reset_111 hk0 rfl h (fun T20 h => ?_)
  refine r_aload_n C dX1_reset_114 rfl 0 rfl ?_
  refine r_iconst (v := 0) C dX1_reset_115 (by decide) ?_
  refine r_puti (f := 119) C flX1_101 (by decide) rfl rfl dX1_reset_116 hk0 rfl h (fun T21 h => ?_)
  show Jr _ _ _ _ _ _ 119 _
  refine r_aload_n C dX1_reset_119 rfl 0 rfl ?_
  refine r_iconst (v := (-1)) C dX1_reset_120 (by decide) ?_
  refine r_puti (f := 120) C flX1_104 (by decide) rfl rfl dX1_reset_121 hk0 rfl h (fun T22 h => ?_)
  exact r_vret C M dX1_reset_124 h
theorem dX5_open_0 : decode cX5_open 0 = .ok (.aload_n 0, 1) := by decide +kernel
theorem dX5_open_1 : decode cX5_open 1 = .ok (.aload_n 1, 1) := by decide +kernel
theorem dX5_open_2 : decode cX5_open 2 = .ok (.putfield 9, 3) := by decide +kernel
theorem dX5_open_5 : decode cX5_open 5 = .ok (.aload_n 0, 1) := by decide +kernel
theorem dX5_open_6 : decode cX5_open 6 = .ok (.iload_n 2, 1) := by decide +kernel
theorem dX5_open_7 : decode cX5_open 7 = .ok (.iconst 0, 1) := by decide +kernel
theorem dX5_open_8 : decode cX5_open 8 = .ok (.invokestatic 15, 3) := by decide +kernel
theorem dX5_open_11 : decode cX5_open 11 = .ok (.putfield 21, 3) := by decide +kernel
theorem dX5_open_14 : decode cX5_open 14 = .ok (.aload_n 0, 1) := by decide +kernel
theorem dX5_open_15 : decode cX5_open 15 = .ok (.iload_n 3, 1) := by decide +kernel
theorem dX5_open_16 : decode cX5_open 16 = .ok (.aload_n 1, 1) := by decide +kernel
theorem dX5_open_17 : decode cX5_open 17 = .ok (.arraylength, 1) := by decide +kernel
theorem dX5_open_18 : decode cX5_open 18 = .ok (.invokestatic 25, 3) := by decide +kernel
theorem dX5_open_21 : decode cX5_open 21 = .ok (.putfield 28, 3) := by decide +kernel
theorem dX5_open_24 : decode cX5_open 24 = .ok (.aload_n 0, 1) := by decide +kernel
theorem dX5_open_25 : decode cX5_open 25 = .ok (.iconst 0, 1) := by decide +kernel
theorem dX5_open_26 : decode cX5_open 26 = .ok (.putfield 31, 3) := by decide +kernel
theorem dX5_open_29 : decode cX5_open 29 = .ok (.return_, 1) := by decide +kernel
noncomputable def f_X5_open (p0 : Nat) (p1 : Nat) (p2 : Int32) (p3 : Int32) (T : Mm) : Option (Unit × Mm) :=
  lb (uR T 500 p0 (some p1)) fun T1 =>
  bd (f_J9_max_7cf53 p2 0 T1) fun v2 T3 =>
  lb (uI T3 501 p0 v2) fun T4 =>
  bd (f_J9_min_7cf53 p3 (Int32.ofNat (LN p1)) T4) fun v5 T6 =>
  lb (uI T6 502 p0 v5) fun T7 =>
  lb (uI T7 503 p0 0) fun T8 =>
  some ((), T8)
set_option maxRecDepth 100000 in
set_option maxHeartbeats 4000000 in
theorem s_X5_open {ad : Nat → Nat} {U T : Mm} {q : Unit × Mm}  (p0 : Nat) (p1 : Nat) (p2 : Int32) (p3 : Int32) (hk0 : kS true p0 = 5) (hk1 : kS true p1 = 13) (h : f_X5_open p0 p1 p2 p3 T = some q) : Cr 2 yX5_open cX5_open 4 none [.ref (ad p0), .ref (ad p1), .int p2, .int p3] ad true U T eV q := by
  refine cr_of (by decide) (Nat.le_of_ble_eq_true rfl) fun x S0 hn9 C M => ?_
  have C : CB x RX5 cX5_open := C
  refine Jr.eq (lv' := [(0, .ref (ad p0)), (1, .ref (ad p1)), (2, .int p2), (3, .int p3)]) (st' := []) rfl rfl ?_
  unfold f_X5_open at h
  refine r_aload_n C dX5_open_0 rfl 0 rfl ?_
  refine r_aload_n C dX5_open_1 rfl 1 rfl ?_
  refine r_putr (f := 500) C flX5_9 (by decide) rfl rfl dX5_open_2 hk0 rfl (by decide) h (fun T1 h => ?_)
  refine r_aload_n C dX5_open_5 rfl 0 rfl ?_
  refine r_iload_n C dX5_open_6 rfl 2 rfl ?_
  show Jr _ _ _ _ _ _ 7 _
  refine r_iconst (v := 0) C dX5_open_7 (by decide) ?_
  refine r_callSI C M h [.int p2, .int 0] [.ref (ad p0)] mlX5_15 mcJ9_max_7cf53 (fun q9 e9 => s_J9_max_7cf53 p2 0  e9) (by decide) (by decide) rfl rfl (Nat.le_of_ble_eq_true rfl) dX5_open_8 (fun v2 T3 h => ?_)
  refine r_puti (f := 501) C flX5_21 (by decide) rfl rfl dX5_open_11 hk0 rfl h (fun T4 h => ?_)
  refine r_aload_n C dX5_open_14 rfl 0 rfl ?_
  refine r_iload_n C dX5_open_15 rfl 3 rfl ?_
  refine r_aload_n C dX5_open_16 rfl 1 rfl ?_
  show Jr _ _ _ _ _ _ 17 _
  refine r_alen (n := 0) C dX5_open_17 hk1 (by decide) (by decide) rfl ?_
  refine r_callSI C M h [.int p3, .int (Int32.ofNat (LN p1))] [.ref (ad p0)] mlX5_25 mcJ9_min_7cf53 (fun q9 e9 => s_J9_min_7cf53 p3 (Int32.ofNat (LN p1))  e9) (by decide) (by decide) rfl rfl (Nat.le_of_ble_eq_true rfl) dX5_open_18 (fun v5 T6 h => ?_)
  refine r_puti (f := 502) C flX5_28 (by decide) rfl rfl dX5_open_21 hk0 rfl h (fun T7 h => ?_)
  refine r_aload_n C dX5_open_24 rfl 0 rfl ?_
  refine r_iconst (v := 0) C dX5_open_25 (by decide) ?_
  refine r_puti (f := 503) C flX5_31 (by decide) rfl rfl dX5_open_26 hk0 rfl h (fun T8 h => ?_)
  show Jr _ _ _ _ _ _ 29 _
  exact r_vret C M dX5_open_29 h
theorem dX5_hasMore_0 : decode cX5_hasMore 0 = .ok (.aload_n 0, 1) := by decide +kernel
theorem dX5_hasMore_1 : decode cX5_hasMore 1 = .ok (.getfield 21, 3) := by decide +kernel
theorem dX5_hasMore_4 : decode cX5_hasMore 4 = .ok (.aload_n 0, 1) := by decide +kernel
theorem dX5_hasMore_5 : decode cX5_hasMore 5 = .ok (.getfield 28, 3) := by decide +kernel
theorem dX5_hasMore_8 : decode cX5_hasMore 8 = .ok (.if_icmp .ge 7, 3) := by decide +kernel
theorem dX5_hasMore_11 : decode cX5_hasMore 11 = .ok (.iconst 1, 1) := by decide +kernel
theorem dX5_hasMore_12 : decode cX5_hasMore 12 = .ok (.goto 4, 3) := by decide +kernel
theorem dX5_hasMore_15 : decode cX5_hasMore 15 = .ok (.iconst 0, 1) := by decide +kernel
theorem dX5_hasMore_16 : decode cX5_hasMore 16 = .ok (.ireturn, 1) := by decide +kernel
noncomputable def f_X5_hasMore (p0 : Nat) (T : Mm) : Option (Int32 × Mm) :=
  if (gI T 502 p0) ≤ (gI T 501 p0) then (some (0, T))
  else (some (1, T))
set_option maxRecDepth 100000 in
set_option maxHeartbeats 4000000 in
theorem s_X5_hasMore {ad : Nat → Nat} {U T : Mm} {q : Int32 × Mm}  (p0 : Nat) (hk0 : kS true p0 = 5) (h : f_X5_hasMore p0 T = some q) : Cr 1 yX5_hasMore cX5_hasMore 1 (some .boolean) [.ref (ad p0)] ad true U T eI q := by
  refine cr_of (by decide) (Nat.le_of_ble_eq_true rfl) fun x S0 hn9 C M => ?_
  have C : CB x RX5 cX5_hasMore := C
  refine Jr.eq (lv' := [(0, .ref (ad p0))]) (st' := []) rfl rfl ?_
  unfold f_X5_hasMore at h
  refine r_aload_n C dX5_hasMore_0 rfl 0 rfl ?_
  refine r_geti (f := 501) C flX5_21 dX5_hasMore_1 hk0 (by decide) (by decide) rfl ?_
  refine r_aload_n C dX5_hasMore_4 rfl 0 rfl ?_
  refine r_geti (f := 502) C flX5_28 dX5_hasMore_5 hk0 (by decide) (by decide) rfl ?_
  refine r_ic_ge (tgt := 15) C dX5_hasMore_8 (by decide) h (fun h => ?_) (fun h => ?_)
  · refine r_iconst (v := 0) C dX5_hasMore_15 (by decide) ?_
    exact r_zret C M dX5_hasMore_16 (by decide) h
  · refine r_iconst (v := 1) C dX5_hasMore_11 (by decide) ?_
    refine r_goto (tgt := 16) C dX5_hasMore_12 (by decide) ?_
    exact r_zret C M dX5_hasMore_16 (by decide) h
theorem dX9_isMuch_0 : decode cX9_isMuch 0 = .ok (.aload_n 0, 1) := by decide +kernel
theorem dX9_isMuch_1 : decode cX9_isMuch 1 = .ok (.getfield 86, 3) := by decide +kernel
theorem dX9_isMuch_4 : decode cX9_isMuch 4 = .ok (.ldc 90, 2) := by decide +kernel
theorem dX9_isMuch_6 : decode cX9_isMuch 6 = .ok (.if_icmp .gt 23, 3) := by decide +kernel
theorem dX9_isMuch_9 : decode cX9_isMuch 9 = .ok (.aload_n 0, 1) := by decide +kernel
theorem dX9_isMuch_10 : decode cX9_isMuch 10 = .ok (.getfield 12, 3) := by decide +kernel
theorem dX9_isMuch_13 : decode cX9_isMuch 13 = .ok (.getfield 91, 3) := by decide +kernel
theorem dX9_isMuch_16 : decode cX9_isMuch 16 = .ok (.ifCond .ne 13, 3) := by decide +kernel
theorem dX9_isMuch_19 : decode cX9_isMuch 19 = .ok (.aload_n 0, 1) := by decide +kernel
theorem dX9_isMuch_20 : decode cX9_isMuch 20 = .ok (.getfield 77, 3) := by decide +kernel
theorem dX9_isMuch_23 : decode cX9_isMuch 23 = .ok (.getfield 95, 3) := by decide +kernel
theorem dX9_isMuch_26 : decode cX9_isMuch 26 = .ok (.ifCond .eq 7, 3) := by decide +kernel
theorem dX9_isMuch_29 : decode cX9_isMuch 29 = .ok (.iconst 1, 1) := by decide +kernel
theorem dX9_isMuch_30 : decode cX9_isMuch 30 = .ok (.goto 4, 3) := by decide +kernel
theorem dX9_isMuch_33 : decode cX9_isMuch 33 = .ok (.iconst 0, 1) := by decide +kernel
theorem dX9_isMuch_34 : decode cX9_isMuch 34 = .ok (.ireturn, 1) := by decide +kernel
noncomputable def f_X9_isMuch (T : Mm) : Option (Int32 × Mm) :=
  if 60000 < (gI T 916 23) then (some (1, T))
  else (if (gI T 5 24) = 0 then (if (gI T 603 5) = 0 then (some (0, T))
  else (some (1, T)))
  else (some (1, T)))
set_option maxRecDepth 100000 in
set_option maxHeartbeats 4000000 in
theorem s_X9_isMuch {ad : Nat → Nat} {U T : Mm} {q : Int32 × Mm}  (h : f_X9_isMuch  T = some q) : Cr 1 yX9_isMuch cX9_isMuch 1 (some .boolean) [.ref (ad 23)] ad true U T eI q := by
  refine cr_of (by decide) (Nat.le_of_ble_eq_true rfl) fun x S0 hn9 C M => ?_
  have C : CB x RX9 cX9_isMuch := C
  refine Jr.eq (lv' := [(0, .ref (ad 23))]) (st' := []) rfl rfl ?_
  unfold f_X9_isMuch at h
  refine r_aload_n C dX9_isMuch_0 rfl 0 rfl ?_
  refine r_geti (f := 916) C flX9_86 dX9_isMuch_1 kq_23 (by decide) (by decide) rfl ?_
  refine r_ldc (v := 60000) C dX9_isMuch_4 kcX9_90 ?_
  refine r_ic_gt (tgt := 29) C dX9_isMuch_6 (by decide) h (fun h => ?_) (fun h => ?_)
  · refine r_iconst (v := 1) C dX9_isMuch_29 (by decide) ?_
    refine r_goto (tgt := 34) C dX9_isMuch_30 (by decide) ?_
    exact r_zret C M dX9_isMuch_34 (by decide) h
  · refine r_aload_n C dX9_isMuch_9 rfl 0 rfl ?_
    refine r_getp (f := 901) (j := 24) C flX9_12 dX9_isMuch_10 kq_23 (by decide) rfl (fun W => pt_901 kq_23 W) ?_
    refine r_geti (f := 5) C flX9_91 dX9_isMuch_13 kq_24 (by decide) (by decide) rfl ?_
    refine r_if_ne (tgt := 29) C dX9_isMuch_16 (by decide) h (fun h => ?_) (fun h => ?_)
    · refine r_iconst (v := 1) C dX9_isMuch_29 (by decide) ?_
      refine r_goto (tgt := 34) C dX9_isMuch_30 (by decide) ?_
      exact r_zret C M dX9_isMuch_34 (by decide) h
    · refine r_aload_n C dX9_isMuch_19 rfl 0 rfl ?_
      refine r_getp (f := 900) (j := 5) C flX9_77 dX9_isMuch_20 kq_23 (by decide) rfl (fun W => pt_900 kq_23 W) ?_
      refine r_geti (f := 603) C flX9_95 dX9_isMuch_23 kq_5 (by decide) (by decide) rfl ?_
      refine r_if_eq (tgt := 33) C dX9_isMuch_26 (by decide) h (fun h => ?_) (fun h => ?_)
      · refine r_iconst (v := 0) C dX9_isMuch_33 (by decide) ?_
        exact r_zret C M dX9_isMuch_34 (by decide) h
      · refine r_iconst (v := 1) C dX9_isMuch_29 (by decide) ?_
        refine r_goto (tgt := 34) C dX9_isMuch_30 (by decide) ?_
        exact r_zret C M dX9_isMuch_34 (by decide) h
theorem dX5_byteAt_0 : decode cX5_byteAt 0 = .ok (.iload_n 1, 1) := by decide +kernel
theorem dX5_byteAt_1 : decode cX5_byteAt 1 = .ok (.ifCond .lt 33, 3) := by decide +kernel
theorem dX5_byteAt_4 : decode cX5_byteAt 4 = .ok (.iload_n 1, 1) := by decide +kernel
theorem dX5_byteAt_5 : decode cX5_byteAt 5 = .ok (.aload_n 0, 1) := by decide +kernel
theorem dX5_byteAt_6 : decode cX5_byteAt 6 = .ok (.getfield 28, 3) := by decide +kernel
theorem dX5_byteAt_9 : decode cX5_byteAt 9 = .ok (.if_icmp .ge 25, 3) := by decide +kernel
theorem dX5_byteAt_12 : decode cX5_byteAt 12 = .ok (.iload_n 1, 1) := by decide +kernel
theorem dX5_byteAt_13 : decode cX5_byteAt 13 = .ok (.aload_n 0, 1) := by decide +kernel
theorem dX5_byteAt_14 : decode cX5_byteAt 14 = .ok (.getfield 9, 3) := by decide +kernel
theorem dX5_byteAt_17 : decode cX5_byteAt 17 = .ok (.arraylength, 1) := by decide +kernel
theorem dX5_byteAt_18 : decode cX5_byteAt 18 = .ok (.if_icmp .ge 16, 3) := by decide +kernel
theorem dX5_byteAt_21 : decode cX5_byteAt 21 = .ok (.aload_n 0, 1) := by decide +kernel
theorem dX5_byteAt_22 : decode cX5_byteAt 22 = .ok (.getfield 9, 3) := by decide +kernel
theorem dX5_byteAt_25 : decode cX5_byteAt 25 = .ok (.iload_n 1, 1) := by decide +kernel
theorem dX5_byteAt_26 : decode cX5_byteAt 26 = .ok (.baload, 1) := by decide +kernel
theorem dX5_byteAt_27 : decode cX5_byteAt 27 = .ok (.sipush 255, 3) := by decide +kernel
theorem dX5_byteAt_30 : decode cX5_byteAt 30 = .ok (.iand, 1) := by decide +kernel
theorem dX5_byteAt_31 : decode cX5_byteAt 31 = .ok (.goto 4, 3) := by decide +kernel
theorem dX5_byteAt_34 : decode cX5_byteAt 34 = .ok (.iconst (-1), 1) := by decide +kernel
theorem dX5_byteAt_35 : decode cX5_byteAt 35 = .ok (.ireturn, 1) := by decide +kernel
noncomputable def f_X5_byteAt (p0 : Nat) (p1 : Int32) (T : Mm) : Option (Int32 × Mm) :=
  if p1 < 0 then (some ((-1), T))
  else (if (gI T 502 p0) ≤ p1 then (some ((-1), T))
  else (rf true (gR T 500 p0) 13 fun j1 =>
  if (Int32.ofNat (LN j1)) ≤ p1 then (some ((-1), T))
  else (rf true (gR T 500 p0) 13 fun j3 =>
  ix p1 (LN j3) fun j5 =>
  some (((gA T j3 j5) &&& 255), T))))
set_option maxRecDepth 100000 in
set_option maxHeartbeats 4000000 in
theorem s_X5_byteAt {ad : Nat → Nat} {U T : Mm} {q : Int32 × Mm}  (p0 : Nat) (p1 : Int32) (hk0 : kS true p0 = 5) (h : f_X5_byteAt p0 p1 T = some q) : Cr 1 yX5_byteAt cX5_byteAt 2 (some .int) [.ref (ad p0), .int p1] ad true U T eI q := by
  refine cr_of (by decide) (Nat.le_of_ble_eq_true rfl) fun x S0 hn9 C M => ?_
  have C : CB x RX5 cX5_byteAt := C
  refine Jr.eq (lv' := [(0, .ref (ad p0)), (1, .int p1)]) (st' := []) rfl rfl ?_
  unfold f_X5_byteAt at h
  refine r_iload_n C dX5_byteAt_0 rfl 1 rfl ?_
  refine r_if_lt (tgt := 34) C dX5_byteAt_1 (by decide) h (fun h => ?_) (fun h => ?_)
  · refine r_iconst (v := (-1)) C dX5_byteAt_34 (by decide) ?_
    exact r_iret C M dX5_byteAt_35 h
  · refine r_iload_n C dX5_byteAt_4 rfl 1 rfl ?_
    refine r_aload_n C dX5_byteAt_5 rfl 0 rfl ?_
    refine r_geti (f := 502) C flX5_28 dX5_byteAt_6 hk0 (by decide) (by decide) rfl ?_
    refine r_ic_ge (tgt := 34) C dX5_byteAt_9 (by decide) h (fun h => ?_) (fun h => ?_)
    · refine r_iconst (v := (-1)) C dX5_byteAt_34 (by decide) ?_
      exact r_iret C M dX5_byteAt_35 h
    · refine r_iload_n C dX5_byteAt_12 rfl 1 rfl ?_
      refine r_aload_n C dX5_byteAt_13 rfl 0 rfl ?_
      refine r_getr (f := 500) (c := 13) C flX5_9 dX5_byteAt_14 hk0 (by decide) rfl h (fun j1 hj2 h => ?_)
      refine r_alen (n := 0) C dX5_byteAt_17 hj2 (by decide) (by decide) rfl ?_
      refine r_ic_ge (tgt := 34) C dX5_byteAt_18 (by decide) h (fun h => ?_) (fun h => ?_)
      · refine r_iconst (v := (-1)) C dX5_byteAt_34 (by decide) ?_
        exact r_iret C M dX5_byteAt_35 h
      · refine r_aload_n C dX5_byteAt_21 rfl 0 rfl ?_
        refine r_getr (f := 500) (c := 13) C flX5_9 dX5_byteAt_22 hk0 (by decide) rfl h (fun j3 hj4 h => ?_)
        refine r_iload_n C dX5_byteAt_25 rfl 1 rfl ?_
        refine r_bald (n := (LN j3)) C dX5_byteAt_26 hj4 rfl h (fun j5 hj6 h => ?_)
        refine r_sipush (v := 255) C dX5_byteAt_27 (by decide) ?_
        show Jr _ _ _ _ _ _ 30 _
        refine r_iand C dX5_byteAt_30 rfl ?_
        refine r_goto (tgt := 35) C dX5_byteAt_31 (by decide) ?_
        exact r_iret C M dX5_byteAt_35 h
theorem dX5_next_0 : decode cX5_next 0 = .ok (.aload_n 0, 1) := by decide +kernel
theorem dX5_next_1 : decode cX5_next 1 = .ok (.aload_n 0, 1) := by decide +kernel
theorem dX5_next_2 : decode cX5_next 2 = .ok (.getfield 21, 3) := by decide +kernel
theorem dX5_next_5 : decode cX5_next 5 = .ok (.invokevirtual 34, 3) := by decide +kernel
theorem dX5_next_8 : decode cX5_next 8 = .ok (.ireturn, 1) := by decide +kernel
noncomputable def f_X5_next (p0 : Nat) (T : Mm) : Option (Int32 × Mm) :=
  bd (f_X5_byteAt p0 (gI T 501 p0) T) fun v1 T2 =>
  some (v1, T2)
set_option maxRecDepth 100000 in
set_option maxHeartbeats 4000000 in
theorem s_X5_next {ad : Nat → Nat} {U T : Mm} {q : Int32 × Mm}  (p0 : Nat) (hk0 : kS true p0 = 5) (h : f_X5_next p0 T = some q) : Cr 2 yX5_next cX5_next 1 (some .int) [.ref (ad p0)] ad true U T eI q := by
  refine cr_of (by decide) (Nat.le_of_ble_eq_true rfl) fun x S0 hn9 C M => ?_
  have C : CB x RX5 cX5_next := C
  refine Jr.eq (lv' := [(0, .ref (ad p0))]) (st' := []) rfl rfl ?_
  unfold f_X5_next at h
  refine r_aload_n C dX5_next_0 rfl 0 rfl ?_
  refine r_aload_n C dX5_next_1 rfl 0 rfl ?_
  refine r_geti (f := 501) C flX5_21 dX5_next_2 hk0 (by decide) (by decide) rfl ?_
  refine r_callVI C M h [.int (gI T 501 p0)] [] mlX5_34 mcX5_byteAt (fun q9 e9 => s_X5_byteAt p0 (gI T 501 p0) hk0 e9) hk0 rfl (by decide) (by decide) rfl rfl (Nat.le_of_ble_eq_true rfl) dX5_next_5 (fun v1 T2 h => ?_)
  exact r_iret C M dX5_next_8 h
theorem dX9_pass_0 : decode cX9_pass 0 = .ok (.aload_n 0, 1) := by decide +kernel
theorem dX9_pass_1 : decode cX9_pass 1 = .ok (.invokevirtual 118, 3) := by decide +kernel
theorem dX9_pass_4 : decode cX9_pass 4 = .ok (.ifCond .eq 5, 3) := by decide +kernel
theorem dX9_pass_7 : decode cX9_pass 7 = .ok (.iconst 0, 1) := by decide +kernel
theorem dX9_pass_8 : decode cX9_pass 8 = .ok (.ireturn, 1) := by decide +kernel
theorem dX9_pass_9 : decode cX9_pass 9 = .ok (.aload_n 0, 1) := by decide +kernel
theorem dX9_pass_10 : decode cX9_pass 10 = .ok (.dup, 1) := by decide +kernel
theorem dX9_pass_11 : decode cX9_pass 11 = .ok (.getfield 86, 3) := by decide +kernel
theorem dX9_pass_14 : decode cX9_pass 14 = .ok (.iload_n 1, 1) := by decide +kernel
theorem dX9_pass_15 : decode cX9_pass 15 = .ok (.iadd, 1) := by decide +kernel
theorem dX9_pass_16 : decode cX9_pass 16 = .ok (.putfield 86, 3) := by decide +kernel
theorem dX9_pass_19 : decode cX9_pass 19 = .ok (.aload_n 0, 1) := by decide +kernel
theorem dX9_pass_20 : decode cX9_pass 20 = .ok (.getfield 82, 3) := by decide +kernel
theorem dX9_pass_23 : decode cX9_pass 23 = .ok (.dup, 1) := by decide +kernel
theorem dX9_pass_24 : decode cX9_pass 24 = .ok (.getfield 201, 3) := by decide +kernel
theorem dX9_pass_27 : decode cX9_pass 27 = .ok (.iload_n 1, 1) := by decide +kernel
theorem dX9_pass_28 : decode cX9_pass 28 = .ok (.iadd, 1) := by decide +kernel
theorem dX9_pass_29 : decode cX9_pass 29 = .ok (.putfield 201, 3) := by decide +kernel
theorem dX9_pass_32 : decode cX9_pass 32 = .ok (.aload_n 0, 1) := by decide +kernel
theorem dX9_pass_33 : decode cX9_pass 33 = .ok (.invokevirtual 118, 3) := by decide +kernel
theorem dX9_pass_36 : decode cX9_pass 36 = .ok (.ifCond .ne 7, 3) := by decide +kernel
theorem dX9_pass_39 : decode cX9_pass 39 = .ok (.iconst 1, 1) := by decide +kernel
theorem dX9_pass_40 : decode cX9_pass 40 = .ok (.goto 4, 3) := by decide +kernel
theorem dX9_pass_43 : decode cX9_pass 43 = .ok (.iconst 0, 1) := by decide +kernel
theorem dX9_pass_44 : decode cX9_pass 44 = .ok (.ireturn, 1) := by decide +kernel
noncomputable def f_X9_pass (p1 : Int32) (T : Mm) : Option (Int32 × Mm) :=
  bd (f_X9_isMuch T) fun v1 T2 =>
  if v1 = 0 then (lb (uI T2 916 23 ((gI T2 916 23) + p1)) fun T3 =>
  rf true (gR T3 913 23) 5 fun j4 =>
  lb (uI T3 501 j4 ((gI T3 501 j4) + p1)) fun T6 =>
  bd (f_X9_isMuch T6) fun v7 T8 =>
  if v7 = 0 then (some (1, T8))
  else (some (0, T8)))
  else (some (0, T2))
set_option maxRecDepth 100000 in
set_option maxHeartbeats 4000000 in
theorem s_X9_pass {ad : Nat → Nat} {U T : Mm} {q : Int32 × Mm}  (p1 : Int32) (h : f_X9_pass p1 T = some q) : Cr 2 yX9_pass cX9_pass 2 (some .boolean) [.ref (ad 23), .int p1] ad true U T eI q := by
  refine cr_of (by decide) (Nat.le_of_ble_eq_true rfl) fun x S0 hn9 C M => ?_
  have C : CB x RX9 cX9_pass := C
  refine Jr.eq (lv' := [(0, .ref (ad 23)), (1, .int p1)]) (st' := []) rfl rfl ?_
  unfold f_X9_pass at h
  refine r_aload_n C dX9_pass_0 rfl 0 rfl ?_
  refine r_callVI C M h [] [] mlX9_118 mcX9_isMuch (fun q9 e9 => s_X9_isMuch   e9) kq_23 rfl (by decide) (by decide) rfl rfl (Nat.le_of_ble_eq_true rfl) dX9_pass_1 (fun v1 T2 h => ?_)
  refine r_if_eq (tgt := 9) C dX9_pass_4 (by decide) h (fun h => ?_) (fun h => ?_)
  · refine r_aload_n C dX9_pass_9 rfl 0 rfl ?_
    refine r_dup C dX9_pass_10 rfl ?_
    refine r_geti (f := 916) C flX9_86 dX9_pass_11 kq_23 (by decide) (by decide) rfl ?_
    refine r_iload_n C dX9_pass_14 rfl 1 rfl ?_
    refine r_iadd C dX9_pass_15 rfl ?_
    show Jr _ _ _ _ _ _ 16 _
    refine r_puti (f := 916) C flX9_86 (by decide) rfl rfl dX9_pass_16 kq_23 rfl h (fun T3 h => ?_)
    refine r_aload_n C dX9_pass_19 rfl 0 rfl ?_
    refine r_getr (f := 913) (c := 5) C flX9_82 dX9_pass_20 kq_23 (by decide) rfl h (fun j4 hj5 h => ?_)
    refine r_dup C dX9_pass_23 rfl ?_
    refine r_geti (f := 501) C flX9_201 dX9_pass_24 hj5 (by decide) (by decide) rfl ?_
    refine r_iload_n C dX9_pass_27 rfl 1 rfl ?_
    show Jr _ _ _ _ _ _ 28 _
    refine r_iadd C dX9_pass_28 rfl ?_
    refine r_puti (f := 501) C flX9_201 (by decide) rfl rfl dX9_pass_29 hj5 rfl h (fun T6 h => ?_)
    refine r_aload_n C dX9_pass_32 rfl 0 rfl ?_
    refine r_callVI C M h [] [] mlX9_118 mcX9_isMuch (fun q9 e9 => s_X9_isMuch   e9) kq_23 rfl (by decide) (by decide) rfl rfl (Nat.le_of_ble_eq_true rfl) dX9_pass_33 (fun v7 T8 h => ?_)
    refine r_if_ne (tgt := 43) C dX9_pass_36 (by decide) h (fun h => ?_) (fun h => ?_)
    · refine r_iconst (v := 0) C dX9_pass_43 (by decide) ?_
      exact r_zret C M dX9_pass_44 (by decide) h
    · refine r_iconst (v := 1) C dX9_pass_39 (by decide) ?_
      refine r_goto (tgt := 44) C dX9_pass_40 (by decide) ?_
      exact r_zret C M dX9_pass_44 (by decide) h
  · refine r_iconst (v := 0) C dX9_pass_7 (by decide) ?_
    exact r_zret C M dX9_pass_8 (by decide) h
theorem dX7_tab_0 : decode cX7_tab 0 = .ok (.bipush 8, 2) := by decide +kernel
theorem dX7_tab_2 : decode cX7_tab 2 = .ok (.aload_n 0, 1) := by decide +kernel
theorem dX7_tab_3 : decode cX7_tab 3 = .ok (.getfield 43, 3) := by decide +kernel
theorem dX7_tab_6 : decode cX7_tab 6 = .ok (.imul, 1) := by decide +kernel
theorem dX7_tab_7 : decode cX7_tab 7 = .ok (.istore_n 1, 1) := by decide +kernel
theorem dX7_tab_8 : decode cX7_tab 8 = .ok (.aload_n 0, 1) := by decide +kernel
theorem dX7_tab_9 : decode cX7_tab 9 = .ok (.getfield 34, 3) := by decide +kernel
theorem dX7_tab_12 : decode cX7_tab 12 = .ok (.aload_n 0, 1) := by decide +kernel
theorem dX7_tab_13 : decode cX7_tab 13 = .ok (.getfield 22, 3) := by decide +kernel
theorem dX7_tab_16 : decode cX7_tab 16 = .ok (.if_icmp .ge 15, 3) := by decide +kernel
theorem dX7_tab_19 : decode cX7_tab 19 = .ok (.aload_n 0, 1) := by decide +kernel
theorem dX7_tab_20 : decode cX7_tab 20 = .ok (.aload_n 0, 1) := by decide +kernel
theorem dX7_tab_21 : decode cX7_tab 21 = .ok (.getfield 22, 3) := by decide +kernel
theorem dX7_tab_24 : decode cX7_tab 24 = .ok (.i2l, 1) := by decide +kernel
theorem dX7_tab_25 : decode cX7_tab 25 = .ok (.invokevirtual 65, 3) := by decide +kernel
theorem dX7_tab_28 : decode cX7_tab 28 = .ok (.goto 48, 3) := by decide +kernel
theorem dX7_tab_31 : decode cX7_tab 31 = .ok (.iload_n 1, 1) := by decide +kernel
theorem dX7_tab_32 : decode cX7_tab 32 = .ok (.ifCond .le 44, 3) := by decide +kernel
theorem dX7_tab_35 : decode cX7_tab 35 = .ok (.aload_n 0, 1) := by decide +kernel
theorem dX7_tab_36 : decode cX7_tab 36 = .ok (.getfield 22, 3) := by decide +kernel
theorem dX7_tab_39 : decode cX7_tab 39 = .ok (.aload_n 0, 1) := by decide +kernel
theorem dX7_tab_40 : decode cX7_tab 40 = .ok (.getfield 34, 3) := by decide +kernel
theorem dX7_tab_43 : decode cX7_tab 43 = .ok (.aload_n 0, 1) := by decide +kernel
theorem dX7_tab_44 : decode cX7_tab 44 = .ok (.getfield 22, 3) := by decide +kernel
theorem dX7_tab_47 : decode cX7_tab 47 = .ok (.isub, 1) := by decide +kernel
theorem dX7_tab_48 : decode cX7_tab 48 = .ok (.iload_n 1, 1) := by decide +kernel
theorem dX7_tab_49 : decode cX7_tab 49 = .ok (.idiv, 1) := by decide +kernel
theorem dX7_tab_50 : decode cX7_tab 50 = .ok (.iconst 1, 1) := by decide +kernel
theorem dX7_tab_51 : decode cX7_tab 51 = .ok (.iadd, 1) := by decide +kernel
theorem dX7_tab_52 : decode cX7_tab 52 = .ok (.iload_n 1, 1) := by decide +kernel
theorem dX7_tab_53 : decode cX7_tab 53 = .ok (.imul, 1) := by decide +kernel
theorem dX7_tab_54 : decode cX7_tab 54 = .ok (.iadd, 1) := by decide +kernel
theorem dX7_tab_55 : decode cX7_tab 55 = .ok (.istore_n 2, 1) := by decide +kernel
theorem dX7_tab_56 : decode cX7_tab 56 = .ok (.aload_n 0, 1) := by decide +kernel
theorem dX7_tab_57 : decode cX7_tab 57 = .ok (.aload_n 0, 1) := by decide +kernel
theorem dX7_tab_58 : decode cX7_tab 58 = .ok (.getfield 34, 3) := by decide +kernel
theorem dX7_tab_61 : decode cX7_tab 61 = .ok (.iload_n 2, 1) := by decide +kernel
theorem dX7_tab_62 : decode cX7_tab 62 = .ok (.aload_n 0, 1) := by decide +kernel
theorem dX7_tab_63 : decode cX7_tab 63 = .ok (.getfield 25, 3) := by decide +kernel
theorem dX7_tab_66 : decode cX7_tab 66 = .ok (.invokestatic 99, 3) := by decide +kernel
theorem dX7_tab_69 : decode cX7_tab 69 = .ok (.invokestatic 102, 3) := by decide +kernel
theorem dX7_tab_72 : decode cX7_tab 72 = .ok (.i2l, 1) := by decide +kernel
theorem dX7_tab_73 : decode cX7_tab 73 = .ok (.invokevirtual 65, 3) := by decide +kernel
theorem dX7_tab_76 : decode cX7_tab 76 = .ok (.return_, 1) := by decide +kernel
noncomputable def f_X7_tab (p0 : Nat) (T : Mm) : Option (Unit × Mm) :=
  lb (((8 : Int32) * (gI T 709 p0))) fun v1 =>
  if (gI T 702 p0) ≤ (gI T 706 p0) then (if v1 ≤ 0 then (some ((), T))
  else (gd (¬ v1 = 0) <|
  lb (((gI T 702 p0) + (((((gI T 706 p0) - (gI T 702 p0)) / v1) + 1) * v1))) fun v3 =>
  bd (f_J9_min_7cf53 v3 (gI T 703 p0) T) fun v4 T5 =>
  bd (f_J9_max_7cf53 (gI T 706 p0) v4 T5) fun v6 T7 =>
  bd (f_X7_moveX p0 ((v6).toInt64) T7) fun _ T8 =>
  some ((), T8)))
  else (bd (f_X7_moveX p0 (((gI T 702 p0)).toInt64) T) fun _ T9 =>
  some ((), T9))
set_option maxRecDepth 100000 in
set_option maxHeartbeats 4000000 in
theorem s_X7_tab {ad : Nat → Nat} {U T : Mm} {q : Unit × Mm}  (p0 : Nat) (hk0 : kS true p0 = 7) (h : f_X7_tab p0 T = some q) : Cr 3 yX7_tab cX7_tab 3 none [.ref (ad p0)] ad true U T eV q := by
  refine cr_of (by decide) (Nat.le_of_ble_eq_true rfl) fun x S0 hn9 C M => ?_
  have C : CB x RX7 cX7_tab := C
  refine Jr.eq (lv' := [(0, .ref (ad p0))]) (st' := []) rfl rfl ?_
  unfold f_X7_tab at h
  refine r_bipush (v := 8) C dX7_tab_0 (by decide) ?_
  refine r_aload_n C dX7_tab_2 rfl 0 rfl ?_
  refine r_geti (f := 709) C flX7_43 dX7_tab_3 hk0 (by decide) (by decide) rfl ?_
  refine r_imul C dX7_tab_6 rfl ?_
  refine r_lbI h (fun v1 h => ?_)
  refine r_istore_n (lv' := [(1, .int v1), (0, .ref (ad p0))]) C dX7_tab_7 rfl (by rw [hn9]; decide) rfl ?_
  show Jr _ _ _ _ _ _ 8 _
  refine r_aload_n C dX7_tab_8 rfl 1 rfl ?_
  refine r_geti (f := 706) C flX7_34 dX7_tab_9 hk0 (by decide) (by decide) rfl ?_
  refine r_aload_n C dX7_tab_12 rfl 1 rfl ?_
  refine r_geti (f := 702) C flX7_22 dX7_tab_13 hk0 (by decide) (by decide) rfl ?_
  refine r_ic_ge (tgt := 31) C dX7_tab_16 (by decide) h (fun h => ?_) (fun h => ?_)
  · refine r_iload_n C dX7_tab_31 rfl 0 rfl ?_
    refine r_if_le (tgt := 76) C dX7_tab_32 (by decide) h (fun h => ?_) (fun h => ?_)
    · exact r_vret C M dX7_tab_76 h
    · refine r_aload_n C dX7_tab_35 rfl 1 rfl ?_
      refine r_geti (f := 702) C flX7_22 dX7_tab_36 hk0 (by decide) (by decide) rfl ?_
      refine r_aload_n C dX7_tab_39 rfl 1 rfl ?_
      refine r_geti (f := 706) C flX7_34 dX7_tab_40 hk0 (by decide) (by decide) rfl ?_
      refine r_aload_n C dX7_tab_43 rfl 1 rfl ?_
      show Jr _ _ _ _ _ _ 44 _
      refine r_geti (f := 702) C flX7_22 dX7_tab_44 hk0 (by decide) (by decide) rfl ?_
      refine r_isub C dX7_tab_47 rfl ?_
      refine r_iload_n C dX7_tab_48 rfl 0 rfl ?_
      refine r_gd h (fun hz2 h => ?_)
      refine r_idiv C dX7_tab_49 hz2 rfl ?_
      refine r_iconst (v := 1) C dX7_tab_50 (by decide) ?_
      refine r_iadd C dX7_tab_51 rfl ?_
      show Jr _ _ _ _ _ _ 52 _
      refine r_iload_n C dX7_tab_52 rfl 0 rfl ?_
      refine r_imul C dX7_tab_53 rfl ?_
      refine r_iadd C dX7_tab_54 rfl ?_
      refine r_lbI h (fun v3 h => ?_)
      refine r_istore_n (lv' := [(2, .int v3), (1, .int v1), (0, .ref (ad p0))]) C dX7_tab_55 rfl (by rw [hn9]; decide) rfl ?_
      refine r_aload_n C dX7_tab_56 rfl 2 rfl ?_
      refine r_aload_n C dX7_tab_57 rfl 2 rfl ?_
      show Jr _ _ _ _ _ _ 58 _
      refine r_geti (f := 706) C flX7_34 dX7_tab_58 hk0 (by decide) (by decide) rfl ?_
      refine r_iload_n C dX7_tab_61 rfl 0 rfl ?_
      refine r_aload_n C dX7_tab_62 rfl 2 rfl ?_
      refine r_geti (f := 703) C flX7_25 dX7_tab_63 hk0 (by decide) (by decide) rfl ?_
      refine r_callSI C M h [.int v3, .int (gI T 703 p0)] [.int (gI T 706 p0), .ref (ad p0)] mlX7_99 mcJ9_min_7cf53 (fun q9 e9 => s_J9_min_7cf53 v3 (gI T 703 p0)  e9) (by decide) (by decide) rfl rfl (Nat.le_of_ble_eq_true rfl) dX7_tab_66 (fun v4 T5 h => ?_)
      refine r_callSI C M h [.int (gI T 706 p0), .int v4] [.ref (ad p0)] mlX7_102 mcJ9_max_7cf53 (fun q9 e9 => s_J9_max_7cf53 (gI T 706 p0) v4  e9) (by decide) (by decide) rfl rfl (Nat.le_of_ble_eq_true rfl) dX7_tab_69 (fun v6 T7 h => ?_)
      show Jr _ _ _ _ _ _ 72 _
      refine r_i2l C dX7_tab_72 rfl ?_
      refine r_callVN C M h [.long ((v6).toInt64)] [] mlX7_65 mcX7_moveX (fun q9 e9 => s_X7_moveX p0 ((v6).toInt64) hk0 e9) hk0 rfl (by decide) (by decide) rfl rfl (Nat.le_of_ble_eq_true rfl) dX7_tab_73 (fun _ T8 h => ?_)
      exact r_vret C M dX7_tab_76 h
  · refine r_aload_n C dX7_tab_19 rfl 1 rfl ?_
    refine r_aload_n C dX7_tab_20 rfl 1 rfl ?_
    refine r_geti (f := 702) C flX7_22 dX7_tab_21 hk0 (by decide) (by decide) rfl ?_
    refine r_i2l C dX7_tab_24 rfl ?_
    refine r_callVN C M h [.long (((gI T 702 p0)).toInt64)] [] mlX7_65 mcX7_moveX (fun q9 e9 => s_X7_moveX p0 (((gI T 702 p0)).toInt64) hk0 e9) hk0 rfl (by decide) (by decide) rfl rfl (Nat.le_of_ble_eq_true rfl) dX7_tab_25 (fun _ T9 h => ?_)
    show Jr _ _ _ _ _ _ 28 _
    refine r_goto (tgt := 76) C dX7_tab_28 (by decide) ?_
    exact r_vret C M dX7_tab_76 h
theorem dX8_has_0 : decode cX8_has 0 = .ok (.iload_n 1, 1) := by decide +kernel
theorem dX8_has_1 : decode cX8_has 1 = .ok (.ifCond .lt 22, 3) := by decide +kernel
theorem dX8_has_4 : decode cX8_has 4 = .ok (.iload_n 1, 1) := by decide +kernel
theorem dX8_has_5 : decode cX8_has 5 = .ok (.bipush 16, 2) := by decide +kernel
theorem dX8_has_7 : decode cX8_has 7 = .ok (.if_icmp .ge 16, 3) := by decide +kernel
theorem dX8_has_10 : decode cX8_has 10 = .ok (.aload_n 0, 1) := by decide +kernel
theorem dX8_has_11 : decode cX8_has 11 = .ok (.getfield 9, 3) := by decide +kernel
theorem dX8_has_14 : decode cX8_has 14 = .ok (.iload_n 1, 1) := by decide +kernel
theorem dX8_has_15 : decode cX8_has 15 = .ok (.iaload, 1) := by decide +kernel
theorem dX8_has_16 : decode cX8_has 16 = .ok (.ifCond .eq 7, 3) := by decide +kernel
theorem dX8_has_19 : decode cX8_has 19 = .ok (.iconst 1, 1) := by decide +kernel
theorem dX8_has_20 : decode cX8_has 20 = .ok (.goto 4, 3) := by decide +kernel
theorem dX8_has_23 : decode cX8_has 23 = .ok (.iconst 0, 1) := by decide +kernel
theorem dX8_has_24 : decode cX8_has 24 = .ok (.ireturn, 1) := by decide +kernel
noncomputable def f_X8_has (p0 : Nat) (p1 : Int32) (T : Mm) : Option (Int32 × Mm) :=
  if p1 < 0 then (some (0, T))
  else (if 16 ≤ p1 then (some (0, T))
  else (ix p1 16 fun j1 =>
  if (gA T (p0 + 1) j1) = 0 then (some (0, T))
  else (some (1, T))))
set_option maxRecDepth 100000 in
set_option maxHeartbeats 4000000 in
theorem s_X8_has {ad : Nat → Nat} {U T : Mm} {q : Int32 × Mm}  (p0 : Nat) (p1 : Int32) (hk0 : kS true p0 = 8) (h : f_X8_has p0 p1 T = some q) : Cr 1 yX8_has cX8_has 2 (some .boolean) [.ref (ad p0), .int p1] ad true U T eI q := by
  refine cr_of (by decide) (Nat.le_of_ble_eq_true rfl) fun x S0 hn9 C M => ?_
  have C : CB x RX8 cX8_has := C
  refine Jr.eq (lv' := [(0, .ref (ad p0)), (1, .int p1)]) (st' := []) rfl rfl ?_
  unfold f_X8_has at h
  refine r_iload_n C dX8_has_0 rfl 1 rfl ?_
  refine r_if_lt (tgt := 23) C dX8_has_1 (by decide) h (fun h => ?_) (fun h => ?_)
  · refine r_iconst (v := 0) C dX8_has_23 (by decide) ?_
    exact r_zret C M dX8_has_24 (by decide) h
  · refine r_iload_n C dX8_has_4 rfl 1 rfl ?_
    refine r_bipush (v := 16) C dX8_has_5 (by decide) ?_
    refine r_ic_ge (tgt := 23) C dX8_has_7 (by decide) h (fun h => ?_) (fun h => ?_)
    · refine r_iconst (v := 0) C dX8_has_23 (by decide) ?_
      exact r_zret C M dX8_has_24 (by decide) h
    · refine r_aload_n C dX8_has_10 rfl 0 rfl ?_
      refine r_getp (f := 800) (j := (p0 + 1)) C flX8_9 dX8_has_11 hk0 (by decide) rfl (fun W => pt_800 hk0 W) ?_
      refine r_iload_n C dX8_has_14 rfl 1 rfl ?_
      refine r_iald (n := 16) C dX8_has_15 (pk_800 hk0) (pl_800 hk0) h (fun j1 hj2 h => ?_)
      refine r_if_eq (tgt := 23) C dX8_has_16 (by decide) h (fun h => ?_) (fun h => ?_)
      · refine r_iconst (v := 0) C dX8_has_23 (by decide) ?_
        exact r_zret C M dX8_has_24 (by decide) h
      · refine r_iconst (v := 1) C dX8_has_19 (by decide) ?_
        refine r_goto (tgt := 24) C dX8_has_20 (by decide) ?_
        exact r_zret C M dX8_has_24 (by decide) h
theorem dX7_copy_0 : decode cX7_copy 0 = .ok (.aload_n 0, 1) := by decide +kernel
theorem dX7_copy_1 : decode cX7_copy 1 = .ok (.aload_n 1, 1) := by decide +kernel
theorem dX7_copy_2 : decode cX7_copy 2 = .ok (.getfield 15, 3) := by decide +kernel
theorem dX7_copy_5 : decode cX7_copy 5 = .ok (.putfield 15, 3) := by decide +kernel
theorem dX7_copy_8 : decode cX7_copy 8 = .ok (.aload_n 0, 1) := by decide +kernel
theorem dX7_copy_9 : decode cX7_copy 9 = .ok (.aload_n 1, 1) := by decide +kernel
theorem dX7_copy_10 : decode cX7_copy 10 = .ok (.getfield 19, 3) := by decide +kernel
theorem dX7_copy_13 : decode cX7_copy 13 = .ok (.putfield 19, 3) := by decide +kernel
theorem dX7_copy_16 : decode cX7_copy 16 = .ok (.aload_n 0, 1) := by decide +kernel
theorem dX7_copy_17 : decode cX7_copy 17 = .ok (.aload_n 1, 1) := by decide +kernel
theorem dX7_copy_18 : decode cX7_copy 18 = .ok (.getfield 22, 3) := by decide +kernel
theorem dX7_copy_21 : decode cX7_copy 21 = .ok (.putfield 22, 3) := by decide +kernel
theorem dX7_copy_24 : decode cX7_copy 24 = .ok (.aload_n 0, 1) := by decide +kernel
theorem dX7_copy_25 : decode cX7_copy 25 = .ok (.aload_n 1, 1) := by decide +kernel
theorem dX7_copy_26 : decode cX7_copy 26 = .ok (.getfield 25, 3) := by decide +kernel
theorem dX7_copy_29 : decode cX7_copy 29 = .ok (.putfield 25, 3) := by decide +kernel
theorem dX7_copy_32 : decode cX7_copy 32 = .ok (.aload_n 0, 1) := by decide +kernel
theorem dX7_copy_33 : decode cX7_copy 33 = .ok (.aload_n 1, 1) := by decide +kernel
theorem dX7_copy_34 : decode cX7_copy 34 = .ok (.getfield 28, 3) := by decide +kernel
theorem dX7_copy_37 : decode cX7_copy 37 = .ok (.putfield 28, 3) := by decide +kernel
theorem dX7_copy_40 : decode cX7_copy 40 = .ok (.aload_n 0, 1) := by decide +kernel
theorem dX7_copy_41 : decode cX7_copy 41 = .ok (.aload_n 1, 1) := by decide +kernel
theorem dX7_copy_42 : decode cX7_copy 42 = .ok (.getfield 31, 3) := by decide +kernel
theorem dX7_copy_45 : decode cX7_copy 45 = .ok (.putfield 31, 3) := by decide +kernel
theorem dX7_copy_48 : decode cX7_copy 48 = .ok (.aload_n 0, 1) := by decide +kernel
theorem dX7_copy_49 : decode cX7_copy 49 = .ok (.aload_n 1, 1) := by decide +kernel
theorem dX7_copy_50 : decode cX7_copy 50 = .ok (.getfield 34, 3) := by decide +kernel
theorem dX7_copy_53 : decode cX7_copy 53 = .ok (.putfield 34, 3) := by decide +kernel
theorem dX7_copy_56 : decode cX7_copy 56 = .ok (.aload_n 0, 1) := by decide +kernel
theorem dX7_copy_57 : decode cX7_copy 57 = .ok (.aload_n 1, 1) := by decide +kernel
theorem dX7_copy_58 : decode cX7_copy 58 = .ok (.getfield 37, 3) := by decide +kernel
theorem dX7_copy_61 : decode cX7_copy 61 = .ok (.putfield 37, 3) := by decide +kernel
theorem dX7_copy_64 : decode cX7_copy 64 = .ok (.aload_n 0, 1) := by decide +kernel
theorem dX7_copy_65 : decode cX7_copy 65 = .ok (.aload_n 1, 1) := by decide +kernel
theorem dX7_copy_66 : decode cX7_copy 66 = .ok (.getfield 40, 3) := by decide +kernel
theorem dX7_copy_69 : decode cX7_copy 69 = .ok (.putfield 40, 3) := by decide +kernel
theorem dX7_copy_72 : decode cX7_copy 72 = .ok (.aload_n 0, 1) := by decide +kernel
theorem dX7_copy_73 : decode cX7_copy 73 = .ok (.aload_n 1, 1) := by decide +kernel
theorem dX7_copy_74 : decode cX7_copy 74 = .ok (.getfield 43, 3) := by decide +kernel
theorem dX7_copy_77 : decode cX7_copy 77 = .ok (.putfield 43, 3) := by decide +kernel
theorem dX7_copy_80 : decode cX7_copy 80 = .ok (.aload_n 0, 1) := by decide +kernel
theorem dX7_copy_81 : decode cX7_copy 81 = .ok (.aload_n 1, 1) := by decide +kernel
theorem dX7_copy_82 : decode cX7_copy 82 = .ok (.getfield 46, 3) := by decide +kernel
theorem dX7_copy_85 : decode cX7_copy 85 = .ok (.putfield 46, 3) := by decide +kernel
theorem dX7_copy_88 : decode cX7_copy 88 = .ok (.aload_n 0, 1) := by decide +kernel
theorem dX7_copy_89 : decode cX7_copy 89 = .ok (.aload_n 1, 1) := by decide +kernel
theorem dX7_copy_90 : decode cX7_copy 90 = .ok (.getfield 49, 3) := by decide +kernel
theorem dX7_copy_93 : decode cX7_copy 93 = .ok (.putfield 49, 3) := by decide +kernel
theorem dX7_copy_96 : decode cX7_copy 96 = .ok (.aload_n 1, 1) := by decide +kernel
theorem dX7_copy_97 : decode cX7_copy 97 = .ok (.getfield 11, 3) := by decide +kernel
theorem dX7_copy_100 : decode cX7_copy 100 = .ok (.iconst 0, 1) := by decide +kernel
theorem dX7_copy_101 : decode cX7_copy 101 = .ok (.aload_n 0, 1) := by decide +kernel
theorem dX7_copy_102 : decode cX7_copy 102 = .ok (.getfield 11, 3) := by decide +kernel
theorem dX7_copy_105 : decode cX7_copy 105 = .ok (.iconst 0, 1) := by decide +kernel
theorem dX7_copy_106 : decode cX7_copy 106 = .ok (.aload_n 0, 1) := by decide +kernel
theorem dX7_copy_107 : decode cX7_copy 107 = .ok (.getfield 11, 3) := by decide +kernel
theorem dX7_copy_110 : decode cX7_copy 110 = .ok (.arraylength, 1) := by decide +kernel
theorem dX7_copy_111 : decode cX7_copy 111 = .ok (.invokestatic 52, 3) := by decide +kernel
theorem dX7_copy_114 : decode cX7_copy 114 = .ok (.return_, 1) := by decide +kernel
noncomputable def f_X7_copy (p0 : Nat) (p1 : Nat) (T : Mm) : Option (Unit × Mm) :=
  lb (uI T 700 p0 (gI T 700 p1)) fun T1 =>
  lb (uI T1 701 p0 (gI T1 701 p1)) fun T2 =>
  lb (uI T2 702 p0 (gI T2 702 p1)) fun T3 =>
  lb (uI T3 703 p0 (gI T3 703 p1)) fun T4 =>
  lb (uI T4 704 p0 (gI T4 704 p1)) fun T5 =>
  lb (uI T5 705 p0 (gI T5 705 p1)) fun T6 =>
  lb (uI T6 706 p0 (gI T6 706 p1)) fun T7 =>
  lb (uI T7 707 p0 (gI T7 707 p1)) fun T8 =>
  lb (uI T8 708 p0 (gI T8 708 p1)) fun T9 =>
  lb (uI T9 709 p0 (gI T9 709 p1)) fun T10 =>
  lb (uI T10 710 p0 (gI T10 710 p1)) fun T11 =>
  lb (uI T11 711 p0 (gI T11 711 p1)) fun T12 =>
  cp 0 0 40 40 40 fun q13 q14 q15 => lb (vA T12 (p0 + 1) (va_cpy (gA T12 (p1 + 1)) (gA T12 (p0 + 1)) q13 q14 q15)) fun T16 =>
  some ((), T16)
set_option maxRecDepth 100000 in
set_option maxHeartbeats 4000000 in
theorem s_X7_copy {ad : Nat → Nat} {U T : Mm} {q : Unit × Mm}  (p0 : Nat) (p1 : Nat) (hk0 : kS true p0 = 7) (hk1 : kS true p1 = 7) (h : f_X7_copy p0 p1 T = some q) : Cr 1 yX7_copy cX7_copy 2 none [.ref (ad p0), .ref (ad p1)] ad true U T eV q := by
  refine cr_of (by decide) (Nat.le_of_ble_eq_true rfl) fun x S0 hn9 C M => ?_
  have C : CB x RX7 cX7_copy := C
  refine Jr.eq (lv' := [(0, .ref (ad p0)), (1, .ref (ad p1))]) (st' := []) rfl rfl ?_
  unfold f_X7_copy at h
  refine r_aload_n C dX7_copy_0 rfl 0 rfl ?_
  refine r_aload_n C dX7_copy_1 rfl 1 rfl ?_
  refine r_geti (f := 700) C flX7_15 dX7_copy_2 hk1 (by decide) (by decide) rfl ?_
  refine r_puti (f := 700) C flX7_15 (by decide) rfl rfl dX7_copy_5 hk0 rfl h (fun T1 h => ?_)
  refine r_aload_n C dX7_copy_8 rfl 0 rfl ?_
  show Jr _ _ _ _ _ _ 9 _
  refine r_aload_n C dX7_copy_9 rfl 1 rfl ?_
  refine r_geti (f := 701) C flX7_19 dX7_copy_10 hk1 (by decide) (by decide) rfl ?_
  refine r_puti (f := 701) C flX7_19 (by decide) rfl rfl dX7_copy_13 hk0 rfl h (fun T2 h => ?_)
  refine r_aload_n C dX7_copy_16 rfl 0 rfl ?_
  refine r_aload_n C dX7_copy_17 rfl 1 rfl ?_
  refine r_geti (f := 702) C flX7_22 dX7_copy_18 hk1 (by decide) (by decide) rfl ?_
  show Jr _ _ _ _ _ _ 21 _
  refine r_puti (f := 702) C flX7_22 (by decide) rfl rfl dX7_copy_21 hk0 rfl h (fun T3 h => ?_)
  refine r_aload_n C dX7_copy_24 rfl 0 rfl ?_
  refine r_aload_n C dX7_copy_25 rfl 1 rfl ?_
  refine r_geti (f := 703) C flX7_25 dX7_copy_26 hk1 (by decide) (by decide) rfl ?_
  refine r_puti (f := 703) C flX7_25 (by decide) rfl rfl dX7_copy_29 hk0 rfl h (fun T4 h => ?_)
  refine r_aload_n C dX7_copy_32 rfl 0 rfl ?_
  show Jr _ _ _ _ _ _ 33 _
  refine r_aload_n C dX7_copy_33 rfl 1 rfl ?_
  refine r_geti (f := 704) C flX7_28 dX7_copy_34 hk1 (by decide) (by decide) rfl ?_
  refine r_puti (f := 704) C flX7_28 (by decide) rfl rfl dX7_copy_37 hk0 rfl h (fun T5 h => ?_)
  refine r_aload_n C dX7_copy_40 rfl 0 rfl ?_
  refine r_aload_n C dX7_copy_41 rfl 1 rfl ?_
  refine r_geti (f := 705) C flX7_31 dX7_copy_42 hk1 (by decide) (by decide) rfl ?_
  show Jr _ _ _ _ _ _ 45 _
  refine r_puti (f := 705) C flX7_31 (by decide) rfl rfl dX7_copy_45 hk0 rfl h (fun T6 h => ?_)
  refine r_aload_n C dX7_copy_48 rfl 0 rfl ?_
  refine r_aload_n C dX7_copy_49 rfl 1 rfl ?_
  refine r_geti (f := 706) C flX7_34 dX7_copy_50 hk1 (by decide) (by decide) rfl ?_
  refine r_puti (f := 706) C flX7_34 (by decide) rfl rfl dX7_copy_53 hk0 rfl h (fun T7 h => ?_)
  refine r_aload_n C dX7_copy_56 rfl 0 rfl ?_
  show Jr _ _ _ _ _ _ 57 _
  refine r_aload_n C dX7_copy_57 rfl 1 rfl ?_
  refine r_geti (f := 707) C flX7_37 dX7_copy_58 hk1 (by decide) (by decide) rfl ?_
  refine r_puti (f := 707) C flX7_37 (by decide) rfl rfl dX7_copy_61 hk0 rfl h (fun T8 h => ?_)
  refine r_aload_n C dX7_copy_64 rfl 0 rfl ?_
  refine r_aload_n C dX7_copy_65 rfl 1 rfl ?_
  refine r_geti (f := 708) C flX7_40 dX7_copy_66 hk1 (by decide) (by decide) rfl ?_
  show Jr _ _ _ _ _ _ 69 _
  refine r_puti (f := 708) C flX7_40 (by decide) rfl rfl dX7_copy_69 hk0 rfl h (fun T9 h => ?_)
  refine r_aload_n C dX7_copy_72 rfl 0 rfl ?_
  refine r_aload_n C dX7_copy_73 rfl 1 rfl ?_
  refine r_geti (f := 709) C flX7_43 dX7_copy_74 hk1 (by decide) (by decide) rfl ?_
  refine r_puti (f := 709) C flX7_43 (by decide) rfl rfl dX7_copy_77 hk0 rfl h (fun T10 h => ?_)
  refine r_aload_n C dX7_copy_80 rfl 0 rfl ?_
  show Jr _ _ _ _ _ _ 81 _
  refine r_aload_n C dX7_copy_81 rfl 1 rfl ?_
  refine r_geti (f := 710) C flX7_46 dX7_copy_82 hk1 (by decide) (by decide) rfl ?_
  refine r_puti (f := 710) C flX7_46 (by decide) rfl rfl dX7_copy_85 hk0 rfl h (fun T11 h => ?_)
  refine r_aload_n C dX7_copy_88 rfl 0 rfl ?_
  refine r_aload_n C dX7_copy_89 rfl 1 rfl ?_
  refine r_geti (f := 711) C flX7_49 dX7_copy_90 hk1 (by decide) (by decide) rfl ?_
  show Jr _ _ _ _ _ _ 93 _
  refine r_puti (f := 711) C flX7_49 (by decide) rfl rfl dX7_copy_93 hk0 rfl h (fun T12 h => ?_)
  refine r_aload_n C dX7_copy_96 rfl 1 rfl ?_
  refine r_getp (f := 712) (j := (p1 + 1)) C flX7_11 dX7_copy_97 hk1 (by decide) rfl (fun W => pt_712 hk1 W) ?_
  refine r_iconst (v := 0) C dX7_copy_100 (by decide) ?_
  refine r_aload_n C dX7_copy_101 rfl 0 rfl ?_
  refine r_getp (f := 712) (j := (p0 + 1)) C flX7_11 dX7_copy_102 hk0 (by decide) rfl (fun W => pt_712 hk0 W) ?_
  show Jr _ _ _ _ _ _ 105 _
  refine r_iconst (v := 0) C dX7_copy_105 (by decide) ?_
  refine r_aload_n C dX7_copy_106 rfl 0 rfl ?_
  refine r_getp (f := 712) (j := (p0 + 1)) C flX7_11 dX7_copy_107 hk0 (by decide) rfl (fun W => pt_712 hk0 W) ?_
  refine r_alen (n := 0) (v := 40) C dX7_copy_110 (pk_712 hk0) (by decide) (by decide) (congrArg Int32.ofNat (pl_712 hk0)) ?_
  refine r_copy (n0 := 40) (n1 := 40) (kd := 14) (ty := .int) C M (by decide) mlX7_52 (by decide) (pk_712 hk1) (pl_712 hk1) (pk_712 hk0) (pl_712 hk0) dX7_copy_111 h (fun q13 q14 q15 T16 h => ?_)
  exact r_vret C M dX7_copy_114 h
theorem dX4_copy_0 : decode cX4_copy 0 = .ok (.aload_n 0, 1) := by decide +kernel
theorem dX4_copy_1 : decode cX4_copy 1 = .ok (.aload_n 1, 1) := by decide +kernel
theorem dX4_copy_2 : decode cX4_copy 2 = .ok (.getfield 13, 3) := by decide +kernel
theorem dX4_copy_5 : decode cX4_copy 5 = .ok (.putfield 13, 3) := by decide +kernel
theorem dX4_copy_8 : decode cX4_copy 8 = .ok (.aload_n 0, 1) := by decide +kernel
theorem dX4_copy_9 : decode cX4_copy 9 = .ok (.aload_n 1, 1) := by decide +kernel
theorem dX4_copy_10 : decode cX4_copy 10 = .ok (.getfield 17, 3) := by decide +kernel
theorem dX4_copy_13 : decode cX4_copy 13 = .ok (.putfield 17, 3) := by decide +kernel
theorem dX4_copy_16 : decode cX4_copy 16 = .ok (.aload_n 0, 1) := by decide +kernel
theorem dX4_copy_17 : decode cX4_copy 17 = .ok (.aload_n 1, 1) := by decide +kernel
theorem dX4_copy_18 : decode cX4_copy 18 = .ok (.getfield 20, 3) := by decide +kernel
theorem dX4_copy_21 : decode cX4_copy 21 = .ok (.putfield 20, 3) := by decide +kernel
theorem dX4_copy_24 : decode cX4_copy 24 = .ok (.aload_n 0, 1) := by decide +kernel
theorem dX4_copy_25 : decode cX4_copy 25 = .ok (.aload_n 1, 1) := by decide +kernel
theorem dX4_copy_26 : decode cX4_copy 26 = .ok (.getfield 23, 3) := by decide +kernel
theorem dX4_copy_29 : decode cX4_copy 29 = .ok (.putfield 23, 3) := by decide +kernel
theorem dX4_copy_32 : decode cX4_copy 32 = .ok (.aload_n 0, 1) := by decide +kernel
theorem dX4_copy_33 : decode cX4_copy 33 = .ok (.aload_n 1, 1) := by decide +kernel
theorem dX4_copy_34 : decode cX4_copy 34 = .ok (.getfield 26, 3) := by decide +kernel
theorem dX4_copy_37 : decode cX4_copy 37 = .ok (.putfield 26, 3) := by decide +kernel
theorem dX4_copy_40 : decode cX4_copy 40 = .ok (.aload_n 0, 1) := by decide +kernel
theorem dX4_copy_41 : decode cX4_copy 41 = .ok (.aload_n 1, 1) := by decide +kernel
theorem dX4_copy_42 : decode cX4_copy 42 = .ok (.getfield 30, 3) := by decide +kernel
theorem dX4_copy_45 : decode cX4_copy 45 = .ok (.putfield 30, 3) := by decide +kernel
theorem dX4_copy_48 : decode cX4_copy 48 = .ok (.aload_n 0, 1) := by decide +kernel
theorem dX4_copy_49 : decode cX4_copy 49 = .ok (.aload_n 1, 1) := by decide +kernel
theorem dX4_copy_50 : decode cX4_copy 50 = .ok (.getfield 33, 3) := by decide +kernel
theorem dX4_copy_53 : decode cX4_copy 53 = .ok (.putfield 33, 3) := by decide +kernel
theorem dX4_copy_56 : decode cX4_copy 56 = .ok (.aload_n 1, 1) := by decide +kernel
theorem dX4_copy_57 : decode cX4_copy 57 = .ok (.getfield 9, 3) := by decide +kernel
theorem dX4_copy_60 : decode cX4_copy 60 = .ok (.iconst 0, 1) := by decide +kernel
theorem dX4_copy_61 : decode cX4_copy 61 = .ok (.aload_n 0, 1) := by decide +kernel
theorem dX4_copy_62 : decode cX4_copy 62 = .ok (.getfield 9, 3) := by decide +kernel
theorem dX4_copy_65 : decode cX4_copy 65 = .ok (.iconst 0, 1) := by decide +kernel
theorem dX4_copy_66 : decode cX4_copy 66 = .ok (.aload_n 0, 1) := by decide +kernel
theorem dX4_copy_67 : decode cX4_copy 67 = .ok (.getfield 9, 3) := by decide +kernel
theorem dX4_copy_70 : decode cX4_copy 70 = .ok (.arraylength, 1) := by decide +kernel
theorem dX4_copy_71 : decode cX4_copy 71 = .ok (.invokestatic 36, 3) := by decide +kernel
theorem dX4_copy_74 : decode cX4_copy 74 = .ok (.return_, 1) := by decide +kernel
noncomputable def f_X4_copy (p0 : Nat) (p1 : Nat) (T : Mm) : Option (Unit × Mm) :=
  lb (uI T 400 p0 (gI T 400 p1)) fun T1 =>
  lb (uI T1 401 p0 (gI T1 401 p1)) fun T2 =>
  lb (uI T2 402 p0 (gI T2 402 p1)) fun T3 =>
  lb (uI T3 403 p0 (gI T3 403 p1)) fun T4 =>
  gd ((gI T4 404 p1) = 0 ∨ (gI T4 404 p1) = 1) <|
  lb (uI T4 404 p0 (gI T4 404 p1)) fun T6 =>
  lb (uI T6 405 p0 (gI T6 405 p1)) fun T7 =>
  lb (uI T7 406 p0 (gI T7 406 p1)) fun T8 =>
  cp 0 0 20 20 20 fun q9 q10 q11 => lb (vA T8 (p0 + 1) (va_cpy (gA T8 (p1 + 1)) (gA T8 (p0 + 1)) q9 q10 q11)) fun T12 =>
  some ((), T12)
set_option maxRecDepth 100000 in
set_option maxHeartbeats 4000000 in
theorem s_X4_copy {ad : Nat → Nat} {U T : Mm} {q : Unit × Mm}  (p0 : Nat) (p1 : Nat) (hk0 : kS true p0 = 4) (hk1 : kS true p1 = 4) (h : f_X4_copy p0 p1 T = some q) : Cr 1 yX4_copy cX4_copy 2 none [.ref (ad p0), .ref (ad p1)] ad true U T eV q := by
  refine cr_of (by decide) (Nat.le_of_ble_eq_true rfl) fun x S0 hn9 C M => ?_
  have C : CB x RX4 cX4_copy := C
  refine Jr.eq (lv' := [(0, .ref (ad p0)), (1, .ref (ad p1))]) (st' := []) rfl rfl ?_
  unfold f_X4_copy at h
  refine r_aload_n C dX4_copy_0 rfl 0 rfl ?_
  refine r_aload_n C dX4_copy_1 rfl 1 rfl ?_
  refine r_geti (f := 400) C flX4_13 dX4_copy_2 hk1 (by decide) (by decide) rfl ?_
  refine r_puti (f := 400) C flX4_13 (by decide) rfl rfl dX4_copy_5 hk0 rfl h (fun T1 h => ?_)
  refine r_aload_n C dX4_copy_8 rfl 0 rfl ?_
  show Jr _ _ _ _ _ _ 9 _
  refine r_aload_n C dX4_copy_9 rfl 1 rfl ?_
  refine r_geti (f := 401) C flX4_17 dX4_copy_10 hk1 (by decide) (by decide) rfl ?_
  refine r_puti (f := 401) C flX4_17 (by decide) rfl rfl dX4_copy_13 hk0 rfl h (fun T2 h => ?_)
  refine r_aload_n C dX4_copy_16 rfl 0 rfl ?_
  refine r_aload_n C dX4_copy_17 rfl 1 rfl ?_
  refine r_geti (f := 402) C flX4_20 dX4_copy_18 hk1 (by decide) (by decide) rfl ?_
  show Jr _ _ _ _ _ _ 21 _
  refine r_puti (f := 402) C flX4_20 (by decide) rfl rfl dX4_copy_21 hk0 rfl h (fun T3 h => ?_)
  refine r_aload_n C dX4_copy_24 rfl 0 rfl ?_
  refine r_aload_n C dX4_copy_25 rfl 1 rfl ?_
  refine r_geti (f := 403) C flX4_23 dX4_copy_26 hk1 (by decide) (by decide) rfl ?_
  refine r_puti (f := 403) C flX4_23 (by decide) rfl rfl dX4_copy_29 hk0 rfl h (fun T4 h => ?_)
  refine r_aload_n C dX4_copy_32 rfl 0 rfl ?_
  show Jr _ _ _ _ _ _ 33 _
  refine r_aload_n C dX4_copy_33 rfl 1 rfl ?_
  refine r_geti (f := 404) C flX4_26 dX4_copy_34 hk1 (by decide) (by decide) rfl ?_
  refine r_gd h (fun hz5 h => ?_)
  refine r_putz (f := 404) C flX4_26 (by decide) rfl rfl hz5 dX4_copy_37 hk0 rfl h (fun T6 h => ?_)
  refine r_aload_n C dX4_copy_40 rfl 0 rfl ?_
  refine r_aload_n C dX4_copy_41 rfl 1 rfl ?_
  refine r_geti (f := 405) C flX4_30 dX4_copy_42 hk1 (by decide) (by decide) rfl ?_
  show Jr _ _ _ _ _ _ 45 _
  refine r_puti (f := 405) C flX4_30 (by decide) rfl rfl dX4_copy_45 hk0 rfl h (fun T7 h => ?_)
  refine r_aload_n C dX4_copy_48 rfl 0 rfl ?_
  refine r_aload_n C dX4_copy_49 rfl 1 rfl ?_
  refine r_geti (f := 406) C flX4_33 dX4_copy_50 hk1 (by decide) (by decide) rfl ?_
  refine r_puti (f := 406) C flX4_33 (by decide) rfl rfl dX4_copy_53 hk0 rfl h (fun T8 h => ?_)
  refine r_aload_n C dX4_copy_56 rfl 1 rfl ?_
  show Jr _ _ _ _ _ _ 57 _
  refine r_getp (f := 407) (j := (p1 + 1)) C flX4_9 dX4_copy_57 hk1 (by decide) rfl (fun W => pt_407 hk1 W) ?_
  refine r_iconst (v := 0) C dX4_copy_60 (by decide) ?_
  refine r_aload_n C dX4_copy_61 rfl 0 rfl ?_
  refine r_getp (f := 407) (j := (p0 + 1)) C flX4_9 dX4_copy_62 hk0 (by decide) rfl (fun W => pt_407 hk0 W) ?_
  refine r_iconst (v := 0) C dX4_copy_65 (by decide) ?_
  refine r_aload_n C dX4_copy_66 rfl 0 rfl ?_
  show Jr _ _ _ _ _ _ 67 _
  refine r_getp (f := 407) (j := (p0 + 1)) C flX4_9 dX4_copy_67 hk0 (by decide) rfl (fun W => pt_407 hk0 W) ?_
  refine r_alen (n := 0) (v := 20) C dX4_copy_70 (pk_407 hk0) (by decide) (by decide) (congrArg Int32.ofNat (pl_407 hk0)) ?_
  refine r_copy (n0 := 20) (n1 := 20) (kd := 14) (ty := .int) C M (by decide) mlX4_36 (by decide) (pk_407 hk1) (pl_407 hk1) (pk_407 hk0) (pl_407 hk0) dX4_copy_71 h (fun q9 q10 q11 T12 h => ?_)
  exact r_vret C M dX4_copy_74 h
theorem dX10_copy_0 : decode cX10_copy 0 = .ok (.aload_n 0, 1) := by decide +kernel
theorem dX10_copy_1 : decode cX10_copy 1 = .ok (.aload_n 1, 1) := by decide +kernel
theorem dX10_copy_2 : decode cX10_copy 2 = .ok (.getfield 7, 3) := by decide +kernel
theorem dX10_copy_5 : decode cX10_copy 5 = .ok (.putfield 7, 3) := by decide +kernel
theorem dX10_copy_8 : decode cX10_copy 8 = .ok (.aload_n 0, 1) := by decide +kernel
theorem dX10_copy_9 : decode cX10_copy 9 = .ok (.aload_n 1, 1) := by decide +kernel
theorem dX10_copy_10 : decode cX10_copy 10 = .ok (.getfield 13, 3) := by decide +kernel
theorem dX10_copy_13 : decode cX10_copy 13 = .ok (.putfield 13, 3) := by decide +kernel
theorem dX10_copy_16 : decode cX10_copy 16 = .ok (.aload_n 0, 1) := by decide +kernel
theorem dX10_copy_17 : decode cX10_copy 17 = .ok (.aload_n 1, 1) := by decide +kernel
theorem dX10_copy_18 : decode cX10_copy 18 = .ok (.getfield 20, 3) := by decide +kernel
theorem dX10_copy_21 : decode cX10_copy 21 = .ok (.putfield 20, 3) := by decide +kernel
theorem dX10_copy_24 : decode cX10_copy 24 = .ok (.aload_n 1, 1) := by decide +kernel
theorem dX10_copy_25 : decode cX10_copy 25 = .ok (.getfield 16, 3) := by decide +kernel
theorem dX10_copy_28 : decode cX10_copy 28 = .ok (.iconst 0, 1) := by decide +kernel
theorem dX10_copy_29 : decode cX10_copy 29 = .ok (.aload_n 0, 1) := by decide +kernel
theorem dX10_copy_30 : decode cX10_copy 30 = .ok (.getfield 16, 3) := by decide +kernel
theorem dX10_copy_33 : decode cX10_copy 33 = .ok (.iconst 0, 1) := by decide +kernel
theorem dX10_copy_34 : decode cX10_copy 34 = .ok (.aload_n 0, 1) := by decide +kernel
theorem dX10_copy_35 : decode cX10_copy 35 = .ok (.getfield 16, 3) := by decide +kernel
theorem dX10_copy_38 : decode cX10_copy 38 = .ok (.arraylength, 1) := by decide +kernel
theorem dX10_copy_39 : decode cX10_copy 39 = .ok (.invokestatic 24, 3) := by decide +kernel
theorem dX10_copy_42 : decode cX10_copy 42 = .ok (.return_, 1) := by decide +kernel
noncomputable def f_X10_copy (p0 : Nat) (p1 : Nat) (T : Mm) : Option (Unit × Mm) :=
  lb (uI T 1000 p0 (gI T 1000 p1)) fun T1 =>
  lb (uI T1 1001 p0 (gI T1 1001 p1)) fun T2 =>
  gd ((gI T2 1002 p1) = 0 ∨ (gI T2 1002 p1) = 1) <|
  lb (uI T2 1002 p0 (gI T2 1002 p1)) fun T4 =>
  cp 0 0 16 16 16 fun q5 q6 q7 => lb (vB T4 (p0 + 1) (va_cpy (gB T4 (p1 + 1)) (gB T4 (p0 + 1)) q5 q6 q7)) fun T8 =>
  some ((), T8)
set_option maxRecDepth 100000 in
set_option maxHeartbeats 4000000 in
theorem s_X10_copy {ad : Nat → Nat} {U T : Mm} {q : Unit × Mm}  (p0 : Nat) (p1 : Nat) (hk0 : kS true p0 = 10) (hk1 : kS true p1 = 10) (h : f_X10_copy p0 p1 T = some q) : Cr 1 yX10_copy cX10_copy 2 none [.ref (ad p0), .ref (ad p1)] ad true U T eV q := by
  refine cr_of (by decide) (Nat.le_of_ble_eq_true rfl) fun x S0 hn9 C M => ?_
  have C : CB x RX10 cX10_copy := C
  refine Jr.eq (lv' := [(0, .ref (ad p0)), (1, .ref (ad p1))]) (st' := []) rfl rfl ?_
  unfold f_X10_copy at h
  refine r_aload_n C dX10_copy_0 rfl 0 rfl ?_
  refine r_aload_n C dX10_copy_1 rfl 1 rfl ?_
  refine r_geti (f := 1000) C flX10_7 dX10_copy_2 hk1 (by decide) (by decide) rfl ?_
  refine r_puti (f := 1000) C flX10_7 (by decide) rfl rfl dX10_copy_5 hk0 rfl h (fun T1 h => ?_)
  refine r_aload_n C dX10_copy_8 rfl 0 rfl ?_
  show Jr _ _ _ _ _ _ 9 _
  refine r_aload_n C dX10_copy_9 rfl 1 rfl ?_
  refine r_geti (f := 1001) C flX10_13 dX10_copy_10 hk1 (by decide) (by decide) rfl ?_
  refine r_puti (f := 1001) C flX10_13 (by decide) rfl rfl dX10_copy_13 hk0 rfl h (fun T2 h => ?_)
  refine r_aload_n C dX10_copy_16 rfl 0 rfl ?_
  refine r_aload_n C dX10_copy_17 rfl 1 rfl ?_
  refine r_geti (f := 1002) C flX10_20 dX10_copy_18 hk1 (by decide) (by decide) rfl ?_
  show Jr _ _ _ _ _ _ 21 _
  refine r_gd h (fun hz3 h => ?_)
  refine r_putz (f := 1002) C flX10_20 (by decide) rfl rfl hz3 dX10_copy_21 hk0 rfl h (fun T4 h => ?_)
  refine r_aload_n C dX10_copy_24 rfl 1 rfl ?_
  refine r_getp (f := 1003) (j := (p1 + 1)) C flX10_16 dX10_copy_25 hk1 (by decide) rfl (fun W => pt_1003 hk1 W) ?_
  refine r_iconst (v := 0) C dX10_copy_28 (by decide) ?_
  refine r_aload_n C dX10_copy_29 rfl 0 rfl ?_
  refine r_getp (f := 1003) (j := (p0 + 1)) C flX10_16 dX10_copy_30 hk0 (by decide) rfl (fun W => pt_1003 hk0 W) ?_
  show Jr _ _ _ _ _ _ 33 _
  refine r_iconst (v := 0) C dX10_copy_33 (by decide) ?_
  refine r_aload_n C dX10_copy_34 rfl 0 rfl ?_
  refine r_getp (f := 1003) (j := (p0 + 1)) C flX10_16 dX10_copy_35 hk0 (by decide) rfl (fun W => pt_1003 hk0 W) ?_
  refine r_alen (n := 0) (v := 16) C dX10_copy_38 (pk_1003 hk0) (by decide) (by decide) (congrArg Int32.ofNat (pl_1003 hk0)) ?_
  refine r_copyl (n0 := 16) (n1 := 16) C M (by decide) mlX10_24  (pk_1003 hk1) (pl_1003 hk1) (pk_1003 hk0) (pl_1003 hk0) dX10_copy_39 h (fun q5 q6 q7 T8 h => ?_)
  exact r_vret C M dX10_copy_42 h
theorem dX1_copy_0 : decode cX1_copy 0 = .ok (.aload_n 0, 1) := by decide +kernel
theorem dX1_copy_1 : decode cX1_copy 1 = .ok (.getfield 12, 3) := by decide +kernel
theorem dX1_copy_4 : decode cX1_copy 4 = .ok (.aload_n 1, 1) := by decide +kernel
theorem dX1_copy_5 : decode cX1_copy 5 = .ok (.getfield 12, 3) := by decide +kernel
theorem dX1_copy_8 : decode cX1_copy 8 = .ok (.invokevirtual 41, 3) := by decide +kernel
theorem dX1_copy_11 : decode cX1_copy 11 = .ok (.aload_n 0, 1) := by decide +kernel
theorem dX1_copy_12 : decode cX1_copy 12 = .ok (.getfield 21, 3) := by decide +kernel
theorem dX1_copy_15 : decode cX1_copy 15 = .ok (.aload_n 1, 1) := by decide +kernel
theorem dX1_copy_16 : decode cX1_copy 16 = .ok (.getfield 21, 3) := by decide +kernel
theorem dX1_copy_19 : decode cX1_copy 19 = .ok (.invokevirtual 45, 3) := by decide +kernel
theorem dX1_copy_22 : decode cX1_copy 22 = .ok (.aload_n 0, 1) := by decide +kernel
theorem dX1_copy_23 : decode cX1_copy 23 = .ok (.getfield 28, 3) := by decide +kernel
theorem dX1_copy_26 : decode cX1_copy 26 = .ok (.aload_n 1, 1) := by decide +kernel
theorem dX1_copy_27 : decode cX1_copy 27 = .ok (.getfield 28, 3) := by decide +kernel
theorem dX1_copy_30 : decode cX1_copy 30 = .ok (.invokevirtual 48, 3) := by decide +kernel
theorem dX1_copy_33 : decode cX1_copy 33 = .ok (.aload_n 1, 1) := by decide +kernel
theorem dX1_copy_34 : decode cX1_copy 34 = .ok (.getfield 34, 3) := by decide +kernel
theorem dX1_copy_37 : decode cX1_copy 37 = .ok (.iconst 0, 1) := by decide +kernel
theorem dX1_copy_38 : decode cX1_copy 38 = .ok (.aload_n 0, 1) := by decide +kernel
theorem dX1_copy_39 : decode cX1_copy 39 = .ok (.getfield 34, 3) := by decide +kernel
theorem dX1_copy_42 : decode cX1_copy 42 = .ok (.iconst 0, 1) := by decide +kernel
theorem dX1_copy_43 : decode cX1_copy 43 = .ok (.aload_n 0, 1) := by decide +kernel
theorem dX1_copy_44 : decode cX1_copy 44 = .ok (.getfield 34, 3) := by decide +kernel
theorem dX1_copy_47 : decode cX1_copy 47 = .ok (.arraylength, 1) := by decide +kernel
theorem dX1_copy_48 : decode cX1_copy 48 = .ok (.invokestatic 51, 3) := by decide +kernel
theorem dX1_copy_51 : decode cX1_copy 51 = .ok (.aload_n 1, 1) := by decide +kernel
theorem dX1_copy_52 : decode cX1_copy 52 = .ok (.getfield 38, 3) := by decide +kernel
theorem dX1_copy_55 : decode cX1_copy 55 = .ok (.iconst 0, 1) := by decide +kernel
theorem dX1_copy_56 : decode cX1_copy 56 = .ok (.aload_n 0, 1) := by decide +kernel
theorem dX1_copy_57 : decode cX1_copy 57 = .ok (.getfield 38, 3) := by decide +kernel
theorem dX1_copy_60 : decode cX1_copy 60 = .ok (.iconst 0, 1) := by decide +kernel
theorem dX1_copy_61 : decode cX1_copy 61 = .ok (.aload_n 0, 1) := by decide +kernel
theorem dX1_copy_62 : decode cX1_copy 62 = .ok (.getfield 38, 3) := by decide +kernel
theorem dX1_copy_65 : decode cX1_copy 65 = .ok (.arraylength, 1) := by decide +kernel
theorem dX1_copy_66 : decode cX1_copy 66 = .ok (.invokestatic 51, 3) := by decide +kernel
theorem dX1_copy_69 : decode cX1_copy 69 = .ok (.aload_n 0, 1) := by decide +kernel
theorem dX1_copy_70 : decode cX1_copy 70 = .ok (.aload_n 1, 1) := by decide +kernel
theorem dX1_copy_71 : decode cX1_copy 71 = .ok (.getfield 57, 3) := by decide +kernel
theorem dX1_copy_74 : decode cX1_copy 74 = .ok (.putfield 57, 3) := by decide +kernel
theorem dX1_copy_77 : decode cX1_copy 77 = .ok (.aload_n 0, 1) := by decide +kernel
theorem dX1_copy_78 : decode cX1_copy 78 = .ok (.aload_n 1, 1) := by decide +kernel
theorem dX1_copy_79 : decode cX1_copy 79 = .ok (.getfield 61, 3) := by decide +kernel
theorem dX1_copy_82 : decode cX1_copy 82 = .ok (.putfield 61, 3) := by decide +kernel
theorem dX1_copy_85 : decode cX1_copy 85 = .ok (.aload_n 0, 1) := by decide +kernel
theorem dX1_copy_86 : decode cX1_copy 86 = .ok (.aload_n 1, 1) := by decide +kernel
theorem dX1_copy_87 : decode cX1_copy 87 = .ok (.getfield 65, 3) := by decide +kernel
theorem dX1_copy_90 : decode cX1_copy 90 = .ok (.putfield 65, 3) := by decide +kernel
theorem dX1_copy_93 : decode cX1_copy 93 = .ok (.aload_n 0, 1) := by decide +kernel
theorem dX1_copy_94 : decode cX1_copy 94 = .ok (.aload_n 1, 1) := by decide +kernel
theorem dX1_copy_95 : decode cX1_copy 95 = .ok (.getfield 68, 3) := by decide +kernel
theorem dX1_copy_98 : decode cX1_copy 98 = .ok (.putfield 68, 3) := by decide +kernel
theorem dX1_copy_101 : decode cX1_copy 101 = .ok (.aload_n 0, 1) := by decide +kernel
theorem dX1_copy_102 : decode cX1_copy 102 = .ok (.aload_n 1, 1) := by decide +kernel
theorem dX1_copy_103 : decode cX1_copy 103 = .ok (.getfield 71, 3) := by decide +kernel
theorem dX1_copy_106 : decode cX1_copy 106 = .ok (.putfield 71, 3) := by decide +kernel
theorem dX1_copy_109 : decode cX1_copy 109 = .ok (.aload_n 0, 1) := by decide +kernel
theorem dX1_copy_110 : decode cX1_copy 110 = .ok (.aload_n 1, 1) := by decide +kernel
theorem dX1_copy_111 : decode cX1_copy 111 = .ok (.getfield 74, 3) := by decide +kernel
theorem dX1_copy_114 : decode cX1_copy 114 = .ok (.putfield 74, 3) := by decide +kernel
theorem dX1_copy_117 : decode cX1_copy 117 = .ok (.aload_n 0, 1) := by decide +kernel
theorem dX1_copy_118 : decode cX1_copy 118 = .ok (.aload_n 1, 1) := by decide +kernel
theorem dX1_copy_119 : decode cX1_copy 119 = .ok (.getfield 77, 3) := by decide +kernel
theorem dX1_copy_122 : decode cX1_copy 122 = .ok (.putfield 77, 3) := by decide +kernel
theorem dX1_copy_125 : decode cX1_copy 125 = .ok (.aload_n 0, 1) := by decide +kernel
theorem dX1_copy_126 : decode cX1_copy 126 = .ok (.aload_n 1, 1) := by decide +kernel
theorem dX1_copy_127 : decode cX1_copy 127 = .ok (.getfield 80, 3) := by decide +kernel
theorem dX1_copy_130 : decode cX1_copy 130 = .ok (.putfield 80, 3) := by decide +kernel
theorem dX1_copy_133 : decode cX1_copy 133 = .ok (.aload_n 0, 1) := by decide +kernel
theorem dX1_copy_134 : decode cX1_copy 134 = .ok (.aload_n 1, 1) := by decide +kernel
theorem dX1_copy_135 : decode cX1_copy 135 = .ok (.getfield 83, 3) := by decide +kernel
theorem dX1_copy_138 : decode cX1_copy 138 = .ok (.putfield 83, 3) := by decide +kernel
theorem dX1_copy_141 : decode cX1_copy 141 = .ok (.aload_n 0, 1) := by decide +kernel
theorem dX1_copy_142 : decode cX1_copy 142 = .ok (.aload_n 1, 1) := by decide +kernel
theorem dX1_copy_143 : decode cX1_copy 143 = .ok (.getfield 86, 3) := by decide +kernel
theorem dX1_copy_146 : decode cX1_copy 146 = .ok (.putfield 86, 3) := by decide +kernel
theorem dX1_copy_149 : decode cX1_copy 149 = .ok (.aload_n 0, 1) := by decide +kernel
theorem dX1_copy_150 : decode cX1_copy 150 = .ok (.aload_n 1, 1) := by decide +kernel
theorem dX1_copy_151 : decode cX1_copy 151 = .ok (.getfield 89, 3) := by decide +kernel
theorem dX1_copy_154 : decode cX1_copy 154 = .ok (.putfield 89, 3) := by decide +kernel
theorem dX1_copy_157 : decode cX1_copy 157 = .ok (.aload_n 0, 1) := by decide +kernel
theorem dX1_copy_158 : decode cX1_copy 158 = .ok (.aload_n 1, 1) := by decide +kernel
theorem dX1_copy_159 : decode cX1_copy 159 = .ok (.getfield 92, 3) := by decide +kernel
theorem dX1_copy_162 : decode cX1_copy 162 = .ok (.putfield 92, 3) := by decide +kernel
theorem dX1_copy_165 : decode cX1_copy 165 = .ok (.aload_n 0, 1) := by decide +kernel
theorem dX1_copy_166 : decode cX1_copy 166 = .ok (.aload_n 1, 1) := by decide +kernel
theorem dX1_copy_167 : decode cX1_copy 167 = .ok (.getfield 95, 3) := by decide +kernel
theorem dX1_copy_170 : decode cX1_copy 170 = .ok (.putfield 95, 3) := by decide +kernel
theorem dX1_copy_173 : decode cX1_copy 173 = .ok (.aload_n 0, 1) := by decide +kernel
theorem dX1_copy_174 : decode cX1_copy 174 = .ok (.aload_n 1, 1) := by decide +kernel
theorem dX1_copy_175 : decode cX1_copy 175 = .ok (.getfield 98, 3) := by decide +kernel
theorem dX1_copy_178 : decode cX1_copy 178 = .ok (.putfield 98, 3) := by decide +kernel
theorem dX1_copy_181 : decode cX1_copy 181 = .ok (.aload_n 0, 1) := by decide +kernel
theorem dX1_copy_182 : decode cX1_copy 182 = .ok (.aload_n 1, 1) := by decide +kernel
theorem dX1_copy_183 : decode cX1_copy 183 = .ok (.getfield 101, 3) := by decide +kernel
theorem dX1_copy_186 : decode cX1_copy 186 = .ok (.putfield 101, 3) := by decide +kernel
theorem dX1_copy_189 : decode cX1_copy 189 = .ok (.aload_n 0, 1) := by decide +kernel
theorem dX1_copy_190 : decode cX1_copy 190 = .ok (.aload_n 1, 1) := by decide +kernel
theorem dX1_copy_191 : decode cX1_copy 191 = .ok (.getfield 104, 3) := by decide +kernel
theorem dX1_copy_194 : decode cX1_copy 194 = .ok (.putfield 104, 3) := by decide +kernel
theorem dX1_copy_197 : decode cX1_copy 197 = .ok (.return_, 1) := by decide +kernel
noncomputable def f_X1_copy (p0 : Nat) (p1 : Nat) (T : Mm) : Option (Unit × Mm) :=
  bd (f_X7_copy (p0 + 1) (p1 + 1) T) fun _ T1 =>
  bd (f_X4_copy (p0 + 3) (p1 + 3) T1) fun _ T2 =>
  bd (f_X10_copy (p0 + 5) (p1 + 5) T2) fun _ T3 =>
  cp 0 0 8 8 8 fun q4 q5 q6 => lb (vA T3 (p0 + 7) (va_cpy (gA T3 (p1 + 7)) (gA T3 (p0 + 7)) q4 q5 q6)) fun T7 =>
  cp 0 0 8 8 8 fun q8 q9 q10 => lb (vA T7 (p0 + 8) (va_cpy (gA T7 (p1 + 8)) (gA T7 (p0 + 8)) q8 q9 q10)) fun T11 =>
  gd ((gI T11 105 p1) = 0 ∨ (gI T11 105 p1) = 1) <|
  lb (uI T11 105 p0 (gI T11 105 p1)) fun T13 =>
  lb (uI T13 106 p0 (gI T13 106 p1)) fun T14 =>
  gd ((gI T14 107 p1) = 0 ∨ (gI T14 107 p1) = 1) <|
  lb (uI T14 107 p0 (gI T14 107 p1)) fun T16 =>
  lb (uI T16 108 p0 (gI T16 108 p1)) fun T17 =>
  gd ((gI T17 109 p1) = 0 ∨ (gI T17 109 p1) = 1) <|
  lb (uI T17 109 p0 (gI T17 109 p1)) fun T19 =>
  gd ((gI T19 110 p1) = 0 ∨ (gI T19 110 p1) = 1) <|
  lb (uI T19 110 p0 (gI T19 110 p1)) fun T21 =>
  gd ((gI T21 111 p1) = 0 ∨ (gI T21 111 p1) = 1) <|
  lb (uI T21 111 p0 (gI T21 111 p1)) fun T23 =>
  lb (uI T23 112 p0 (gI T23 112 p1)) fun T24 =>
  lb (uI T24 113 p0 (gI T24 113 p1)) fun T25 =>
  lb (uI T25 114 p0 (gI T25 114 p1)) fun T26 =>
  lb (uI T26 115 p0 (gI T26 115 p1)) fun T27 =>
  lb (uI T27 116 p0 (gI T27 116 p1)) fun T28 =>
  lb (uI T28 117 p0 (gI T28 117 p1)) fun T29 =>
  lb (uI T29 118 p0 (gI T29 118 p1)) fun T30 =>
  lb (uI T30 119 p0 (gI T30 119 p1)) fun T31 =>
  lb (uI T31 120 p0 (gI T31 120 p1)) fun T32 =>
  some ((), T32)
set_option maxRecDepth 100000 in
set_option maxHeartbeats 4000000 in
theorem s_X1_copy {ad : Nat → Nat} {U T : Mm} {q : Unit × Mm}  (p0 : Nat) (p1 : Nat) (hk0 : kS true p0 = 1) (hk1 : kS true p1 = 1) (h : f_X1_copy p0 p1 T = some q) : Cr 2 yX1_copy cX1_copy 2 none [.ref (ad p0), .ref (ad p1)] ad true U T eV q := by
  refine cr_of (by decide) (Nat.le_of_ble_eq_true rfl) fun x S0 hn9 C M => ?_
  have C : CB x RX1 cX1_copy := C
  refine Jr.eq (lv' := [(0, .ref (ad p0)), (1, .ref (ad p1))]) (st' := []) rfl rfl ?_
  unfold f_X1_copy at h
  refine r_aload_n C dX1_copy_0 rfl 0 rfl ?_
  refine r_getp (f := 100) (j := (p0 + 1)) C flX1_12 dX1_copy_1 hk0 (by decide) rfl (fun W => pt_100 hk0 W) ?_
  refine r_aload_n C dX1_copy_4 rfl 1 rfl ?_
  refine r_getp (f := 100) (j := (p1 + 1)) C flX1_12 dX1_copy_5 hk1 (by decide) rfl (fun W => pt_100 hk1 W) ?_
  refine r_callVN C M h [.ref (ad (p1 + 1))] [] mlX1_41 mcX7_copy (fun q9 e9 => s_X7_copy (p0 + 1) (p1 + 1) (pk_100 hk0) (pk_100 hk1) e9) (pk_100 hk0) rfl (by decide) (by decide) rfl rfl (Nat.le_of_ble_eq_true rfl) dX1_copy_8 (fun _ T1 h => ?_)
  show Jr _ _ _ _ _ _ 11 _
  refine r_aload_n C dX1_copy_11 rfl 0 rfl ?_
  refine r_getp (f := 101) (j := (p0 + 3)) C flX1_21 dX1_copy_12 hk0 (by decide) rfl (fun W => pt_101 hk0 W) ?_
  refine r_aload_n C dX1_copy_15 rfl 1 rfl ?_
  refine r_getp (f := 101) (j := (p1 + 3)) C flX1_21 dX1_copy_16 hk1 (by decide) rfl (fun W => pt_101 hk1 W) ?_
  refine r_callVN C M h [.ref (ad (p1 + 3))] [] mlX1_45 mcX4_copy (fun q9 e9 => s_X4_copy (p0 + 3) (p1 + 3) (pk_101 hk0) (pk_101 hk1) e9) (pk_101 hk0) rfl (by decide) (by decide) rfl rfl (Nat.le_of_ble_eq_true rfl) dX1_copy_19 (fun _ T2 h => ?_)
  refine r_aload_n C dX1_copy_22 rfl 0 rfl ?_
  show Jr _ _ _ _ _ _ 23 _
  refine r_getp (f := 102) (j := (p0 + 5)) C flX1_28 dX1_copy_23 hk0 (by decide) rfl (fun W => pt_102 hk0 W) ?_
  refine r_aload_n C dX1_copy_26 rfl 1 rfl ?_
  refine r_getp (f := 102) (j := (p1 + 5)) C flX1_28 dX1_copy_27 hk1 (by decide) rfl (fun W => pt_102 hk1 W) ?_
  refine r_callVN C M h [.ref (ad (p1 + 5))] [] mlX1_48 mcX10_copy (fun q9 e9 => s_X10_copy (p0 + 5) (p1 + 5) (pk_102 hk0) (pk_102 hk1) e9) (pk_102 hk0) rfl (by decide) (by decide) rfl rfl (Nat.le_of_ble_eq_true rfl) dX1_copy_30 (fun _ T3 h => ?_)
  refine r_aload_n C dX1_copy_33 rfl 1 rfl ?_
  refine r_getp (f := 103) (j := (p1 + 7)) C flX1_34 dX1_copy_34 hk1 (by decide) rfl (fun W => pt_103 hk1 W) ?_
  show Jr _ _ _ _ _ _ 37 _
  refine r_iconst (v := 0) C dX1_copy_37 (by decide) ?_
  refine r_aload_n C dX1_copy_38 rfl 0 rfl ?_
  refine r_getp (f := 103) (j := (p0 + 7)) C flX1_34 dX1_copy_39 hk0 (by decide) rfl (fun W => pt_103 hk0 W) ?_
  refine r_iconst (v := 0) C dX1_copy_42 (by decide) ?_
  refine r_aload_n C dX1_copy_43 rfl 0 rfl ?_
  refine r_getp (f := 103) (j := (p0 + 7)) C flX1_34 dX1_copy_44 hk0 (by decide) rfl (fun W => pt_103 hk0 W) ?_
  show Jr _ _ _ _ _ _ 47 _
  refine r_alen (n := 0) (v := 8) C dX1_copy_47 (pk_103 hk0) (by decide) (by decide) (congrArg Int32.ofNat (pl_103 hk0)) ?_
  refine r_copy (n0 := 8) (n1 := 8) (kd := 14) (ty := .int) C M (by decide) mlX1_51 (by decide) (pk_103 hk1) (pl_103 hk1) (pk_103 hk0) (pl_103 hk0) dX1_copy_48 h (fun q4 q5 q6 T7 h => ?_)
  refine r_aload_n C dX1_copy_51 rfl 1 rfl ?_
  refine r_getp (f := 104) (j := (p1 + 8)) C flX1_38 dX1_copy_52 hk1 (by decide) rfl (fun W => pt_104 hk1 W) ?_
  refine r_iconst (v := 0) C dX1_copy_55 (by decide) ?_
  refine r_aload_n C dX1_copy_56 rfl 0 rfl ?_
  show Jr _ _ _ _ _ _ 57 _
  refine r_getp (f := 104) (j := (p0 + 8)) C flX1_38 dX1_copy_57 hk0 (by decide) rfl (fun W => pt_104 hk0 W) ?_
  refine r_iconst (v := 0) C dX1_copy_60 (by decide) ?_
  refine r_aload_n C dX1_copy_61 rfl 0 rfl ?_
  refine r_getp (f := 104) (j := (p0 + 8)) C flX1_38 dX1_copy_62 hk0 (by decide) rfl (fun W => pt_104 hk0 W) ?_
  refine r_alen (n := 0) (v := 8) C dX1_copy_65 (pk_104 hk0) (by decide) (by decide) (congrArg Int32.ofNat (pl_104 hk0)) ?_
  refine r_copy (n0 := 8) (n1 := 8) (kd := 14) (ty := .int) C M (by decide) mlX1_51 (by decide) (pk_104 hk1) (pl_104 hk1) (pk_104 hk0) (pl_104 hk0) dX1_copy_66 h (fun q8 q9 q10 T11 h => ?_)
  show Jr _ _ _ _ _ _ 69 _
  refine r_aload_n C dX1_copy_69 rfl 0 rfl ?_
  refine r_aload_n C dX1_copy_70 rfl 1 rfl ?_
  refine r_geti (f := 105) C flX1_57 dX1_copy_71 hk1 (by decide) (by decide) rfl ?_
  refine r_gd h (fun hz12 h => ?_)
  refine r_putz (f := 105) C flX1_57 (by decide) rfl rfl hz12 dX1_copy_74 hk0 rfl h (fun T13 h => ?_)
  refine r_aload_n C dX1_copy_77 rfl 0 rfl ?_
  refine r_aload_n C dX1_copy_78 rfl 1 rfl ?_
  show Jr _ _ _ _ _ _ 79 _
  refine r_geti (f := 106) C flX1_61 dX1_copy_79 hk1 (by decide) (by decide) rfl ?_
  refine r_puti (f := 106) C flX1_61 (by decide) rfl rfl dX1_copy_82 hk0 rfl h (fun T14 h => ?_)
  refine r_aload_n C dX1_copy_85 rfl 0 rfl ?_
  refine r_aload_n C dX1_copy_86 rfl 1 rfl ?_
  refine r_geti (f := 107) C flX1_65 dX1_copy_87 hk1 (by decide) (by decide) rfl ?_
  refine r_gd h (fun hz15 h => ?_)
  refine r_putz (f := 107) C flX1_65 (by decide) rfl rfl hz15 dX1_copy_90 hk0 rfl h (fun T16 h => ?_)
  show Jr _ _ _ _ _ _ 93 _
  refine r_aload_n C dX1_copy_93 rfl 0 rfl ?_
  refine r_aload_n C dX1_copy_94 rfl 1 rfl ?_
  refine r_geti (f := 108) C flX1_68 dX1_copy_95 hk1 (by decide) (by decide) rfl ?_
  refine r_puti (f := 108) C flX1_68 (by decide) rfl rfl dX1_copy_98 hk0 rfl h (fun T17 h => ?_)
  refine r_aload_n C dX1_copy_101 rfl 0 rfl ?_
  refine r_aload_n C dX1_copy_102 rfl 1 rfl ?_
  show Jr _ _ _ _ _ _ 103 _
  refine r_geti (f := 109) C flX1_71 dX1_copy_103 hk1 (by decide) (by decide) rfl ?_
  refine r_gd h (fun hz18 h => ?_)
  refine r_putz (f := 109) C flX1_71 (by decide) rfl rfl hz18 dX1_copy_106 hk0 rfl h (fun T19 h => ?_)
  refine r_aload_n C dX1_copy_109 rfl 0 rfl ?_
  refine r_aload_n C dX1_copy_110 rfl 1 rfl ?_
  refine r_geti (f := 110) C flX1_74 dX1_copy_111 hk1 (by decide) (by decide) rfl ?_
  refine r_gd h (fun hz20 h => ?_)
  refine r_putz (f := 110) C flX1_74 (by decide) rfl rfl hz20 dX1_copy_114 hk0 rfl h (fun T21 h => ?_)
  show Jr _ _ _ _ _ _ 117 _
  refine r_aload_n C dX1_copy_117 rfl 0 rfl ?_
  refine r_aload_n C dX1_copy_118 rfl 1 rfl ?_
  refine r_geti (f := 111) C flX1_77 dX1_copy_119 hk1 (by decide) (by decide) rfl ?_
  refine r_gd h (fun hz22 h => ?_)
  refine r_putz (f := 111) C flX1_77 (by decide) rfl rfl hz22 dX1_copy_122 hk0 rfl h (fun T23 h => ?_)
  refine r_aload_n C dX1_copy_125 rfl 0 rfl ?_
  refine r_aload_n C dX1_copy_126 rfl 1 rfl ?_
  show Jr _ _ _ _ _ _ 127 _
  refine r_geti (f := 112) C flX1_80 dX1_copy_127 hk1 (by decide) (by decide) rfl ?_
  refine r_puti (f := 112) C flX1_80 (by decide) rfl rfl dX1_copy_130 hk0 rfl h (fun T24 h => ?_)
  refine r_aload_n C dX1_copy_133 rfl 0 rfl ?_
  refine r_aload_n C dX1_copy_134 rfl 1 rfl ?_
  refine r_geti (f := 113) C flX1_83 dX1_copy_135 hk1 (by decide) (by decide) rfl ?_
  refine r_puti (f := 113) C flX1_83 (by decide) rfl rfl dX1_copy_138 hk0 rfl h (fun T25 h => ?_)
  show Jr _ _ _ _ _ _ 141 _
  refine r_aload_n C dX1_copy_141 rfl 0 rfl ?_
  refine r_aload_n C dX1_copy_142 rfl 1 rfl ?_
  refine r_geti (f := 114) C flX1_86 dX1_copy_143 hk1 (by decide) (by decide) rfl ?_
  refine r_puti (f := 114) C flX1_86 (by decide) rfl rfl dX1_copy_146 hk0 rfl h (fun T26 h => ?_)
  refine r_aload_n C dX1_copy_149 rfl 0 rfl ?_
  refine r_aload_n C dX1_copy_150 rfl 1 rfl ?_
  show Jr _ _ _ _ _ _ 151 _
  refine r_geti (f := 115) C flX1_89 dX1_copy_151 hk1 (by decide) (by decide) rfl ?_
  refine r_puti (f := 115) C flX1_89 (by decide) rfl rfl dX1_copy_154 hk0 rfl h (fun T27 h => ?_)
  refine r_aload_n C dX1_copy_157 rfl 0 rfl ?_
  refine r_aload_n C dX1_copy_158 rfl 1 rfl ?_
  refine r_geti (f := 116) C flX1_92 dX1_copy_159 hk1 (by decide) (by decide) rfl ?_
  refine r_puti (f := 116) C flX1_92 (by decide) rfl rfl dX1_copy_162 hk0 rfl h (fun T28 h => ?_)
  show Jr _ _ _ _ _ _ 165 _
  refine r_aload_n C dX1_copy_165 rfl 0 rfl ?_
  refine r_aload_n C dX1_copy_166 rfl 1 rfl ?_
  refine r_geti (f := 117) C flX1_95 dX1_copy_167 hk1 (by decide) (by decide) rfl ?_
  refine r_puti (f := 117) C flX1_95 (by decide) rfl rfl dX1_copy_170 hk0 rfl h (fun T29 h => ?_)
  refine r_aload_n C dX1_copy_173 rfl 0 rfl ?_
  refine r_aload_n C dX1_copy_174 rfl 1 rfl ?_
  show Jr _ _ _ _ _ _ 175 _
  refine r_geti (f := 118) C flX1_98 dX1_copy_175 hk1 (by decide) (by decide) rfl ?_
  refine r_puti (f := 118) C flX1_98 (by decide) rfl rfl dX1_copy_178 hk0 rfl h (fun T30 h => ?_)
  refine r_aload_n C dX1_copy_181 rfl 0 rfl ?_
  refine r_aload_n C dX1_copy_182 rfl 1 rfl ?_
  refine r_geti (f := 119) C flX1_101 dX1_copy_183 hk1 (by decide) (by decide) rfl ?_
  refine r_puti (f := 119) C flX1_101 (by decide) rfl rfl dX1_copy_186 hk0 rfl h (fun T31 h => ?_)
  show Jr _ _ _ _ _ _ 189 _
  refine r_aload_n C dX1_copy_189 rfl 0 rfl ?_
  refine r_aload_n C dX1_copy_190 rfl 1 rfl ?_
  refine r_geti (f := 120) C flX1_104 dX1_copy_191 hk1 (by decide) (by decide) rfl ?_
  refine r_puti (f := 120) C flX1_104 (by decide) rfl rfl dX1_copy_194 hk0 rfl h (fun T32 h => ?_)
  exact r_vret C M dX1_copy_197 h
theorem dX6_nextPage_0 : decode cX6_nextPage 0 = .ok (.aload_n 0, 1) := by decide +kernel
theorem dX6_nextPage_1 : decode cX6_nextPage 1 = .ok (.getfield 25, 3) := by decide +kernel
theorem dX6_nextPage_4 : decode cX6_nextPage 4 = .ok (.iconst 0, 1) := by decide +kernel
theorem dX6_nextPage_5 : decode cX6_nextPage 5 = .ok (.aload_n 0, 1) := by decide +kernel
theorem dX6_nextPage_6 : decode cX6_nextPage 6 = .ok (.getfield 32, 3) := by decide +kernel
theorem dX6_nextPage_9 : decode cX6_nextPage 9 = .ok (.bipush 12, 2) := by decide +kernel
theorem dX6_nextPage_11 : decode cX6_nextPage 11 = .ok (.invokestatic 49, 3) := by decide +kernel
theorem dX6_nextPage_14 : decode cX6_nextPage 14 = .ok (.invokestatic 55, 3) := by decide +kernel
theorem dX6_nextPage_17 : decode cX6_nextPage 17 = .ok (.aaload, 1) := by decide +kernel
theorem dX6_nextPage_18 : decode cX6_nextPage 18 = .ok (.areturn, 1) := by decide +kernel
noncomputable def f_X6_nextPage (T : Mm) : Option (Nat × Mm) :=
  bd (f_J9_min_7cf53 (gI T 602 5) 12 T) fun v1 T2 =>
  bd (f_J9_max_7cf53 0 v1 T2) fun v3 T4 =>
  ix v3 13 fun j5 =>
  some ((10 + j5), T4)
set_option maxRecDepth 100000 in
set_option maxHeartbeats 4000000 in
theorem s_X6_nextPage {ad : Nat → Nat} {U T : Mm} {q : Nat × Mm}  (h : f_X6_nextPage  T = some q) : Cr 2 yX6_nextPage cX6_nextPage 1 (some (.array .int)) [.ref (ad 5)] ad true U T (eR ad) q := by
  refine cr_of (by decide) (Nat.le_of_ble_eq_true rfl) fun x S0 hn9 C M => ?_
  have C : CB x RX6 cX6_nextPage := C
  refine Jr.eq (lv' := [(0, .ref (ad 5))]) (st' := []) rfl rfl ?_
  unfold f_X6_nextPage at h
  refine r_aload_n C dX6_nextPage_0 rfl 0 rfl ?_
  refine r_getp (f := 606) (j := 9) C flX6_25 dX6_nextPage_1 kq_5 (by decide) rfl (fun W => pt_606 kq_5 W) ?_
  refine r_iconst (v := 0) C dX6_nextPage_4 (by decide) ?_
  refine r_aload_n C dX6_nextPage_5 rfl 0 rfl ?_
  refine r_geti (f := 602) C flX6_32 dX6_nextPage_6 kq_5 (by decide) (by decide) rfl ?_
  show Jr _ _ _ _ _ _ 9 _
  refine r_bipush (v := 12) C dX6_nextPage_9 (by decide) ?_
  refine r_callSI C M h [.int (gI T 602 5), .int 12] [.int 0, .ref (ad 9)] mlX6_49 mcJ9_min_7cf53 (fun q9 e9 => s_J9_min_7cf53 (gI T 602 5) 12  e9) (by decide) (by decide) rfl rfl (Nat.le_of_ble_eq_true rfl) dX6_nextPage_11 (fun v1 T2 h => ?_)
  refine r_callSI C M h [.int 0, .int v1] [.ref (ad 9)] mlX6_55 mcJ9_max_7cf53 (fun q9 e9 => s_J9_max_7cf53 0 v1  e9) (by decide) (by decide) rfl rfl (Nat.le_of_ble_eq_true rfl) dX6_nextPage_14 (fun v3 T4 h => ?_)
  refine r_aaldR (n := 13) (t := fun j9 => (10 + j9)) C dX6_nextPage_17 kq_9 lq_9 (fun hj W => pe_9 hj W) h (fun j5 hj6 h => ?_)
  refine Jr.eq (lv' := [(0, .ref (ad 5))]) (st' := [.ref (ad (10 + j5))]) rfl rfl ?_
  exact r_aret C M (Or.inr ⟨_, rfl⟩) dX6_nextPage_18 h
theorem dX7_pageHigh_0 : decode cX7_pageHigh 0 = .ok (.getstatic 78, 3) := by decide +kernel
theorem dX7_pageHigh_3 : decode cX7_pageHigh 3 = .ok (.aload_n 0, 1) := by decide +kernel
theorem dX7_pageHigh_4 : decode cX7_pageHigh 4 = .ok (.getfield 15, 3) := by decide +kernel
theorem dX7_pageHigh_7 : decode cX7_pageHigh 7 = .ok (.iconst 3, 1) := by decide +kernel
theorem dX7_pageHigh_8 : decode cX7_pageHigh 8 = .ok (.iand, 1) := by decide +kernel
theorem dX7_pageHigh_9 : decode cX7_pageHigh 9 = .ok (.iaload, 1) := by decide +kernel
theorem dX7_pageHigh_10 : decode cX7_pageHigh 10 = .ok (.ireturn, 1) := by decide +kernel
noncomputable def f_X7_pageHigh (p0 : Nat) (T : Mm) : Option (Int32 × Mm) :=
  ix ((gI T 700 p0) &&& 3) 4 fun j1 =>
  some ((st_FORMAT_HIGH.getD j1 0), T)
set_option maxRecDepth 100000 in
set_option maxHeartbeats 4000000 in
theorem s_X7_pageHigh {ad : Nat → Nat} {U T : Mm} {q : Int32 × Mm}  (p0 : Nat) (hk0 : kS true p0 = 7) (h : f_X7_pageHigh p0 T = some q) : Cr 1 yX7_pageHigh cX7_pageHigh 1 (some .int) [.ref (ad p0)] ad true U T eI q := by
  refine cr_of (by decide) (Nat.le_of_ble_eq_true rfl) fun x S0 hn9 C M => ?_
  have C : CB x RX7 cX7_pageHigh := C
  refine Jr.eq (lv' := [(0, .ref (ad p0))]) (st' := []) rfl rfl ?_
  unfold f_X7_pageHigh at h
  refine r_gets C 1 rfl (Or.inr ⟨_, gsX7_78⟩) dX7_pageHigh_0 ?_
  refine r_aload_n C dX7_pageHigh_3 rfl 0 rfl ?_
  refine r_geti (f := 700) C flX7_15 dX7_pageHigh_4 hk0 (by decide) (by decide) rfl ?_
  refine r_iconst (v := 3) C dX7_pageHigh_7 (by decide) ?_
  refine r_iand C dX7_pageHigh_8 rfl ?_
  show Jr _ _ _ _ _ _ 9 _
  refine r_stld C 1 rfl (n := 4) rfl dX7_pageHigh_9 h (fun j1 hj2 h => ?_)
  exact r_iret C M dX7_pageHigh_10 h
theorem dX0_turnWord_0 : decode cX0_turnWord 0 = .ok (.iload_n 3, 1) := by decide +kernel
theorem dX0_turnWord_1 : decode cX0_turnWord 1 = .ok (.istore 4, 2) := by decide +kernel
theorem dX0_turnWord_3 : decode cX0_turnWord 3 = .ok (.iconst 0, 1) := by decide +kernel
theorem dX0_turnWord_4 : decode cX0_turnWord 4 = .ok (.istore 5, 2) := by decide +kernel
theorem dX0_turnWord_6 : decode cX0_turnWord 6 = .ok (.iload 5, 2) := by decide +kernel
theorem dX0_turnWord_8 : decode cX0_turnWord 8 = .ok (.bipush 32, 2) := by decide +kernel
theorem dX0_turnWord_10 : decode cX0_turnWord 10 = .ok (.if_icmp .ge 66, 3) := by decide +kernel
theorem dX0_turnWord_13 : decode cX0_turnWord 13 = .ok (.iload 4, 2) := by decide +kernel
theorem dX0_turnWord_15 : decode cX0_turnWord 15 = .ok (.ifCond .eq 61, 3) := by decide +kernel
theorem dX0_turnWord_18 : decode cX0_turnWord 18 = .ok (.iload_n 2, 1) := by decide +kernel
theorem dX0_turnWord_19 : decode cX0_turnWord 19 = .ok (.iload 5, 2) := by decide +kernel
theorem dX0_turnWord_21 : decode cX0_turnWord 21 = .ok (.isub, 1) := by decide +kernel
theorem dX0_turnWord_22 : decode cX0_turnWord 22 = .ok (.bipush 20, 2) := by decide +kernel
theorem dX0_turnWord_24 : decode cX0_turnWord 24 = .ok (.imul, 1) := by decide +kernel
theorem dX0_turnWord_25 : decode cX0_turnWord 25 = .ok (.iload_n 1, 1) := by decide +kernel
theorem dX0_turnWord_26 : decode cX0_turnWord 26 = .ok (.iconst 5, 1) := by decide +kernel
theorem dX0_turnWord_27 : decode cX0_turnWord 27 = .ok (.ishr, 1) := by decide +kernel
theorem dX0_turnWord_28 : decode cX0_turnWord 28 = .ok (.iadd, 1) := by decide +kernel
theorem dX0_turnWord_29 : decode cX0_turnWord 29 = .ok (.istore 6, 2) := by decide +kernel
theorem dX0_turnWord_31 : decode cX0_turnWord 31 = .ok (.iload 4, 2) := by decide +kernel
theorem dX0_turnWord_33 : decode cX0_turnWord 33 = .ok (.ifCond .ge 31, 3) := by decide +kernel
theorem dX0_turnWord_36 : decode cX0_turnWord 36 = .ok (.iload 6, 2) := by decide +kernel
theorem dX0_turnWord_38 : decode cX0_turnWord 38 = .ok (.ifCond .lt 26, 3) := by decide +kernel
theorem dX0_turnWord_41 : decode cX0_turnWord 41 = .ok (.iload 6, 2) := by decide +kernel
theorem dX0_turnWord_43 : decode cX0_turnWord 43 = .ok (.aload_n 0, 1) := by decide +kernel
theorem dX0_turnWord_44 : decode cX0_turnWord 44 = .ok (.arraylength, 1) := by decide +kernel
theorem dX0_turnWord_45 : decode cX0_turnWord 45 = .ok (.if_icmp .ge 19, 3) := by decide +kernel
theorem dX0_turnWord_48 : decode cX0_turnWord 48 = .ok (.aload_n 0, 1) := by decide +kernel
theorem dX0_turnWord_49 : decode cX0_turnWord 49 = .ok (.iload 6, 2) := by decide +kernel
theorem dX0_turnWord_51 : decode cX0_turnWord 51 = .ok (.dup2, 1) := by decide +kernel
theorem dX0_turnWord_52 : decode cX0_turnWord 52 = .ok (.iaload, 1) := by decide +kernel
theorem dX0_turnWord_53 : decode cX0_turnWord 53 = .ok (.iconst 1, 1) := by decide +kernel
theorem dX0_turnWord_54 : decode cX0_turnWord 54 = .ok (.bipush 31, 2) := by decide +kernel
theorem dX0_turnWord_56 : decode cX0_turnWord 56 = .ok (.iload_n 1, 1) := by decide +kernel
theorem dX0_turnWord_57 : decode cX0_turnWord 57 = .ok (.bipush 31, 2) := by decide +kernel
theorem dX0_turnWord_59 : decode cX0_turnWord 59 = .ok (.iand, 1) := by decide +kernel
theorem dX0_turnWord_60 : decode cX0_turnWord 60 = .ok (.isub, 1) := by decide +kernel
theorem dX0_turnWord_61 : decode cX0_turnWord 61 = .ok (.ishl, 1) := by decide +kernel
theorem dX0_turnWord_62 : decode cX0_turnWord 62 = .ok (.ior, 1) := by decide +kernel
theorem dX0_turnWord_63 : decode cX0_turnWord 63 = .ok (.iastore, 1) := by decide +kernel
theorem dX0_turnWord_64 : decode cX0_turnWord 64 = .ok (.iload 4, 2) := by decide +kernel
theorem dX0_turnWord_66 : decode cX0_turnWord 66 = .ok (.iconst 1, 1) := by decide +kernel
theorem dX0_turnWord_67 : decode cX0_turnWord 67 = .ok (.ishl, 1) := by decide +kernel
theorem dX0_turnWord_68 : decode cX0_turnWord 68 = .ok (.istore 4, 2) := by decide +kernel
theorem dX0_turnWord_70 : decode cX0_turnWord 70 = .ok (.iinc 5 1, 3) := by decide +kernel
theorem dX0_turnWord_73 : decode cX0_turnWord 73 = .ok (.goto (-67), 3) := by decide +kernel
theorem dX0_turnWord_76 : decode cX0_turnWord 76 = .ok (.return_, 1) := by decide +kernel
noncomputable def f_X0_turnWord_b6 (k6 : Nat → Int32 → Int32 → Int32 → Int32 → Mm → Option (Unit × Mm)) (a0 : Nat) (a1 : Int32) (a2 : Int32) (a4 : Int32) (a5 : Int32) (T : Mm) : Option (Unit × Mm) :=
  if 32 ≤ a5 then (some ((), T))
  else (if a4 = 0 then (some ((), T))
  else (lb ((((a2 - a5) * 20) + (a1 >>> ((5 : Int32) &&& 31)))) fun v1 =>
  if 0 ≤ a4 then (lb ((a4 <<< ((1 : Int32) &&& 31))) fun v2 =>
  k6 a0 a1 a2 v2 (a5 + 1) T)
  else (if v1 < 0 then (lb ((a4 <<< ((1 : Int32) &&& 31))) fun v3 =>
  k6 a0 a1 a2 v3 (a5 + 1) T)
  else (if (Int32.ofNat (LN a0)) ≤ v1 then (lb ((a4 <<< ((1 : Int32) &&& 31))) fun v4 =>
  k6 a0 a1 a2 v4 (a5 + 1) T)
  else (ix v1 (LN a0) fun j5 =>
  ix v1 (LN a0) fun j7 => lb (uA T a0 j7 (((gA T a0 j5) ||| ((1 : Int32) <<< (((31 : Int32) - (a1 &&& 31)) &&& 31))))) fun T9 =>
  lb ((a4 <<< ((1 : Int32) &&& 31))) fun v10 =>
  k6 a0 a1 a2 v10 (a5 + 1) T9)))))
set_option maxRecDepth 100000 in
set_option maxHeartbeats 4000000 in
theorem s_X0_turnWord_b6 {x : JX} {ad : Nat → Nat} {U : Mm} {S0 : Hp} {q : Unit × Mm}  {k6 : Nat → Int32 → Int32 → Int32 → Int32 → Mm → Option (Unit × Mm)} (hn9 : x_n x = 7) (C : CB x RX0 cX0_turnWord) (M : CMr x 1 none S0 ad true U eV q) (hk6 : ∀ (a0 : Nat) (a1 : Int32) (a2 : Int32) (a4 : Int32) (a5 : Int32) (T : Mm) (_ : kS true a0 = 14), k6 a0 a1 a2 a4 a5 T = some q → Jr x ad true U T [(0, .ref (ad a0)), (1, .int a1), (2, .int a2), (4, .int a4), (5, .int a5)] 6 []) (a0 : Nat) (a1 : Int32) (a2 : Int32) (a4 : Int32) (a5 : Int32) (T : Mm) (ha0 : kS true a0 = 14) (h : f_X0_turnWord_b6 k6 a0 a1 a2 a4 a5 T = some q) : Jr x ad true U T [(0, .ref (ad a0)), (1, .int a1), (2, .int a2), (4, .int a4), (5, .int a5)] 6 [] := by
  unfold f_X0_turnWord_b6 at h
  refine r_iload C dX0_turnWord_6 4 rfl ?_
  refine r_bipush (v := 32) C dX0_turnWord_8 (by decide) ?_
  refine r_ic_ge (tgt := 76) C dX0_turnWord_10 (by decide) h (fun h => ?_) (fun h => ?_)
  · exact r_vret C M dX0_turnWord_76 h
  · refine r_iload C dX0_turnWord_13 3 rfl ?_
    refine r_if_eq (tgt := 76) C dX0_turnWord_15 (by decide) h (fun h => ?_) (fun h => ?_)
    · exact r_vret C M dX0_turnWord_76 h
    · refine r_iload_n C dX0_turnWord_18 rfl 2 rfl ?_
      refine r_iload C dX0_turnWord_19 4 rfl ?_
      refine r_isub C dX0_turnWord_21 rfl ?_
      refine r_bipush (v := 20) C dX0_turnWord_22 (by decide) ?_
      refine r_imul C dX0_turnWord_24 rfl ?_
      show Jr _ _ _ _ _ _ 25 _
      refine r_iload_n C dX0_turnWord_25 rfl 1 rfl ?_
      refine r_iconst (v := 5) C dX0_turnWord_26 (by decide) ?_
      refine r_ishr C dX0_turnWord_27 rfl ?_
      refine r_iadd C dX0_turnWord_28 rfl ?_
      refine r_lbI h (fun v1 h => ?_)
      refine r_istore (lv' := [(6, .int v1), (0, .ref (ad a0)), (1, .int a1), (2, .int a2), (4, .int a4), (5, .int a5)]) C dX0_turnWord_29 (by rw [hn9]; decide) rfl ?_
      refine r_iload C dX0_turnWord_31 4 rfl ?_
      show Jr _ _ _ _ _ _ 33 _
      refine r_if_ge (tgt := 64) C dX0_turnWord_33 (by decide) h (fun h => ?_) (fun h => ?_)
      · refine r_iload C dX0_turnWord_64 4 rfl ?_
        refine r_iconst (v := 1) C dX0_turnWord_66 (by decide) ?_
        refine r_ishl C dX0_turnWord_67 rfl ?_
        refine r_lbI h (fun v2 h => ?_)
        refine r_istore (lv' := [(4, .int v2), (6, .int v1), (0, .ref (ad a0)), (1, .int a1), (2, .int a2), (5, .int a5)]) C dX0_turnWord_68 (by rw [hn9]; decide) rfl ?_
        refine r_iinc (q := 5) (v := (a5 + 1)) (lv' := [(5, .int (a5 + 1)), (4, .int v2), (6, .int v1), (0, .ref (ad a0)), (1, .int a1), (2, .int a2)]) C dX0_turnWord_70 rfl (by rw [show Int32.ofInt (1) = 1 by decide]) (by rw [hn9]; decide) rfl ?_
        show Jr _ _ _ _ _ _ 73 _
        refine r_goto (tgt := 6) C dX0_turnWord_73 (by decide) ?_
        refine Jr.sub [3, 4, 5, 1, 0] (lv' := [(0, .ref (ad a0)), (1, .int a1), (2, .int a2), (4, .int v2), (5, .int (a5 + 1))]) rfl ?_
        exact hk6 a0 a1 a2 v2 (a5 + 1) T ha0 h
      · refine r_iload C dX0_turnWord_36 0 rfl ?_
        refine r_if_lt (tgt := 64) C dX0_turnWord_38 (by decide) h (fun h => ?_) (fun h => ?_)
        · refine r_iload C dX0_turnWord_64 4 rfl ?_
          refine r_iconst (v := 1) C dX0_turnWord_66 (by decide) ?_
          refine r_ishl C dX0_turnWord_67 rfl ?_
          refine r_lbI h (fun v3 h => ?_)
          refine r_istore (lv' := [(4, .int v3), (6, .int v1), (0, .ref (ad a0)), (1, .int a1), (2, .int a2), (5, .int a5)]) C dX0_turnWord_68 (by rw [hn9]; decide) rfl ?_
          refine r_iinc (q := 5) (v := (a5 + 1)) (lv' := [(5, .int (a5 + 1)), (4, .int v3), (6, .int v1), (0, .ref (ad a0)), (1, .int a1), (2, .int a2)]) C dX0_turnWord_70 rfl (by rw [show Int32.ofInt (1) = 1 by decide]) (by rw [hn9]; decide) rfl ?_
          show Jr _ _ _ _ _ _ 73 _
          refine r_goto (tgt := 6) C dX0_turnWord_73 (by decide) ?_
          refine Jr.sub [3, 4, 5, 1, 0] (lv' := [(0, .ref (ad a0)), (1, .int a1), (2, .int a2), (4, .int v3), (5, .int (a5 + 1))]) rfl ?_
          exact hk6 a0 a1 a2 v3 (a5 + 1) T ha0 h
        · refine r_iload C dX0_turnWord_41 0 rfl ?_
          refine r_aload_n C dX0_turnWord_43 rfl 1 rfl ?_
          refine r_alen (n := 0) C dX0_turnWord_44 ha0 (by decide) (by decide) rfl ?_
          refine r_ic_ge (tgt := 64) C dX0_turnWord_45 (by decide) h (fun h => ?_) (fun h => ?_)
          · refine r_iload C dX0_turnWord_64 4 rfl ?_
            refine r_iconst (v := 1) C dX0_turnWord_66 (by decide) ?_
            refine r_ishl C dX0_turnWord_67 rfl ?_
            refine r_lbI h (fun v4 h => ?_)
            refine r_istore (lv' := [(4, .int v4), (6, .int v1), (0, .ref (ad a0)), (1, .int a1), (2, .int a2), (5, .int a5)]) C dX0_turnWord_68 (by rw [hn9]; decide) rfl ?_
            refine r_iinc (q := 5) (v := (a5 + 1)) (lv' := [(5, .int (a5 + 1)), (4, .int v4), (6, .int v1), (0, .ref (ad a0)), (1, .int a1), (2, .int a2)]) C dX0_turnWord_70 rfl (by rw [show Int32.ofInt (1) = 1 by decide]) (by rw [hn9]; decide) rfl ?_
            show Jr _ _ _ _ _ _ 73 _
            refine r_goto (tgt := 6) C dX0_turnWord_73 (by decide) ?_
            refine Jr.sub [3, 4, 5, 1, 0] (lv' := [(0, .ref (ad a0)), (1, .int a1), (2, .int a2), (4, .int v4), (5, .int (a5 + 1))]) rfl ?_
            exact hk6 a0 a1 a2 v4 (a5 + 1) T ha0 h
          · refine r_aload_n C dX0_turnWord_48 rfl 1 rfl ?_
            refine r_iload C dX0_turnWord_49 0 rfl ?_
            refine r_dup2 C dX0_turnWord_51 rfl rfl ?_
            refine r_iald (n := (LN a0)) C dX0_turnWord_52 ha0 rfl h (fun j5 hj6 h => ?_)
            refine r_iconst (v := 1) C dX0_turnWord_53 (by decide) ?_
            show Jr _ _ _ _ _ _ 54 _
            refine r_bipush (v := 31) C dX0_turnWord_54 (by decide) ?_
            refine r_iload_n C dX0_turnWord_56 rfl 2 rfl ?_
            refine r_bipush (v := 31) C dX0_turnWord_57 (by decide) ?_
            refine r_iand C dX0_turnWord_59 rfl ?_
            refine r_isub C dX0_turnWord_60 rfl ?_
            refine r_ishl C dX0_turnWord_61 rfl ?_
            show Jr _ _ _ _ _ _ 62 _
            refine r_ior C dX0_turnWord_62 rfl ?_
            refine r_iast (n := (LN a0)) C dX0_turnWord_63 ha0 rfl h (fun j7 T9 hj8 h => ?_)
            refine r_iload C dX0_turnWord_64 4 rfl ?_
            refine r_iconst (v := 1) C dX0_turnWord_66 (by decide) ?_
            refine r_ishl C dX0_turnWord_67 rfl ?_
            refine r_lbI h (fun v10 h => ?_)
            refine r_istore (lv' := [(4, .int v10), (6, .int v1), (0, .ref (ad a0)), (1, .int a1), (2, .int a2), (5, .int a5)]) C dX0_turnWord_68 (by rw [hn9]; decide) rfl ?_
            show Jr _ _ _ _ _ _ 70 _
            refine r_iinc (q := 5) (v := (a5 + 1)) (lv' := [(5, .int (a5 + 1)), (4, .int v10), (6, .int v1), (0, .ref (ad a0)), (1, .int a1), (2, .int a2)]) C dX0_turnWord_70 rfl (by rw [show Int32.ofInt (1) = 1 by decide]) (by rw [hn9]; decide) rfl ?_
            refine r_goto (tgt := 6) C dX0_turnWord_73 (by decide) ?_
            refine Jr.sub [3, 4, 5, 1, 0] (lv' := [(0, .ref (ad a0)), (1, .int a1), (2, .int a2), (4, .int v10), (5, .int (a5 + 1))]) rfl ?_
            exact hk6 a0 a1 a2 v10 (a5 + 1) T9 ha0 h
noncomputable def f_X0_turnWord_l6 (n : Nat) : Nat → Int32 → Int32 → Int32 → Int32 → Mm → Option (Unit × Mm) := Nat.rec (fun _ _ _ _ _ _ => none) (fun _ ih => f_X0_turnWord_b6 ih) n
theorem s_X0_turnWord_l6 {x : JX} {ad : Nat → Nat} {U : Mm} {S0 : Hp} {q : Unit × Mm}  (hn9 : x_n x = 7) (C : CB x RX0 cX0_turnWord) (M : CMr x 1 none S0 ad true U eV q) : ∀ (n : Nat), ∀ (a0 : Nat) (a1 : Int32) (a2 : Int32) (a4 : Int32) (a5 : Int32) (T : Mm) (_ : kS true a0 = 14), f_X0_turnWord_l6  n a0 a1 a2 a4 a5 T = some q → Jr x ad true U T [(0, .ref (ad a0)), (1, .int a1), (2, .int a2), (4, .int a4), (5, .int a5)] 6 [] := by
  intro n
  induction n with
  | zero => intro a0 a1 a2 a4 a5 T _ h; exact absurd h (by intro h; cases h)
  | succ n ih => exact fun a0 a1 a2 a4 a5 T ha0 h => s_X0_turnWord_b6 hn9 C M (ih) a0 a1 a2 a4 a5 T ha0 h
noncomputable def f_X0_turnWord (p0 : Nat) (p1 : Int32) (p2 : Int32) (p3 : Int32) (T : Mm) : Option (Unit × Mm) :=
  f_X0_turnWord_l6 FU p0 p1 p2 p3 0 T
set_option maxRecDepth 100000 in
set_option maxHeartbeats 4000000 in
theorem s_X0_turnWord {ad : Nat → Nat} {U T : Mm} {q : Unit × Mm}  (p0 : Nat) (p1 : Int32) (p2 : Int32) (p3 : Int32) (hk0 : kS true p0 = 14) (h : f_X0_turnWord p0 p1 p2 p3 T = some q) : Cr 1 yX0_turnWord cX0_turnWord 7 none [.ref (ad p0), .int p1, .int p2, .int p3] ad true U T eV q := by
  refine cr_of (by decide) (Nat.le_of_ble_eq_true rfl) fun x S0 hn9 C M => ?_
  have C : CB x RX0 cX0_turnWord := C
  refine Jr.eq (lv' := [(0, .ref (ad p0)), (1, .int p1), (2, .int p2), (3, .int p3)]) (st' := []) rfl rfl ?_
  unfold f_X0_turnWord at h
  refine r_iload_n C dX0_turnWord_0 rfl 3 rfl ?_
  refine r_istore (lv' := [(4, .int p3), (0, .ref (ad p0)), (1, .int p1), (2, .int p2), (3, .int p3)]) C dX0_turnWord_1 (by rw [hn9]; decide) rfl ?_
  refine r_iconst (v := 0) C dX0_turnWord_3 (by decide) ?_
  refine r_istore (lv' := [(5, .int 0), (4, .int p3), (0, .ref (ad p0)), (1, .int p1), (2, .int p2), (3, .int p3)]) C dX0_turnWord_4 (by rw [hn9]; decide) rfl ?_
  refine Jr.sub [2, 3, 4, 1, 0] (lv' := [(0, .ref (ad p0)), (1, .int p1), (2, .int p2), (4, .int p3), (5, .int 0)]) rfl ?_
  exact s_X0_turnWord_l6 hn9 C M  FU p0 p1 p2 p3 0 T hk0 h
theorem dX0_copyTo_0 : decode cX0_copyTo 0 = .ok (.aload_n 1, 1) := by decide +kernel
theorem dX0_copyTo_1 : decode cX0_copyTo 1 = .ok (.iconst 0, 1) := by decide +kernel
theorem dX0_copyTo_2 : decode cX0_copyTo 2 = .ok (.invokestatic 42, 3) := by decide +kernel
theorem dX0_copyTo_5 : decode cX0_copyTo 5 = .ok (.aload_n 2, 1) := by decide +kernel
theorem dX0_copyTo_6 : decode cX0_copyTo 6 = .ok (.invokevirtual 86, 3) := by decide +kernel
theorem dX0_copyTo_9 : decode cX0_copyTo 9 = .ok (.bipush 31, 2) := by decide +kernel
theorem dX0_copyTo_11 : decode cX0_copyTo 11 = .ok (.iadd, 1) := by decide +kernel
theorem dX0_copyTo_12 : decode cX0_copyTo 12 = .ok (.bipush 32, 2) := by decide +kernel
theorem dX0_copyTo_14 : decode cX0_copyTo 14 = .ok (.idiv, 1) := by decide +kernel
theorem dX0_copyTo_15 : decode cX0_copyTo 15 = .ok (.bipush 25, 2) := by decide +kernel
theorem dX0_copyTo_17 : decode cX0_copyTo 17 = .ok (.invokestatic 92, 3) := by decide +kernel
theorem dX0_copyTo_20 : decode cX0_copyTo 20 = .ok (.istore_n 3, 1) := by decide +kernel
theorem dX0_copyTo_21 : decode cX0_copyTo 21 = .ok (.iconst 0, 1) := by decide +kernel
theorem dX0_copyTo_22 : decode cX0_copyTo 22 = .ok (.istore 4, 2) := by decide +kernel
theorem dX0_copyTo_24 : decode cX0_copyTo 24 = .ok (.iload 4, 2) := by decide +kernel
theorem dX0_copyTo_26 : decode cX0_copyTo 26 = .ok (.aload_n 2, 1) := by decide +kernel
theorem dX0_copyTo_27 : decode cX0_copyTo 27 = .ok (.invokevirtual 101, 3) := by decide +kernel
theorem dX0_copyTo_30 : decode cX0_copyTo 30 = .ok (.if_icmp .ge 109, 3) := by decide +kernel
theorem dX0_copyTo_33 : decode cX0_copyTo 33 = .ok (.iload 4, 2) := by decide +kernel
theorem dX0_copyTo_35 : decode cX0_copyTo 35 = .ok (.sipush 800, 3) := by decide +kernel
theorem dX0_copyTo_38 : decode cX0_copyTo 38 = .ok (.if_icmp .ge 101, 3) := by decide +kernel
theorem dX0_copyTo_41 : decode cX0_copyTo 41 = .ok (.iconst 0, 1) := by decide +kernel
theorem dX0_copyTo_42 : decode cX0_copyTo 42 = .ok (.istore 5, 2) := by decide +kernel
theorem dX0_copyTo_44 : decode cX0_copyTo 44 = .ok (.iload 5, 2) := by decide +kernel
theorem dX0_copyTo_46 : decode cX0_copyTo 46 = .ok (.iload_n 3, 1) := by decide +kernel
theorem dX0_copyTo_47 : decode cX0_copyTo 47 = .ok (.if_icmp .ge 86, 3) := by decide +kernel
theorem dX0_copyTo_50 : decode cX0_copyTo 50 = .ok (.aload_n 0, 1) := by decide +kernel
theorem dX0_copyTo_51 : decode cX0_copyTo 51 = .ok (.getfield 11, 3) := by decide +kernel
theorem dX0_copyTo_54 : decode cX0_copyTo 54 = .ok (.iload 4, 2) := by decide +kernel
theorem dX0_copyTo_56 : decode cX0_copyTo 56 = .ok (.bipush 25, 2) := by decide +kernel
theorem dX0_copyTo_58 : decode cX0_copyTo 58 = .ok (.imul, 1) := by decide +kernel
theorem dX0_copyTo_59 : decode cX0_copyTo 59 = .ok (.iload 5, 2) := by decide +kernel
theorem dX0_copyTo_61 : decode cX0_copyTo 61 = .ok (.iadd, 1) := by decide +kernel
theorem dX0_copyTo_62 : decode cX0_copyTo 62 = .ok (.iaload, 1) := by decide +kernel
theorem dX0_copyTo_63 : decode cX0_copyTo 63 = .ok (.istore 6, 2) := by decide +kernel
theorem dX0_copyTo_65 : decode cX0_copyTo 65 = .ok (.aload_n 2, 1) := by decide +kernel
theorem dX0_copyTo_66 : decode cX0_copyTo 66 = .ok (.getfield 148, 3) := by decide +kernel
theorem dX0_copyTo_69 : decode cX0_copyTo 69 = .ok (.ifCond .eq 26, 3) := by decide +kernel
theorem dX0_copyTo_72 : decode cX0_copyTo 72 = .ok (.aload_n 1, 1) := by decide +kernel
theorem dX0_copyTo_73 : decode cX0_copyTo 73 = .ok (.iload 4, 2) := by decide +kernel
theorem dX0_copyTo_75 : decode cX0_copyTo 75 = .ok (.aload_n 2, 1) := by decide +kernel
theorem dX0_copyTo_76 : decode cX0_copyTo 76 = .ok (.invokevirtual 151, 3) := by decide +kernel
theorem dX0_copyTo_79 : decode cX0_copyTo 79 = .ok (.iconst 1, 1) := by decide +kernel
theorem dX0_copyTo_80 : decode cX0_copyTo 80 = .ok (.isub, 1) := by decide +kernel
theorem dX0_copyTo_81 : decode cX0_copyTo 81 = .ok (.bipush 32, 2) := by decide +kernel
theorem dX0_copyTo_83 : decode cX0_copyTo 83 = .ok (.iload 5, 2) := by decide +kernel
theorem dX0_copyTo_85 : decode cX0_copyTo 85 = .ok (.imul, 1) := by decide +kernel
theorem dX0_copyTo_86 : decode cX0_copyTo 86 = .ok (.isub, 1) := by decide +kernel
theorem dX0_copyTo_87 : decode cX0_copyTo 87 = .ok (.iload 6, 2) := by decide +kernel
theorem dX0_copyTo_89 : decode cX0_copyTo 89 = .ok (.invokestatic 154, 3) := by decide +kernel
theorem dX0_copyTo_92 : decode cX0_copyTo 92 = .ok (.goto 35, 3) := by decide +kernel
theorem dX0_copyTo_95 : decode cX0_copyTo 95 = .ok (.iload 5, 2) := by decide +kernel
theorem dX0_copyTo_97 : decode cX0_copyTo 97 = .ok (.bipush 20, 2) := by decide +kernel
theorem dX0_copyTo_99 : decode cX0_copyTo 99 = .ok (.if_icmp .ge 28, 3) := by decide +kernel
theorem dX0_copyTo_102 : decode cX0_copyTo 102 = .ok (.iload 4, 2) := by decide +kernel
theorem dX0_copyTo_104 : decode cX0_copyTo 104 = .ok (.bipush 20, 2) := by decide +kernel
theorem dX0_copyTo_106 : decode cX0_copyTo 106 = .ok (.imul, 1) := by decide +kernel
theorem dX0_copyTo_107 : decode cX0_copyTo 107 = .ok (.iload 5, 2) := by decide +kernel
theorem dX0_copyTo_109 : decode cX0_copyTo 109 = .ok (.iadd, 1) := by decide +kernel
theorem dX0_copyTo_110 : decode cX0_copyTo 110 = .ok (.aload_n 1, 1) := by decide +kernel
theorem dX0_copyTo_111 : decode cX0_copyTo 111 = .ok (.arraylength, 1) := by decide +kernel
theorem dX0_copyTo_112 : decode cX0_copyTo 112 = .ok (.if_icmp .ge 15, 3) := by decide +kernel
theorem dX0_copyTo_115 : decode cX0_copyTo 115 = .ok (.aload_n 1, 1) := by decide +kernel
theorem dX0_copyTo_116 : decode cX0_copyTo 116 = .ok (.iload 4, 2) := by decide +kernel
theorem dX0_copyTo_118 : decode cX0_copyTo 118 = .ok (.bipush 20, 2) := by decide +kernel
theorem dX0_copyTo_120 : decode cX0_copyTo 120 = .ok (.imul, 1) := by decide +kernel
theorem dX0_copyTo_121 : decode cX0_copyTo 121 = .ok (.iload 5, 2) := by decide +kernel
theorem dX0_copyTo_123 : decode cX0_copyTo 123 = .ok (.iadd, 1) := by decide +kernel
theorem dX0_copyTo_124 : decode cX0_copyTo 124 = .ok (.iload 6, 2) := by decide +kernel
theorem dX0_copyTo_126 : decode cX0_copyTo 126 = .ok (.iastore, 1) := by decide +kernel
theorem dX0_copyTo_127 : decode cX0_copyTo 127 = .ok (.iinc 5 1, 3) := by decide +kernel
theorem dX0_copyTo_130 : decode cX0_copyTo 130 = .ok (.goto (-86), 3) := by decide +kernel
theorem dX0_copyTo_133 : decode cX0_copyTo 133 = .ok (.iinc 4 1, 3) := by decide +kernel
theorem dX0_copyTo_136 : decode cX0_copyTo 136 = .ok (.goto (-112), 3) := by decide +kernel
theorem dX0_copyTo_139 : decode cX0_copyTo 139 = .ok (.return_, 1) := by decide +kernel
noncomputable def f_X0_copyTo_b44 (k24 : Nat → Nat → Int32 → Int32 → Mm → Option (Unit × Mm)) (k44 : Nat → Nat → Int32 → Int32 → Int32 → Mm → Option (Unit × Mm)) (a1 : Nat) (a2 : Nat) (a3 : Int32) (a4 : Int32) (a5 : Int32) (T : Mm) : Option (Unit × Mm) :=
  if a3 ≤ a5 then (k24 a1 a2 a3 (a4 + 1) T)
  else (ix ((a4 * 25) + a5) 20000 fun j1 =>
  lb ((gA T 25 j1)) fun v3 =>
  if (gI T 701 a2) = 0 then (if 20 ≤ a5 then (k44 a1 a2 a3 a4 (a5 + 1) T)
  else (if (Int32.ofNat (LN a1)) ≤ ((a4 * 20) + a5) then (k44 a1 a2 a3 a4 (a5 + 1) T)
  else (ix ((a4 * 20) + a5) (LN a1) fun j4 => lb (uA T a1 j4 (v3)) fun T6 =>
  k44 a1 a2 a3 a4 (a5 + 1) T6)))
  else (bd (f_X7_pageHigh a2 T) fun v7 T8 =>
  bd (f_X0_turnWord a1 a4 ((v7 - 1) - ((32 : Int32) * a5)) v3 T8) fun _ T9 =>
  k44 a1 a2 a3 a4 (a5 + 1) T9))
set_option maxRecDepth 100000 in
set_option maxHeartbeats 4000000 in
theorem s_X0_copyTo_b44 {x : JX} {ad : Nat → Nat} {U : Mm} {S0 : Hp} {q : Unit × Mm}  {k24 : Nat → Nat → Int32 → Int32 → Mm → Option (Unit × Mm)} {k44 : Nat → Nat → Int32 → Int32 → Int32 → Mm → Option (Unit × Mm)} (hn9 : x_n x = 7) (C : CB x RX0 cX0_copyTo) (M : CMr x 2 none S0 ad true U eV q) (hk24 : ∀ (a1 : Nat) (a2 : Nat) (a3 : Int32) (a4 : Int32) (T : Mm) (_ : kS true a1 = 14) (_ : kS true a2 = 7), k24 a1 a2 a3 a4 T = some q → Jr x ad true U T [(0, .ref (ad 24)), (1, .ref (ad a1)), (2, .ref (ad a2)), (3, .int a3), (4, .int a4)] 24 []) (hk44 : ∀ (a1 : Nat) (a2 : Nat) (a3 : Int32) (a4 : Int32) (a5 : Int32) (T : Mm) (_ : kS true a1 = 14) (_ : kS true a2 = 7), k44 a1 a2 a3 a4 a5 T = some q → Jr x ad true U T [(0, .ref (ad 24)), (1, .ref (ad a1)), (2, .ref (ad a2)), (3, .int a3), (4, .int a4), (5, .int a5)] 44 []) (a1 : Nat) (a2 : Nat) (a3 : Int32) (a4 : Int32) (a5 : Int32) (T : Mm) (ha1 : kS true a1 = 14) (ha2 : kS true a2 = 7) (h : f_X0_copyTo_b44 k24 k44 a1 a2 a3 a4 a5 T = some q) : Jr x ad true U T [(0, .ref (ad 24)), (1, .ref (ad a1)), (2, .ref (ad a2)), (3, .int a3), (4, .int a4), (5, .int a5)] 44 [] := by
  unfold f_X0_copyTo_b44 at h
  refine r_iload C dX0_copyTo_44 5 rfl ?_
  refine r_iload_n C dX0_copyTo_46 rfl 3 rfl ?_
  refine r_ic_ge (tgt := 133) C dX0_copyTo_47 (by decide) h (fun h => ?_) (fun h => ?_)
  · refine r_iinc (q := 4) (v := (a4 + 1)) (lv' := [(4, .int (a4 + 1)), (0, .ref (ad 24)), (1, .ref (ad a1)), (2, .ref (ad a2)), (3, .int a3), (5, .int a5)]) C dX0_copyTo_133 rfl (by rw [show Int32.ofInt (1) = 1 by decide]) (by rw [hn9]; decide) rfl ?_
    refine r_goto (tgt := 24) C dX0_copyTo_136 (by decide) ?_
    refine Jr.sub [1, 2, 3, 4, 0] (lv' := [(0, .ref (ad 24)), (1, .ref (ad a1)), (2, .ref (ad a2)), (3, .int a3), (4, .int (a4 + 1))]) rfl ?_
    exact hk24 a1 a2 a3 (a4 + 1) T ha1 ha2 h
  · refine r_aload_n C dX0_copyTo_50 rfl 0 rfl ?_
    refine r_getp (f := 0) (j := 25) C flX0_11 dX0_copyTo_51 kq_24 (by decide) rfl (fun W => pt_0 kq_24 W) ?_
    refine r_iload C dX0_copyTo_54 4 rfl ?_
    refine r_bipush (v := 25) C dX0_copyTo_56 (by decide) ?_
    refine r_imul C dX0_copyTo_58 rfl ?_
    show Jr _ _ _ _ _ _ 59 _
    refine r_iload C dX0_copyTo_59 5 rfl ?_
    refine r_iadd C dX0_copyTo_61 rfl ?_
    refine r_iald (n := 20000) C dX0_copyTo_62 kq_25 lq_25 h (fun j1 hj2 h => ?_)
    refine r_lbI h (fun v3 h => ?_)
    refine r_istore (lv' := [(6, .int v3), (0, .ref (ad 24)), (1, .ref (ad a1)), (2, .ref (ad a2)), (3, .int a3), (4, .int a4), (5, .int a5)]) C dX0_copyTo_63 (by rw [hn9]; decide) rfl ?_
    refine r_aload_n C dX0_copyTo_65 rfl 3 rfl ?_
    refine r_geti (f := 701) C flX0_148 dX0_copyTo_66 ha2 (by decide) (by decide) rfl ?_
    show Jr _ _ _ _ _ _ 69 _
    refine r_if_eq (tgt := 95) C dX0_copyTo_69 (by decide) h (fun h => ?_) (fun h => ?_)
    · refine r_iload C dX0_copyTo_95 6 rfl ?_
      refine r_bipush (v := 20) C dX0_copyTo_97 (by decide) ?_
      refine r_ic_ge (tgt := 127) C dX0_copyTo_99 (by decide) h (fun h => ?_) (fun h => ?_)
      · refine r_iinc (q := 6) (v := (a5 + 1)) (lv' := [(5, .int (a5 + 1)), (6, .int v3), (0, .ref (ad 24)), (1, .ref (ad a1)), (2, .ref (ad a2)), (3, .int a3), (4, .int a4)]) C dX0_copyTo_127 rfl (by rw [show Int32.ofInt (1) = 1 by decide]) (by rw [hn9]; decide) rfl ?_
        refine r_goto (tgt := 44) C dX0_copyTo_130 (by decide) ?_
        refine Jr.sub [2, 3, 4, 5, 6, 0] (lv' := [(0, .ref (ad 24)), (1, .ref (ad a1)), (2, .ref (ad a2)), (3, .int a3), (4, .int a4), (5, .int (a5 + 1))]) rfl ?_
        exact hk44 a1 a2 a3 a4 (a5 + 1) T ha1 ha2 h
      · refine r_iload C dX0_copyTo_102 5 rfl ?_
        refine r_bipush (v := 20) C dX0_copyTo_104 (by decide) ?_
        refine r_imul C dX0_copyTo_106 rfl ?_
        refine r_iload C dX0_copyTo_107 6 rfl ?_
        refine r_iadd C dX0_copyTo_109 rfl ?_
        show Jr _ _ _ _ _ _ 110 _
        refine r_aload_n C dX0_copyTo_110 rfl 2 rfl ?_
        refine r_alen (n := 0) C dX0_copyTo_111 ha1 (by decide) (by decide) rfl ?_
        refine r_ic_ge (tgt := 127) C dX0_copyTo_112 (by decide) h (fun h => ?_) (fun h => ?_)
        · refine r_iinc (q := 6) (v := (a5 + 1)) (lv' := [(5, .int (a5 + 1)), (6, .int v3), (0, .ref (ad 24)), (1, .ref (ad a1)), (2, .ref (ad a2)), (3, .int a3), (4, .int a4)]) C dX0_copyTo_127 rfl (by rw [show Int32.ofInt (1) = 1 by decide]) (by rw [hn9]; decide) rfl ?_
          refine r_goto (tgt := 44) C dX0_copyTo_130 (by decide) ?_
          refine Jr.sub [2, 3, 4, 5, 6, 0] (lv' := [(0, .ref (ad 24)), (1, .ref (ad a1)), (2, .ref (ad a2)), (3, .int a3), (4, .int a4), (5, .int (a5 + 1))]) rfl ?_
          exact hk44 a1 a2 a3 a4 (a5 + 1) T ha1 ha2 h
        · refine r_aload_n C dX0_copyTo_115 rfl 2 rfl ?_
          refine r_iload C dX0_copyTo_116 5 rfl ?_
          refine r_bipush (v := 20) C dX0_copyTo_118 (by decide) ?_
          refine r_imul C dX0_copyTo_120 rfl ?_
          refine r_iload C dX0_copyTo_121 6 rfl ?_
          show Jr _ _ _ _ _ _ 123 _
          refine r_iadd C dX0_copyTo_123 rfl ?_
          refine r_iload C dX0_copyTo_124 0 rfl ?_
          refine r_iast (n := (LN a1)) C dX0_copyTo_126 ha1 rfl h (fun j4 T6 hj5 h => ?_)
          refine r_iinc (q := 6) (v := (a5 + 1)) (lv' := [(5, .int (a5 + 1)), (6, .int v3), (0, .ref (ad 24)), (1, .ref (ad a1)), (2, .ref (ad a2)), (3, .int a3), (4, .int a4)]) C dX0_copyTo_127 rfl (by rw [show Int32.ofInt (1) = 1 by decide]) (by rw [hn9]; decide) rfl ?_
          refine r_goto (tgt := 44) C dX0_copyTo_130 (by decide) ?_
          refine Jr.sub [2, 3, 4, 5, 6, 0] (lv' := [(0, .ref (ad 24)), (1, .ref (ad a1)), (2, .ref (ad a2)), (3, .int a3), (4, .int a4), (5, .int (a5 + 1))]) rfl ?_
          exact hk44 a1 a2 a3 a4 (a5 + 1) T6 ha1 ha2 h
    · refine r_aload_n C dX0_copyTo_72 rfl 2 rfl ?_
      refine r_iload C dX0_copyTo_73 5 rfl ?_
      refine r_aload_n C dX0_copyTo_75 rfl 3 rfl ?_
      refine r_callVI C M h [] [.int a4, .ref (ad a1)] mlX0_151 mcX7_pageHigh (fun q9 e9 => s_X7_pageHigh a2 ha2 e9) ha2 rfl (by decide) (by decide) rfl rfl (Nat.le_of_ble_eq_true rfl) dX0_copyTo_76 (fun v7 T8 h => ?_)
      refine r_iconst (v := 1) C dX0_copyTo_79 (by decide) ?_
      show Jr _ _ _ _ _ _ 80 _
      refine r_isub C dX0_copyTo_80 rfl ?_
      refine r_bipush (v := 32) C dX0_copyTo_81 (by decide) ?_
      refine r_iload C dX0_copyTo_83 6 rfl ?_
      refine r_imul C dX0_copyTo_85 rfl ?_
      refine r_isub C dX0_copyTo_86 rfl ?_
      refine r_iload C dX0_copyTo_87 0 rfl ?_
      show Jr _ _ _ _ _ _ 89 _
      refine r_callSN C M h [.ref (ad a1), .int a4, .int ((v7 - 1) - ((32 : Int32) * a5)), .int v3] [] mlX0_154 mcX0_turnWord (fun q9 e9 => s_X0_turnWord a1 a4 ((v7 - 1) - ((32 : Int32) * a5)) v3 ha1 e9) (by decide) (by decide) rfl rfl (Nat.le_of_ble_eq_true rfl) dX0_copyTo_89 (fun _ T9 h => ?_)
      refine r_goto (tgt := 127) C dX0_copyTo_92 (by decide) ?_
      refine r_iinc (q := 6) (v := (a5 + 1)) (lv' := [(5, .int (a5 + 1)), (6, .int v3), (0, .ref (ad 24)), (1, .ref (ad a1)), (2, .ref (ad a2)), (3, .int a3), (4, .int a4)]) C dX0_copyTo_127 rfl (by rw [show Int32.ofInt (1) = 1 by decide]) (by rw [hn9]; decide) rfl ?_
      refine r_goto (tgt := 44) C dX0_copyTo_130 (by decide) ?_
      refine Jr.sub [2, 3, 4, 5, 6, 0] (lv' := [(0, .ref (ad 24)), (1, .ref (ad a1)), (2, .ref (ad a2)), (3, .int a3), (4, .int a4), (5, .int (a5 + 1))]) rfl ?_
      exact hk44 a1 a2 a3 a4 (a5 + 1) T9 ha1 ha2 h
noncomputable def f_X0_copyTo_l44 (k24 : Nat → Nat → Int32 → Int32 → Mm → Option (Unit × Mm)) (n : Nat) : Nat → Nat → Int32 → Int32 → Int32 → Mm → Option (Unit × Mm) := Nat.rec (fun _ _ _ _ _ _ => none) (fun _ ih => f_X0_copyTo_b44 k24 ih) n
theorem s_X0_copyTo_l44 {x : JX} {ad : Nat → Nat} {U : Mm} {S0 : Hp} {q : Unit × Mm}  {k24 : Nat → Nat → Int32 → Int32 → Mm → Option (Unit × Mm)} (hn9 : x_n x = 7) (C : CB x RX0 cX0_copyTo) (M : CMr x 2 none S0 ad true U eV q) (hk24 : ∀ (a1 : Nat) (a2 : Nat) (a3 : Int32) (a4 : Int32) (T : Mm) (_ : kS true a1 = 14) (_ : kS true a2 = 7), k24 a1 a2 a3 a4 T = some q → Jr x ad true U T [(0, .ref (ad 24)), (1, .ref (ad a1)), (2, .ref (ad a2)), (3, .int a3), (4, .int a4)] 24 []) : ∀ (n : Nat), ∀ (a1 : Nat) (a2 : Nat) (a3 : Int32) (a4 : Int32) (a5 : Int32) (T : Mm) (_ : kS true a1 = 14) (_ : kS true a2 = 7), f_X0_copyTo_l44 k24 n a1 a2 a3 a4 a5 T = some q → Jr x ad true U T [(0, .ref (ad 24)), (1, .ref (ad a1)), (2, .ref (ad a2)), (3, .int a3), (4, .int a4), (5, .int a5)] 44 [] := by
  intro n
  induction n with
  | zero => intro a1 a2 a3 a4 a5 T _ _ h; exact absurd h (by intro h; cases h)
  | succ n ih => exact fun a1 a2 a3 a4 a5 T ha1 ha2 h => s_X0_copyTo_b44 hn9 C M hk24 (ih) a1 a2 a3 a4 a5 T ha1 ha2 h
noncomputable def f_X0_copyTo_b24 (k24 : Nat → Nat → Int32 → Int32 → Mm → Option (Unit × Mm)) (a1 : Nat) (a2 : Nat) (a3 : Int32) (a4 : Int32) (T : Mm) : Option (Unit × Mm) :=
  bd (f_X7_dotsDown a2 T) fun v1 T2 =>
  if v1 ≤ a4 then (some ((), T2))
  else (if 800 ≤ a4 then (some ((), T2))
  else (f_X0_copyTo_l44 k24 FU a1 a2 a3 a4 0 T2))
set_option maxRecDepth 100000 in
set_option maxHeartbeats 4000000 in
theorem s_X0_copyTo_b24 {x : JX} {ad : Nat → Nat} {U : Mm} {S0 : Hp} {q : Unit × Mm}  {k24 : Nat → Nat → Int32 → Int32 → Mm → Option (Unit × Mm)} (hn9 : x_n x = 7) (C : CB x RX0 cX0_copyTo) (M : CMr x 2 none S0 ad true U eV q) (hk24 : ∀ (a1 : Nat) (a2 : Nat) (a3 : Int32) (a4 : Int32) (T : Mm) (_ : kS true a1 = 14) (_ : kS true a2 = 7), k24 a1 a2 a3 a4 T = some q → Jr x ad true U T [(0, .ref (ad 24)), (1, .ref (ad a1)), (2, .ref (ad a2)), (3, .int a3), (4, .int a4)] 24 []) (a1 : Nat) (a2 : Nat) (a3 : Int32) (a4 : Int32) (T : Mm) (ha1 : kS true a1 = 14) (ha2 : kS true a2 = 7) (h : f_X0_copyTo_b24 k24 a1 a2 a3 a4 T = some q) : Jr x ad true U T [(0, .ref (ad 24)), (1, .ref (ad a1)), (2, .ref (ad a2)), (3, .int a3), (4, .int a4)] 24 [] := by
  unfold f_X0_copyTo_b24 at h
  refine r_iload C dX0_copyTo_24 4 rfl ?_
  refine r_aload_n C dX0_copyTo_26 rfl 2 rfl ?_
  refine r_callVI C M h [] [.int a4] mlX0_101 mcX7_dotsDown (fun q9 e9 => s_X7_dotsDown a2 ha2 e9) ha2 rfl (by decide) (by decide) rfl rfl (Nat.le_of_ble_eq_true rfl) dX0_copyTo_27 (fun v1 T2 h => ?_)
  refine r_ic_ge (tgt := 139) C dX0_copyTo_30 (by decide) h (fun h => ?_) (fun h => ?_)
  · exact r_vret C M dX0_copyTo_139 h
  · refine r_iload C dX0_copyTo_33 4 rfl ?_
    refine r_sipush (v := 800) C dX0_copyTo_35 (by decide) ?_
    refine r_ic_ge (tgt := 139) C dX0_copyTo_38 (by decide) h (fun h => ?_) (fun h => ?_)
    · exact r_vret C M dX0_copyTo_139 h
    · refine r_iconst (v := 0) C dX0_copyTo_41 (by decide) ?_
      refine r_istore (lv' := [(5, .int 0), (0, .ref (ad 24)), (1, .ref (ad a1)), (2, .ref (ad a2)), (3, .int a3), (4, .int a4)]) C dX0_copyTo_42 (by rw [hn9]; decide) rfl ?_
      refine Jr.sub [1, 2, 3, 4, 5, 0] (lv' := [(0, .ref (ad 24)), (1, .ref (ad a1)), (2, .ref (ad a2)), (3, .int a3), (4, .int a4), (5, .int 0)]) rfl ?_
      exact s_X0_copyTo_l44 hn9 C M hk24 FU a1 a2 a3 a4 0 T2 ha1 ha2 h
noncomputable def f_X0_copyTo_l24 (n : Nat) : Nat → Nat → Int32 → Int32 → Mm → Option (Unit × Mm) := Nat.rec (fun _ _ _ _ _ => none) (fun _ ih => f_X0_copyTo_b24 ih) n
theorem s_X0_copyTo_l24 {x : JX} {ad : Nat → Nat} {U : Mm} {S0 : Hp} {q : Unit × Mm}  (hn9 : x_n x = 7) (C : CB x RX0 cX0_copyTo) (M : CMr x 2 none S0 ad true U eV q) : ∀ (n : Nat), ∀ (a1 : Nat) (a2 : Nat) (a3 : Int32) (a4 : Int32) (T : Mm) (_ : kS true a1 = 14) (_ : kS true a2 = 7), f_X0_copyTo_l24  n a1 a2 a3 a4 T = some q → Jr x ad true U T [(0, .ref (ad 24)), (1, .ref (ad a1)), (2, .ref (ad a2)), (3, .int a3), (4, .int a4)] 24 [] := by
  intro n
  induction n with
  | zero => intro a1 a2 a3 a4 T _ _ h; exact absurd h (by intro h; cases h)
  | succ n ih => exact fun a1 a2 a3 a4 T ha1 ha2 h => s_X0_copyTo_b24 hn9 C M (ih) a1 a2 a3 a4 T ha1 ha2 h
noncomputable def f_X0_copyTo (p1 : Nat) (p2 : Nat) (T : Mm) : Option (Unit × Mm) :=
  bd (f_J7_fill_53178 p1 0 T) fun _ T1 =>
  bd (f_X7_dotsAcross p2 T1) fun v2 T3 =>
  bd (f_J9_min_7cf53 ((v2 + 31) / 32) 25 T3) fun v4 T5 =>
  f_X0_copyTo_l24 FU p1 p2 v4 0 T5
set_option maxRecDepth 100000 in
set_option maxHeartbeats 4000000 in
theorem s_X0_copyTo {ad : Nat → Nat} {U T : Mm} {q : Unit × Mm}  (p1 : Nat) (p2 : Nat) (hk1 : kS true p1 = 14) (hk2 : kS true p2 = 7) (h : f_X0_copyTo p1 p2 T = some q) : Cr 2 yX0_copyTo cX0_copyTo 7 none [.ref (ad 24), .ref (ad p1), .ref (ad p2)] ad true U T eV q := by
  refine cr_of (by decide) (Nat.le_of_ble_eq_true rfl) fun x S0 hn9 C M => ?_
  have C : CB x RX0 cX0_copyTo := C
  refine Jr.eq (lv' := [(0, .ref (ad 24)), (1, .ref (ad p1)), (2, .ref (ad p2))]) (st' := []) rfl rfl ?_
  unfold f_X0_copyTo at h
  refine r_aload_n C dX0_copyTo_0 rfl 1 rfl ?_
  refine r_iconst (v := 0) C dX0_copyTo_1 (by decide) ?_
  refine r_callSN C M h [.ref (ad p1), .int 0] [] mlX0_42 mcJ7_fill_53178 (fun q9 e9 => s_J7_fill_53178 p1 0 hk1 e9) (by decide) (by decide) rfl rfl (Nat.le_of_ble_eq_true rfl) dX0_copyTo_2 (fun _ T1 h => ?_)
  refine r_aload_n C dX0_copyTo_5 rfl 2 rfl ?_
  refine r_callVI C M h [] [] mlX0_86 mcX7_dotsAcross (fun q9 e9 => s_X7_dotsAcross p2 hk2 e9) hk2 rfl (by decide) (by decide) rfl rfl (Nat.le_of_ble_eq_true rfl) dX0_copyTo_6 (fun v2 T3 h => ?_)
  show Jr _ _ _ _ _ _ 9 _
  refine r_bipush (v := 31) C dX0_copyTo_9 (by decide) ?_
  refine r_iadd C dX0_copyTo_11 rfl ?_
  refine r_bipush (v := 32) C dX0_copyTo_12 (by decide) ?_
  refine r_idiv C dX0_copyTo_14 (by decide) rfl ?_
  refine r_bipush (v := 25) C dX0_copyTo_15 (by decide) ?_
  refine r_callSI C M h [.int ((v2 + 31) / 32), .int 25] [] mlX0_92 mcJ9_min_7cf53 (fun q9 e9 => s_J9_min_7cf53 ((v2 + 31) / 32) 25  e9) (by decide) (by decide) rfl rfl (Nat.le_of_ble_eq_true rfl) dX0_copyTo_17 (fun v4 T5 h => ?_)
  show Jr _ _ _ _ _ _ 20 _
  refine r_istore_n (lv' := [(3, .int v4), (0, .ref (ad 24)), (1, .ref (ad p1)), (2, .ref (ad p2))]) C dX0_copyTo_20 rfl (by rw [hn9]; decide) rfl ?_
  refine r_iconst (v := 0) C dX0_copyTo_21 (by decide) ?_
  refine r_istore (lv' := [(4, .int 0), (3, .int v4), (0, .ref (ad 24)), (1, .ref (ad p1)), (2, .ref (ad p2))]) C dX0_copyTo_22 (by rw [hn9]; decide) rfl ?_
  refine Jr.sub [2, 3, 4, 1, 0] (lv' := [(0, .ref (ad 24)), (1, .ref (ad p1)), (2, .ref (ad p2)), (3, .int v4), (4, .int 0)]) rfl ?_
  exact s_X0_copyTo_l24 hn9 C M  FU p1 p2 v4 0 T5 hk1 hk2 h
theorem dX7_pageWide_0 : decode cX7_pageWide 0 = .ok (.getstatic 75, 3) := by decide +kernel
theorem dX7_pageWide_3 : decode cX7_pageWide 3 = .ok (.aload_n 0, 1) := by decide +kernel
theorem dX7_pageWide_4 : decode cX7_pageWide 4 = .ok (.getfield 15, 3) := by decide +kernel
theorem dX7_pageWide_7 : decode cX7_pageWide 7 = .ok (.iconst 3, 1) := by decide +kernel
theorem dX7_pageWide_8 : decode cX7_pageWide 8 = .ok (.iand, 1) := by decide +kernel
theorem dX7_pageWide_9 : decode cX7_pageWide 9 = .ok (.iaload, 1) := by decide +kernel
theorem dX7_pageWide_10 : decode cX7_pageWide 10 = .ok (.ireturn, 1) := by decide +kernel
noncomputable def f_X7_pageWide (p0 : Nat) (T : Mm) : Option (Int32 × Mm) :=
  ix ((gI T 700 p0) &&& 3) 4 fun j1 =>
  some ((st_FORMAT_WIDE.getD j1 0), T)
set_option maxRecDepth 100000 in
set_option maxHeartbeats 4000000 in
theorem s_X7_pageWide {ad : Nat → Nat} {U T : Mm} {q : Int32 × Mm}  (p0 : Nat) (hk0 : kS true p0 = 7) (h : f_X7_pageWide p0 T = some q) : Cr 1 yX7_pageWide cX7_pageWide 1 (some .int) [.ref (ad p0)] ad true U T eI q := by
  refine cr_of (by decide) (Nat.le_of_ble_eq_true rfl) fun x S0 hn9 C M => ?_
  have C : CB x RX7 cX7_pageWide := C
  refine Jr.eq (lv' := [(0, .ref (ad p0))]) (st' := []) rfl rfl ?_
  unfold f_X7_pageWide at h
  refine r_gets C 0 rfl (Or.inr ⟨_, gsX7_75⟩) dX7_pageWide_0 ?_
  refine r_aload_n C dX7_pageWide_3 rfl 0 rfl ?_
  refine r_geti (f := 700) C flX7_15 dX7_pageWide_4 hk0 (by decide) (by decide) rfl ?_
  refine r_iconst (v := 3) C dX7_pageWide_7 (by decide) ?_
  refine r_iand C dX7_pageWide_8 rfl ?_
  show Jr _ _ _ _ _ _ 9 _
  refine r_stld C 0 rfl (n := 4) rfl dX7_pageWide_9 h (fun j1 hj2 h => ?_)
  exact r_iret C M dX7_pageWide_10 h
theorem dX6_putByte_0 : decode cX6_putByte 0 = .ok (.aload_n 0, 1) := by decide +kernel
theorem dX6_putByte_1 : decode cX6_putByte 1 = .ok (.getfield 28, 3) := by decide +kernel
theorem dX6_putByte_4 : decode cX6_putByte 4 = .ok (.ifCond .lt 39, 3) := by decide +kernel
theorem dX6_putByte_7 : decode cX6_putByte 7 = .ok (.aload_n 0, 1) := by decide +kernel
theorem dX6_putByte_8 : decode cX6_putByte 8 = .ok (.getfield 28, 3) := by decide +kernel
theorem dX6_putByte_11 : decode cX6_putByte 11 = .ok (.aload_n 0, 1) := by decide +kernel
theorem dX6_putByte_12 : decode cX6_putByte 12 = .ok (.getfield 12, 3) := by decide +kernel
theorem dX6_putByte_15 : decode cX6_putByte 15 = .ok (.arraylength, 1) := by decide +kernel
theorem dX6_putByte_16 : decode cX6_putByte 16 = .ok (.if_icmp .ge 27, 3) := by decide +kernel
theorem dX6_putByte_19 : decode cX6_putByte 19 = .ok (.aload_n 0, 1) := by decide +kernel
theorem dX6_putByte_20 : decode cX6_putByte 20 = .ok (.getfield 12, 3) := by decide +kernel
theorem dX6_putByte_23 : decode cX6_putByte 23 = .ok (.aload_n 0, 1) := by decide +kernel
theorem dX6_putByte_24 : decode cX6_putByte 24 = .ok (.getfield 28, 3) := by decide +kernel
theorem dX6_putByte_27 : decode cX6_putByte 27 = .ok (.iload_n 1, 1) := by decide +kernel
theorem dX6_putByte_28 : decode cX6_putByte 28 = .ok (.i2b, 1) := by decide +kernel
theorem dX6_putByte_29 : decode cX6_putByte 29 = .ok (.bastore, 1) := by decide +kernel
theorem dX6_putByte_30 : decode cX6_putByte 30 = .ok (.aload_n 0, 1) := by decide +kernel
theorem dX6_putByte_31 : decode cX6_putByte 31 = .ok (.dup, 1) := by decide +kernel
theorem dX6_putByte_32 : decode cX6_putByte 32 = .ok (.getfield 28, 3) := by decide +kernel
theorem dX6_putByte_35 : decode cX6_putByte 35 = .ok (.iconst 1, 1) := by decide +kernel
theorem dX6_putByte_36 : decode cX6_putByte 36 = .ok (.iadd, 1) := by decide +kernel
theorem dX6_putByte_37 : decode cX6_putByte 37 = .ok (.putfield 28, 3) := by decide +kernel
theorem dX6_putByte_40 : decode cX6_putByte 40 = .ok (.goto 8, 3) := by decide +kernel
theorem dX6_putByte_43 : decode cX6_putByte 43 = .ok (.aload_n 0, 1) := by decide +kernel
theorem dX6_putByte_44 : decode cX6_putByte 44 = .ok (.iconst 1, 1) := by decide +kernel
theorem dX6_putByte_45 : decode cX6_putByte 45 = .ok (.putfield 35, 3) := by decide +kernel
theorem dX6_putByte_48 : decode cX6_putByte 48 = .ok (.return_, 1) := by decide +kernel
noncomputable def f_X6_putByte (p1 : Int32) (T : Mm) : Option (Unit × Mm) :=
  if (gI T 601 5) < 0 then (lb (uI T 603 5 1) fun T1 =>
  some ((), T1))
  else (if 60000 ≤ (gI T 601 5) then (lb (uI T 603 5 1) fun T2 =>
  some ((), T2))
  else (ix (gI T 601 5) 60000 fun j3 => lb (uA T 6 j3 (((p1).toInt8.toInt32).toInt8.toInt32)) fun T5 =>
  lb (uI T5 601 5 ((gI T5 601 5) + 1)) fun T6 =>
  some ((), T6)))
set_option maxRecDepth 100000 in
set_option maxHeartbeats 4000000 in
theorem s_X6_putByte {ad : Nat → Nat} {U T : Mm} {q : Unit × Mm}  (p1 : Int32) (h : f_X6_putByte p1 T = some q) : Cr 1 yX6_putByte cX6_putByte 2 none [.ref (ad 5), .int p1] ad true U T eV q := by
  refine cr_of (by decide) (Nat.le_of_ble_eq_true rfl) fun x S0 hn9 C M => ?_
  have C : CB x RX6 cX6_putByte := C
  refine Jr.eq (lv' := [(0, .ref (ad 5)), (1, .int p1)]) (st' := []) rfl rfl ?_
  unfold f_X6_putByte at h
  refine r_aload_n C dX6_putByte_0 rfl 0 rfl ?_
  refine r_geti (f := 601) C flX6_28 dX6_putByte_1 kq_5 (by decide) (by decide) rfl ?_
  refine r_if_lt (tgt := 43) C dX6_putByte_4 (by decide) h (fun h => ?_) (fun h => ?_)
  · refine r_aload_n C dX6_putByte_43 rfl 0 rfl ?_
    refine r_iconst (v := 1) C dX6_putByte_44 (by decide) ?_
    refine r_putz (f := 603) C flX6_35 (by decide) rfl rfl (by decide) dX6_putByte_45 kq_5 rfl h (fun T1 h => ?_)
    exact r_vret C M dX6_putByte_48 h
  · refine r_aload_n C dX6_putByte_7 rfl 0 rfl ?_
    refine r_geti (f := 601) C flX6_28 dX6_putByte_8 kq_5 (by decide) (by decide) rfl ?_
    refine r_aload_n C dX6_putByte_11 rfl 0 rfl ?_
    refine r_getp (f := 600) (j := 6) C flX6_12 dX6_putByte_12 kq_5 (by decide) rfl (fun W => pt_600 kq_5 W) ?_
    refine r_alen (n := 0) (v := 60000) C dX6_putByte_15 kq_6 (by decide) (by decide) (congrArg Int32.ofNat lq_6) ?_
    show Jr _ _ _ _ _ _ 16 _
    refine r_ic_ge (tgt := 43) C dX6_putByte_16 (by decide) h (fun h => ?_) (fun h => ?_)
    · refine r_aload_n C dX6_putByte_43 rfl 0 rfl ?_
      refine r_iconst (v := 1) C dX6_putByte_44 (by decide) ?_
      refine r_putz (f := 603) C flX6_35 (by decide) rfl rfl (by decide) dX6_putByte_45 kq_5 rfl h (fun T2 h => ?_)
      exact r_vret C M dX6_putByte_48 h
    · refine r_aload_n C dX6_putByte_19 rfl 0 rfl ?_
      refine r_getp (f := 600) (j := 6) C flX6_12 dX6_putByte_20 kq_5 (by decide) rfl (fun W => pt_600 kq_5 W) ?_
      refine r_aload_n C dX6_putByte_23 rfl 0 rfl ?_
      refine r_geti (f := 601) C flX6_28 dX6_putByte_24 kq_5 (by decide) (by decide) rfl ?_
      refine r_iload_n C dX6_putByte_27 rfl 1 rfl ?_
      show Jr _ _ _ _ _ _ 28 _
      refine r_i2b C dX6_putByte_28 rfl ?_
      refine r_bast (n := 60000) C dX6_putByte_29 kq_6 lq_6 h (fun j3 T5 hj4 h => ?_)
      refine r_aload_n C dX6_putByte_30 rfl 0 rfl ?_
      refine r_dup C dX6_putByte_31 rfl ?_
      refine r_geti (f := 601) C flX6_28 dX6_putByte_32 kq_5 (by decide) (by decide) rfl ?_
      refine r_iconst (v := 1) C dX6_putByte_35 (by decide) ?_
      show Jr _ _ _ _ _ _ 36 _
      refine r_iadd C dX6_putByte_36 rfl ?_
      refine r_puti (f := 601) C flX6_28 (by decide) rfl rfl dX6_putByte_37 kq_5 rfl h (fun T6 h => ?_)
      refine r_goto (tgt := 48) C dX6_putByte_40 (by decide) ?_
      exact r_vret C M dX6_putByte_48 h
theorem dX6_putNumber_0 : decode cX6_putNumber 0 = .ok (.iconst 0, 1) := by decide +kernel
theorem dX6_putNumber_1 : decode cX6_putNumber 1 = .ok (.istore_n 3, 1) := by decide +kernel
theorem dX6_putNumber_2 : decode cX6_putNumber 2 = .ok (.iload_n 3, 1) := by decide +kernel
theorem dX6_putNumber_3 : decode cX6_putNumber 3 = .ok (.iload_n 2, 1) := by decide +kernel
theorem dX6_putNumber_4 : decode cX6_putNumber 4 = .ok (.if_icmp .ge 19, 3) := by decide +kernel
theorem dX6_putNumber_7 : decode cX6_putNumber 7 = .ok (.aload_n 0, 1) := by decide +kernel
theorem dX6_putNumber_8 : decode cX6_putNumber 8 = .ok (.iload_n 1, 1) := by decide +kernel
theorem dX6_putNumber_9 : decode cX6_putNumber 9 = .ok (.bipush 8, 2) := by decide +kernel
theorem dX6_putNumber_11 : decode cX6_putNumber 11 = .ok (.iload_n 3, 1) := by decide +kernel
theorem dX6_putNumber_12 : decode cX6_putNumber 12 = .ok (.imul, 1) := by decide +kernel
theorem dX6_putNumber_13 : decode cX6_putNumber 13 = .ok (.iushr, 1) := by decide +kernel
theorem dX6_putNumber_14 : decode cX6_putNumber 14 = .ok (.invokevirtual 83, 3) := by decide +kernel
theorem dX6_putNumber_17 : decode cX6_putNumber 17 = .ok (.iinc 3 1, 3) := by decide +kernel
theorem dX6_putNumber_20 : decode cX6_putNumber 20 = .ok (.goto (-18), 3) := by decide +kernel
theorem dX6_putNumber_23 : decode cX6_putNumber 23 = .ok (.return_, 1) := by decide +kernel
noncomputable def f_X6_putNumber_b2 (k2 : Int32 → Int32 → Int32 → Mm → Option (Unit × Mm)) (a1 : Int32) (a2 : Int32) (a3 : Int32) (T : Mm) : Option (Unit × Mm) :=
  if a2 ≤ a3 then (some ((), T))
  else (bd (f_X6_putByte (((a1).toUInt32 >>> ((((8 : Int32) * a3) : Int32).toUInt32 &&& Int32.toUInt32 31)).toInt32) T) fun _ T1 =>
  k2 a1 a2 (a3 + 1) T1)
set_option maxRecDepth 100000 in
set_option maxHeartbeats 4000000 in
theorem s_X6_putNumber_b2 {x : JX} {ad : Nat → Nat} {U : Mm} {S0 : Hp} {q : Unit × Mm}  {k2 : Int32 → Int32 → Int32 → Mm → Option (Unit × Mm)} (hn9 : x_n x = 4) (C : CB x RX6 cX6_putNumber) (M : CMr x 2 none S0 ad true U eV q) (hk2 : ∀ (a1 : Int32) (a2 : Int32) (a3 : Int32) (T : Mm), k2 a1 a2 a3 T = some q → Jr x ad true U T [(0, .ref (ad 5)), (1, .int a1), (2, .int a2), (3, .int a3)] 2 []) (a1 : Int32) (a2 : Int32) (a3 : Int32) (T : Mm) (h : f_X6_putNumber_b2 k2 a1 a2 a3 T = some q) : Jr x ad true U T [(0, .ref (ad 5)), (1, .int a1), (2, .int a2), (3, .int a3)] 2 [] := by
  unfold f_X6_putNumber_b2 at h
  refine r_iload_n C dX6_putNumber_2 rfl 3 rfl ?_
  refine r_iload_n C dX6_putNumber_3 rfl 2 rfl ?_
  refine r_ic_ge (tgt := 23) C dX6_putNumber_4 (by decide) h (fun h => ?_) (fun h => ?_)
  · exact r_vret C M dX6_putNumber_23 h
  · refine r_aload_n C dX6_putNumber_7 rfl 0 rfl ?_
    refine r_iload_n C dX6_putNumber_8 rfl 1 rfl ?_
    refine r_bipush (v := 8) C dX6_putNumber_9 (by decide) ?_
    refine r_iload_n C dX6_putNumber_11 rfl 3 rfl ?_
    refine r_imul C dX6_putNumber_12 rfl ?_
    show Jr _ _ _ _ _ _ 13 _
    refine r_iushr C dX6_putNumber_13 rfl ?_
    refine r_callVN C M h [.int (((a1).toUInt32 >>> ((((8 : Int32) * a3) : Int32).toUInt32 &&& Int32.toUInt32 31)).toInt32)] [] mlX6_83 mcX6_putByte (fun q9 e9 => s_X6_putByte (((a1).toUInt32 >>> ((((8 : Int32) * a3) : Int32).toUInt32 &&& Int32.toUInt32 31)).toInt32)  e9) kq_5 rfl (by decide) (by decide) rfl rfl (Nat.le_of_ble_eq_true rfl) dX6_putNumber_14 (fun _ T1 h => ?_)
    refine r_iinc (q := 3) (v := (a3 + 1)) (lv' := [(3, .int (a3 + 1)), (0, .ref (ad 5)), (1, .int a1), (2, .int a2)]) C dX6_putNumber_17 rfl (by rw [show Int32.ofInt (1) = 1 by decide]) (by rw [hn9]; decide) rfl ?_
    refine r_goto (tgt := 2) C dX6_putNumber_20 (by decide) ?_
    refine Jr.sub [1, 2, 3, 0] (lv' := [(0, .ref (ad 5)), (1, .int a1), (2, .int a2), (3, .int (a3 + 1))]) rfl ?_
    exact hk2 a1 a2 (a3 + 1) T1 h
noncomputable def f_X6_putNumber_l2 (n : Nat) : Int32 → Int32 → Int32 → Mm → Option (Unit × Mm) := Nat.rec (fun _ _ _ _ => none) (fun _ ih => f_X6_putNumber_b2 ih) n
theorem s_X6_putNumber_l2 {x : JX} {ad : Nat → Nat} {U : Mm} {S0 : Hp} {q : Unit × Mm}  (hn9 : x_n x = 4) (C : CB x RX6 cX6_putNumber) (M : CMr x 2 none S0 ad true U eV q) : ∀ (n : Nat), ∀ (a1 : Int32) (a2 : Int32) (a3 : Int32) (T : Mm), f_X6_putNumber_l2  n a1 a2 a3 T = some q → Jr x ad true U T [(0, .ref (ad 5)), (1, .int a1), (2, .int a2), (3, .int a3)] 2 [] := by
  intro n
  induction n with
  | zero => intro a1 a2 a3 T  h; exact absurd h (by intro h; cases h)
  | succ n ih => exact fun a1 a2 a3 T  h => s_X6_putNumber_b2 hn9 C M (ih) a1 a2 a3 T  h
noncomputable def f_X6_putNumber (p1 : Int32) (p2 : Int32) (T : Mm) : Option (Unit × Mm) :=
  f_X6_putNumber_l2 FU p1 p2 0 T
set_option maxRecDepth 100000 in
set_option maxHeartbeats 4000000 in
theorem s_X6_putNumber {ad : Nat → Nat} {U T : Mm} {q : Unit × Mm}  (p1 : Int32) (p2 : Int32) (h : f_X6_putNumber p1 p2 T = some q) : Cr 2 yX6_putNumber cX6_putNumber 4 none [.ref (ad 5), .int p1, .int p2] ad true U T eV q := by
  refine cr_of (by decide) (Nat.le_of_ble_eq_true rfl) fun x S0 hn9 C M => ?_
  have C : CB x RX6 cX6_putNumber := C
  refine Jr.eq (lv' := [(0, .ref (ad 5)), (1, .int p1), (2, .int p2)]) (st' := []) rfl rfl ?_
  unfold f_X6_putNumber at h
  refine r_iconst (v := 0) C dX6_putNumber_0 (by decide) ?_
  refine r_istore_n (lv' := [(3, .int 0), (0, .ref (ad 5)), (1, .int p1), (2, .int p2)]) C dX6_putNumber_1 rfl (by rw [hn9]; decide) rfl ?_
  refine Jr.sub [1, 2, 3, 0] (lv' := [(0, .ref (ad 5)), (1, .int p1), (2, .int p2), (3, .int 0)]) rfl ?_
  exact s_X6_putNumber_l2 hn9 C M  FU p1 p2 0 T h
noncomputable def f_X11_zerosAhead (p0 : Int32) (T : Mm) : Option (Int32 × Mm) :=
  lb ((p0 ||| (((p0).toUInt32 >>> ((1 : Int32).toUInt32 &&& Int32.toUInt32 31)).toInt32))) fun v1 =>
  lb ((v1 ||| (((v1).toUInt32 >>> ((2 : Int32).toUInt32 &&& Int32.toUInt32 31)).toInt32))) fun v2 =>
  lb ((v2 ||| (((v2).toUInt32 >>> ((4 : Int32).toUInt32 &&& Int32.toUInt32 31)).toInt32))) fun v3 =>
  lb ((v3 ||| (((v3).toUInt32 >>> ((8 : Int32).toUInt32 &&& Int32.toUInt32 31)).toInt32))) fun v4 =>
  lb ((v4 ||| (((v4).toUInt32 >>> ((16 : Int32).toUInt32 &&& Int32.toUInt32 31)).toInt32))) fun v5 =>
  bd (f_J6_bitCount_0f7a4 v5 T) fun v6 T7 =>
  some (((32 : Int32) - v6), T7)
set_option maxRecDepth 100000 in
set_option maxHeartbeats 4000000 in
theorem s_X11_zerosAhead {ad : Nat → Nat} {U T : Mm} {q : Int32 × Mm}  (p0 : Int32) (h : f_X11_zerosAhead p0 T = some q) : Cr 2 yX11_zerosAhead cX11_zerosAhead 2 (some .int) [.int p0] ad true U T eI q := by
  refine cr_of (by decide) (Nat.le_of_ble_eq_true rfl) fun x S0 hn9 C M => ?_
  have C : CB x RX11 cX11_zerosAhead := C
  refine Jr.eq (lv' := [(0, .int p0)]) (st' := []) rfl rfl ?_
  unfold f_X11_zerosAhead at h
  refine r_iload_n C dX11_zerosAhead_0 rfl 0 rfl ?_
  refine r_iload_n C dX11_zerosAhead_1 rfl 0 rfl ?_
  refine r_iconst (v := 1) C dX11_zerosAhead_2 (by decide) ?_
  refine r_iushr C dX11_zerosAhead_3 rfl ?_
  refine r_ior C dX11_zerosAhead_4 rfl ?_
  show Jr _ _ _ _ _ _ 5 _
  refine r_lbI h (fun v1 h => ?_)
  refine r_istore_n (lv' := [(1, .int v1), (0, .int p0)]) C dX11_zerosAhead_5 rfl (by rw [hn9]; decide) rfl ?_
  refine r_iload_n C dX11_zerosAhead_6 rfl 0 rfl ?_
  refine r_iload_n C dX11_zerosAhead_7 rfl 0 rfl ?_
  refine r_iconst (v := 2) C dX11_zerosAhead_8 (by decide) ?_
  refine r_iushr C dX11_zerosAhead_9 rfl ?_
  refine r_ior C dX11_zerosAhead_10 rfl ?_
  show Jr _ _ _ _ _ _ 11 _
  refine r_lbI h (fun v2 h => ?_)
  refine r_istore_n (lv' := [(1, .int v2), (0, .int p0)]) C dX11_zerosAhead_11 rfl (by rw [hn9]; decide) rfl ?_
  refine r_iload_n C dX11_zerosAhead_12 rfl 0 rfl ?_
  refine r_iload_n C dX11_zerosAhead_13 rfl 0 rfl ?_
  refine r_iconst (v := 4) C dX11_zerosAhead_14 (by decide) ?_
  refine r_iushr C dX11_zerosAhead_15 rfl ?_
  refine r_ior C dX11_zerosAhead_16 rfl ?_
  show Jr _ _ _ _ _ _ 17 _
  refine r_lbI h (fun v3 h => ?_)
  refine r_istore_n (lv' := [(1, .int v3), (0, .int p0)]) C dX11_zerosAhead_17 rfl (by rw [hn9]; decide) rfl ?_
  refine r_iload_n C dX11_zerosAhead_18 rfl 0 rfl ?_
  refine r_iload_n C dX11_zerosAhead_19 rfl 0 rfl ?_
  refine r_bipush (v := 8) C dX11_zerosAhead_20 (by decide) ?_
  refine r_iushr C dX11_zerosAhead_22 rfl ?_
  refine r_ior C dX11_zerosAhead_23 rfl ?_
  show Jr _ _ _ _ _ _ 24 _
  refine r_lbI h (fun v4 h => ?_)
  refine r_istore_n (lv' := [(1, .int v4), (0, .int p0)]) C dX11_zerosAhead_24 rfl (by rw [hn9]; decide) rfl ?_
  refine r_iload_n C dX11_zerosAhead_25 rfl 0 rfl ?_
  refine r_iload_n C dX11_zerosAhead_26 rfl 0 rfl ?_
  refine r_bipush (v := 16) C dX11_zerosAhead_27 (by decide) ?_
  refine r_iushr C dX11_zerosAhead_29 rfl ?_
  refine r_ior C dX11_zerosAhead_30 rfl ?_
  show Jr _ _ _ _ _ _ 31 _
  refine r_lbI h (fun v5 h => ?_)
  refine r_istore_n (lv' := [(1, .int v5), (0, .int p0)]) C dX11_zerosAhead_31 rfl (by rw [hn9]; decide) rfl ?_
  refine r_bipush (v := 32) C dX11_zerosAhead_32 (by decide) ?_
  refine r_iload_n C dX11_zerosAhead_34 rfl 0 rfl ?_
  refine r_callSI C M h [.int v5] [.int 32] mlX11_148 mcJ6_bitCount_0f7a4 (fun q9 e9 => s_J6_bitCount_0f7a4 v5  e9) (by decide) (by decide) rfl rfl (Nat.le_of_ble_eq_true rfl) dX11_zerosAhead_35 (fun v6 T7 h => ?_)
  refine r_isub C dX11_zerosAhead_38 rfl ?_
  exact r_iret C M dX11_zerosAhead_39 h
noncomputable def f_X11_firstOther_104 (a1 : Int32) (a3 : Int32) (a7 : Int32) (a8 : Int32) (T : Mm) : Option (Int32 × Mm) :=
  if a8 = 0 then (some (a3, T))
  else (bd (f_X11_zerosAhead a8 T) fun v1 T2 =>
  bd (f_J9_min_7cf53 a3 (((a7 - a1) <<< ((5 : Int32) &&& 31)) + v1) T2) fun v3 T4 =>
  some (v3, T4))
set_option maxRecDepth 100000 in
set_option maxHeartbeats 4000000 in
theorem s_X11_firstOther_104 {x : JX} {ad : Nat → Nat} {U : Mm} {S0 : Hp} {q : Int32 × Mm}  (hn9 : x_n x = 9) (C : CB x RX11 cX11_firstOther) (M : CMr x 3 (some .int) S0 ad true U eI q) (a1 : Int32) (a3 : Int32) (a7 : Int32) (a8 : Int32) (T : Mm) (h : f_X11_firstOther_104  a1 a3 a7 a8 T = some q) : Jr x ad true U T [(1, .int a1), (3, .int a3), (7, .int a7), (8, .int a8)] 104 [] := by
  unfold f_X11_firstOther_104 at h
  refine r_iload C dX11_firstOther_104 3 rfl ?_
  refine r_if_ne (tgt := 113) C dX11_firstOther_106 (by decide) h (fun h => ?_) (fun h => ?_)
  · refine r_iload_n C dX11_firstOther_113 rfl 1 rfl ?_
    refine r_iload C dX11_firstOther_114 2 rfl ?_
    refine r_iload_n C dX11_firstOther_116 rfl 0 rfl ?_
    refine r_isub C dX11_firstOther_117 rfl ?_
    refine r_iconst (v := 5) C dX11_firstOther_118 (by decide) ?_
    show Jr _ _ _ _ _ _ 119 _
    refine r_ishl C dX11_firstOther_119 rfl ?_
    refine r_iload C dX11_firstOther_120 3 rfl ?_
    refine r_callSI C M h [.int a8] [.int ((a7 - a1) <<< ((5 : Int32) &&& 31)), .int a3] mlX11_153 mcX11_zerosAhead (fun q9 e9 => s_X11_zerosAhead a8  e9) (by decide) (by decide) rfl rfl (Nat.le_of_ble_eq_true rfl) dX11_firstOther_122 (fun v1 T2 h => ?_)
    refine r_iadd C dX11_firstOther_125 rfl ?_
    refine r_callSI C M h [.int a3, .int (((a7 - a1) <<< ((5 : Int32) &&& 31)) + v1)] [] mlX11_156 mcJ9_min_7cf53 (fun q9 e9 => s_J9_min_7cf53 a3 (((a7 - a1) <<< ((5 : Int32) &&& 31)) + v1)  e9) (by decide) (by decide) rfl rfl (Nat.le_of_ble_eq_true rfl) dX11_firstOther_126 (fun v3 T4 h => ?_)
    exact r_iret C M dX11_firstOther_129 h
  · refine r_iload_n C dX11_firstOther_109 rfl 1 rfl ?_
    refine r_goto (tgt := 129) C dX11_firstOther_110 (by decide) ?_
    exact r_iret C M dX11_firstOther_129 h
noncomputable def f_X11_firstOther_b77 (k77 : Nat → Int32 → Int32 → Int32 → Int32 → Int32 → Int32 → Mm → Option (Int32 × Mm)) (a0 : Nat) (a1 : Int32) (a3 : Int32) (a5 : Int32) (a6 : Int32) (a7 : Int32) (a8 : Int32) (T : Mm) : Option (Int32 × Mm) :=
  if a8 = 0 then (if a5 ≤ a7 then (f_X11_firstOther_104 a1 a3 a7 a8 T)
  else (ix (a7 + 1) (LN a0) fun j1 =>
  lb (((gA T a0 j1) ^^^ a6)) fun v3 =>
  k77 a0 a1 a3 a5 a6 (a7 + 1) v3 T))
  else (f_X11_firstOther_104 a1 a3 a7 a8 T)
set_option maxRecDepth 100000 in
set_option maxHeartbeats 4000000 in
theorem s_X11_firstOther_b77 {x : JX} {ad : Nat → Nat} {U : Mm} {S0 : Hp} {q : Int32 × Mm}  {k77 : Nat → Int32 → Int32 → Int32 → Int32 → Int32 → Int32 → Mm → Option (Int32 × Mm)} (hn9 : x_n x = 9) (C : CB x RX11 cX11_firstOther) (M : CMr x 3 (some .int) S0 ad true U eI q) (hk77 : ∀ (a0 : Nat) (a1 : Int32) (a3 : Int32) (a5 : Int32) (a6 : Int32) (a7 : Int32) (a8 : Int32) (T : Mm) (_ : kS true a0 = 14), k77 a0 a1 a3 a5 a6 a7 a8 T = some q → Jr x ad true U T [(0, .ref (ad a0)), (1, .int a1), (3, .int a3), (5, .int a5), (6, .int a6), (7, .int a7), (8, .int a8)] 77 []) (a0 : Nat) (a1 : Int32) (a3 : Int32) (a5 : Int32) (a6 : Int32) (a7 : Int32) (a8 : Int32) (T : Mm) (ha0 : kS true a0 = 14) (h : f_X11_firstOther_b77 k77 a0 a1 a3 a5 a6 a7 a8 T = some q) : Jr x ad true U T [(0, .ref (ad a0)), (1, .int a1), (3, .int a3), (5, .int a5), (6, .int a6), (7, .int a7), (8, .int a8)] 77 [] := by
  unfold f_X11_firstOther_b77 at h
  refine r_iload C dX11_firstOther_77 6 rfl ?_
  refine r_if_ne (tgt := 104) C dX11_firstOther_79 (by decide) h (fun h => ?_) (fun h => ?_)
  · refine Jr.sub [1, 2, 5, 6] (lv' := [(1, .int a1), (3, .int a3), (7, .int a7), (8, .int a8)]) rfl ?_
    exact s_X11_firstOther_104 hn9 C M  a1 a3 a7 a8 T h
  · refine r_iload C dX11_firstOther_82 5 rfl ?_
    refine r_iload C dX11_firstOther_84 3 rfl ?_
    refine r_ic_ge (tgt := 104) C dX11_firstOther_86 (by decide) h (fun h => ?_) (fun h => ?_)
    · refine Jr.sub [1, 2, 5, 6] (lv' := [(1, .int a1), (3, .int a3), (7, .int a7), (8, .int a8)]) rfl ?_
      exact s_X11_firstOther_104 hn9 C M  a1 a3 a7 a8 T h
    · refine r_iinc (q := 5) (v := (a7 + 1)) (lv' := [(7, .int (a7 + 1)), (0, .ref (ad a0)), (1, .int a1), (3, .int a3), (5, .int a5), (6, .int a6), (8, .int a8)]) C dX11_firstOther_89 rfl (by rw [show Int32.ofInt (1) = 1 by decide]) (by rw [hn9]; decide) rfl ?_
      refine r_aload_n C dX11_firstOther_92 rfl 1 rfl ?_
      refine r_iload C dX11_firstOther_93 0 rfl ?_
      refine r_iald (n := (LN a0)) C dX11_firstOther_95 ha0 rfl h (fun j1 hj2 h => ?_)
      refine r_iload C dX11_firstOther_96 5 rfl ?_
      show Jr _ _ _ _ _ _ 98 _
      refine r_ixor C dX11_firstOther_98 rfl ?_
      refine r_lbI h (fun v3 h => ?_)
      refine r_istore (lv' := [(8, .int v3), (7, .int (a7 + 1)), (0, .ref (ad a0)), (1, .int a1), (3, .int a3), (5, .int a5), (6, .int a6)]) C dX11_firstOther_99 (by rw [hn9]; decide) rfl ?_
      refine r_goto (tgt := 77) C dX11_firstOther_101 (by decide) ?_
      refine Jr.sub [2, 3, 4, 5, 6, 1, 0] (lv' := [(0, .ref (ad a0)), (1, .int a1), (3, .int a3), (5, .int a5), (6, .int a6), (7, .int (a7 + 1)), (8, .int v3)]) rfl ?_
      exact hk77 a0 a1 a3 a5 a6 (a7 + 1) v3 T ha0 h
noncomputable def f_X11_firstOther_l77 (n : Nat) : Nat → Int32 → Int32 → Int32 → Int32 → Int32 → Int32 → Mm → Option (Int32 × Mm) := Nat.rec (fun _ _ _ _ _ _ _ _ => none) (fun _ ih => f_X11_firstOther_b77 ih) n
theorem s_X11_firstOther_l77 {x : JX} {ad : Nat → Nat} {U : Mm} {S0 : Hp} {q : Int32 × Mm}  (hn9 : x_n x = 9) (C : CB x RX11 cX11_firstOther) (M : CMr x 3 (some .int) S0 ad true U eI q) : ∀ (n : Nat), ∀ (a0 : Nat) (a1 : Int32) (a3 : Int32) (a5 : Int32) (a6 : Int32) (a7 : Int32) (a8 : Int32) (T : Mm) (_ : kS true a0 = 14), f_X11_firstOther_l77  n a0 a1 a3 a5 a6 a7 a8 T = some q → Jr x ad true U T [(0, .ref (ad a0)), (1, .int a1), (3, .int a3), (5, .int a5), (6, .int a6), (7, .int a7), (8, .int a8)] 77 [] := by
  intro n
  induction n with
  | zero => intro a0 a1 a3 a5 a6 a7 a8 T _ h; exact absurd h (by intro h; cases h)
  | succ n ih => exact fun a0 a1 a3 a5 a6 a7 a8 T ha0 h => s_X11_firstOther_b77 hn9 C M (ih) a0 a1 a3 a5 a6 a7 a8 T ha0 h
noncomputable def f_X11_firstOther (p0 : Nat) (p1 : Int32) (p2 : Int32) (p3 : Int32) (p4 : Int32) (T : Mm) : Option (Int32 × Mm) :=
  if p2 < 0 then (some (p3, T))
  else (if p2 < p3 then (if 0 ≤ p1 then (lb ((p1 + ((p3 - 1) >>> ((5 : Int32) &&& 31)))) fun v1 =>
  if v1 < 0 then (some (p3, T))
  else (if v1 < (Int32.ofNat (LN p0)) then (lb ((p1 + (p2 >>> ((5 : Int32) &&& 31)))) fun v2 =>
  ix v2 (LN p0) fun j3 =>
  lb ((((gA T p0 j3) ^^^ (-p4)) &&& ((((-1 : Int32)).toUInt32 >>> (((p2 &&& 31) : Int32).toUInt32 &&& Int32.toUInt32 31)).toInt32))) fun v5 =>
  f_X11_firstOther_l77 FU p0 p1 p3 v1 (-p4) v2 v5 T)
  else (some (p3, T))))
  else (if p4 = 0 then (some (p3, T))
  else (some (p2, T))))
  else (some (p3, T)))
set_option maxRecDepth 100000 in
set_option maxHeartbeats 4000000 in
theorem s_X11_firstOther {ad : Nat → Nat} {U T : Mm} {q : Int32 × Mm}  (p0 : Nat) (p1 : Int32) (p2 : Int32) (p3 : Int32) (p4 : Int32) (hk0 : kS true p0 = 14) (h : f_X11_firstOther p0 p1 p2 p3 p4 T = some q) : Cr 3 yX11_firstOther cX11_firstOther 9 (some .int) [.ref (ad p0), .int p1, .int p2, .int p3, .int p4] ad true U T eI q := by
  refine cr_of (by decide) (Nat.le_of_ble_eq_true rfl) fun x S0 hn9 C M => ?_
  have C : CB x RX11 cX11_firstOther := C
  refine Jr.eq (lv' := [(0, .ref (ad p0)), (1, .int p1), (2, .int p2), (3, .int p3), (4, .int p4)]) (st' := []) rfl rfl ?_
  unfold f_X11_firstOther at h
  refine r_iload_n C dX11_firstOther_0 rfl 2 rfl ?_
  refine r_if_lt (tgt := 9) C dX11_firstOther_1 (by decide) h (fun h => ?_) (fun h => ?_)
  · refine r_iload_n C dX11_firstOther_9 rfl 3 rfl ?_
    exact r_iret C M dX11_firstOther_10 h
  · refine r_iload_n C dX11_firstOther_4 rfl 2 rfl ?_
    refine r_iload_n C dX11_firstOther_5 rfl 3 rfl ?_
    refine r_ic_lt (tgt := 11) C dX11_firstOther_6 (by decide) h (fun h => ?_) (fun h => ?_)
    · refine r_iload_n C dX11_firstOther_11 rfl 1 rfl ?_
      refine r_if_ge (tgt := 26) C dX11_firstOther_12 (by decide) h (fun h => ?_) (fun h => ?_)
      · refine r_iload_n C dX11_firstOther_26 rfl 1 rfl ?_
        refine r_iload_n C dX11_firstOther_27 rfl 3 rfl ?_
        refine r_iconst (v := 1) C dX11_firstOther_28 (by decide) ?_
        refine r_isub C dX11_firstOther_29 rfl ?_
        refine r_iconst (v := 5) C dX11_firstOther_30 (by decide) ?_
        show Jr _ _ _ _ _ _ 31 _
        refine r_ishr C dX11_firstOther_31 rfl ?_
        refine r_iadd C dX11_firstOther_32 rfl ?_
        refine r_lbI h (fun v1 h => ?_)
        refine r_istore (lv' := [(5, .int v1), (0, .ref (ad p0)), (1, .int p1), (2, .int p2), (3, .int p3), (4, .int p4)]) C dX11_firstOther_33 (by rw [hn9]; decide) rfl ?_
        refine r_iload C dX11_firstOther_35 0 rfl ?_
        refine r_if_lt (tgt := 47) C dX11_firstOther_37 (by decide) h (fun h => ?_) (fun h => ?_)
        · refine r_iload_n C dX11_firstOther_47 rfl 4 rfl ?_
          exact r_iret C M dX11_firstOther_48 h
        · refine r_iload C dX11_firstOther_40 0 rfl ?_
          refine r_aload_n C dX11_firstOther_42 rfl 1 rfl ?_
          refine r_alen (n := 0) C dX11_firstOther_43 hk0 (by decide) (by decide) rfl ?_
          refine r_ic_lt (tgt := 49) C dX11_firstOther_44 (by decide) h (fun h => ?_) (fun h => ?_)
          · refine r_iload C dX11_firstOther_49 5 rfl ?_
            refine r_ineg C dX11_firstOther_51 rfl ?_
            refine r_istore (lv' := [(6, .int (-p4)), (5, .int v1), (0, .ref (ad p0)), (1, .int p1), (2, .int p2), (3, .int p3), (4, .int p4)]) C dX11_firstOther_52 (by rw [hn9]; decide) rfl ?_
            refine r_iload_n C dX11_firstOther_54 rfl 3 rfl ?_
            refine r_iload_n C dX11_firstOther_55 rfl 4 rfl ?_
            show Jr _ _ _ _ _ _ 56 _
            refine r_iconst (v := 5) C dX11_firstOther_56 (by decide) ?_
            refine r_ishr C dX11_firstOther_57 rfl ?_
            refine r_iadd C dX11_firstOther_58 rfl ?_
            refine r_lbI h (fun v2 h => ?_)
            refine r_istore (lv' := [(7, .int v2), (6, .int (-p4)), (5, .int v1), (0, .ref (ad p0)), (1, .int p1), (2, .int p2), (3, .int p3), (4, .int p4)]) C dX11_firstOther_59 (by rw [hn9]; decide) rfl ?_
            refine r_aload_n C dX11_firstOther_61 rfl 3 rfl ?_
            refine r_iload C dX11_firstOther_62 0 rfl ?_
            show Jr _ _ _ _ _ _ 64 _
            refine r_iald (n := (LN p0)) C dX11_firstOther_64 hk0 rfl h (fun j3 hj4 h => ?_)
            refine r_iload C dX11_firstOther_65 1 rfl ?_
            refine r_ixor C dX11_firstOther_67 rfl ?_
            refine r_iconst (v := (-1)) C dX11_firstOther_68 (by decide) ?_
            refine r_iload_n C dX11_firstOther_69 rfl 5 rfl ?_
            refine r_bipush (v := 31) C dX11_firstOther_70 (by decide) ?_
            show Jr _ _ _ _ _ _ 72 _
            refine r_iand C dX11_firstOther_72 rfl ?_
            refine r_iushr C dX11_firstOther_73 rfl ?_
            refine r_iand C dX11_firstOther_74 rfl ?_
            refine r_lbI h (fun v5 h => ?_)
            refine r_istore (lv' := [(8, .int v5), (7, .int v2), (6, .int (-p4)), (5, .int v1), (0, .ref (ad p0)), (1, .int p1), (2, .int p2), (3, .int p3), (4, .int p4)]) C dX11_firstOther_75 (by rw [hn9]; decide) rfl ?_
            refine Jr.sub [4, 5, 7, 3, 2, 1, 0] (lv' := [(0, .ref (ad p0)), (1, .int p1), (3, .int p3), (5, .int v1), (6, .int (-p4)), (7, .int v2), (8, .int v5)]) rfl ?_
            exact s_X11_firstOther_l77 hn9 C M  FU p0 p1 p3 v1 (-p4) v2 v5 T hk0 h
          · refine r_iload_n C dX11_firstOther_47 rfl 4 rfl ?_
            exact r_iret C M dX11_firstOther_48 h
      · refine r_iload C dX11_firstOther_15 4 rfl ?_
        refine r_if_ne (tgt := 24) C dX11_firstOther_17 (by decide) h (fun h => ?_) (fun h => ?_)
        · refine r_iload_n C dX11_firstOther_24 rfl 2 rfl ?_
          exact r_iret C M dX11_firstOther_25 h
        · refine r_iload_n C dX11_firstOther_20 rfl 3 rfl ?_
          refine r_goto (tgt := 25) C dX11_firstOther_21 (by decide) ?_
          exact r_iret C M dX11_firstOther_25 h
    · refine r_iload_n C dX11_firstOther_9 rfl 3 rfl ?_
      exact r_iret C M dX11_firstOther_10 h
noncomputable def f_X11_dotAt (p0 : Nat) (p1 : Int32) (p2 : Int32) (T : Mm) : Option (Int32 × Mm) :=
  lb ((p1 + (p2 >>> ((5 : Int32) &&& 31)))) fun v1 =>
  if p1 < 0 then (some (0, T))
  else (if p2 < 0 then (some (0, T))
  else (if v1 < 0 then (some (0, T))
  else (if v1 < (Int32.ofNat (LN p0)) then (ix v1 (LN p0) fun j2 =>
  some ((((((gA T p0 j2)).toUInt32 >>> ((((31 : Int32) - (p2 &&& 31)) : Int32).toUInt32 &&& Int32.toUInt32 31)).toInt32) &&& 1), T))
  else (some (0, T)))))
set_option maxRecDepth 100000 in
set_option maxHeartbeats 4000000 in
theorem s_X11_dotAt {ad : Nat → Nat} {U T : Mm} {q : Int32 × Mm}  (p0 : Nat) (p1 : Int32) (p2 : Int32) (hk0 : kS true p0 = 14) (h : f_X11_dotAt p0 p1 p2 T = some q) : Cr 1 yX11_dotAt cX11_dotAt 4 (some .int) [.ref (ad p0), .int p1, .int p2] ad true U T eI q := by
  refine cr_of (by decide) (Nat.le_of_ble_eq_true rfl) fun x S0 hn9 C M => ?_
  have C : CB x RX11 cX11_dotAt := C
  refine Jr.eq (lv' := [(0, .ref (ad p0)), (1, .int p1), (2, .int p2)]) (st' := []) rfl rfl ?_
  unfold f_X11_dotAt at h
  refine r_iload_n C dX11_dotAt_0 rfl 1 rfl ?_
  refine r_iload_n C dX11_dotAt_1 rfl 2 rfl ?_
  refine r_iconst (v := 5) C dX11_dotAt_2 (by decide) ?_
  refine r_ishr C dX11_dotAt_3 rfl ?_
  refine r_iadd C dX11_dotAt_4 rfl ?_
  show Jr _ _ _ _ _ _ 5 _
  refine r_lbI h (fun v1 h => ?_)
  refine r_istore_n (lv' := [(3, .int v1), (0, .ref (ad p0)), (1, .int p1), (2, .int p2)]) C dX11_dotAt_5 rfl (by rw [hn9]; decide) rfl ?_
  refine r_iload_n C dX11_dotAt_6 rfl 2 rfl ?_
  refine r_if_lt (tgt := 24) C dX11_dotAt_7 (by decide) h (fun h => ?_) (fun h => ?_)
  · refine r_iconst (v := 0) C dX11_dotAt_24 (by decide) ?_
    exact r_iret C M dX11_dotAt_25 h
  · refine r_iload_n C dX11_dotAt_10 rfl 3 rfl ?_
    refine r_if_lt (tgt := 24) C dX11_dotAt_11 (by decide) h (fun h => ?_) (fun h => ?_)
    · refine r_iconst (v := 0) C dX11_dotAt_24 (by decide) ?_
      exact r_iret C M dX11_dotAt_25 h
    · refine r_iload_n C dX11_dotAt_14 rfl 0 rfl ?_
      refine r_if_lt (tgt := 24) C dX11_dotAt_15 (by decide) h (fun h => ?_) (fun h => ?_)
      · refine r_iconst (v := 0) C dX11_dotAt_24 (by decide) ?_
        exact r_iret C M dX11_dotAt_25 h
      · refine r_iload_n C dX11_dotAt_18 rfl 0 rfl ?_
        refine r_aload_n C dX11_dotAt_19 rfl 1 rfl ?_
        refine r_alen (n := 0) C dX11_dotAt_20 hk0 (by decide) (by decide) rfl ?_
        refine r_ic_lt (tgt := 26) C dX11_dotAt_21 (by decide) h (fun h => ?_) (fun h => ?_)
        · refine r_aload_n C dX11_dotAt_26 rfl 1 rfl ?_
          refine r_iload_n C dX11_dotAt_27 rfl 0 rfl ?_
          refine r_iald (n := (LN p0)) C dX11_dotAt_28 hk0 rfl h (fun j2 hj3 h => ?_)
          refine r_bipush (v := 31) C dX11_dotAt_29 (by decide) ?_
          refine r_iload_n C dX11_dotAt_31 rfl 3 rfl ?_
          show Jr _ _ _ _ _ _ 32 _
          refine r_bipush (v := 31) C dX11_dotAt_32 (by decide) ?_
          refine r_iand C dX11_dotAt_34 rfl ?_
          refine r_isub C dX11_dotAt_35 rfl ?_
          refine r_iushr C dX11_dotAt_36 rfl ?_
          refine r_iconst (v := 1) C dX11_dotAt_37 (by decide) ?_
          refine r_iand C dX11_dotAt_38 rfl ?_
          show Jr _ _ _ _ _ _ 39 _
          exact r_iret C M dX11_dotAt_39 h
        · refine r_iconst (v := 0) C dX11_dotAt_24 (by decide) ?_
          exact r_iret C M dX11_dotAt_25 h
noncomputable def f_X11_firstChange_23 (a0 : Nat) (a1 : Int32) (a3 : Int32) (a4 : Int32) (a5 : Int32) (b0 : Int32) (T : Mm) : Option (Int32 × Mm) :=
  if b0 = a4 then (bd (f_X11_firstOther a0 a1 a5 a3 a4 T) fun v5 T6 =>
  some (v5, T6))
  else (bd (f_X11_firstOther a0 a1 a5 a3 ((1 : Int32) - a4) T) fun v1 T2 =>
  bd (f_X11_firstOther a0 a1 v1 a3 a4 T2) fun v3 T4 =>
  some (v3, T4))
set_option maxRecDepth 100000 in
set_option maxHeartbeats 4000000 in
theorem s_X11_firstChange_23 {x : JX} {ad : Nat → Nat} {U : Mm} {S0 : Hp} {q : Int32 × Mm}  (hn9 : x_n x = 8) (C : CB x RX11 cX11_firstChange) (M : CMr x 4 (some .int) S0 ad true U eI q) (a0 : Nat) (a1 : Int32) (a3 : Int32) (a4 : Int32) (a5 : Int32) (b0 : Int32) (T : Mm) (ha0 : kS true a0 = 14) (h : f_X11_firstChange_23  a0 a1 a3 a4 a5 b0 T = some q) : Jr x ad true U T [(0, .ref (ad a0)), (1, .int a1), (3, .int a3), (4, .int a4), (5, .int a5)] 23 [.int b0] := by
  unfold f_X11_firstChange_23 at h
  refine r_istore (lv' := [(6, .int b0), (0, .ref (ad a0)), (1, .int a1), (3, .int a3), (4, .int a4), (5, .int a5)]) C dX11_firstChange_23 (by rw [hn9]; decide) rfl ?_
  refine r_iload C dX11_firstChange_25 0 rfl ?_
  refine r_iload C dX11_firstChange_27 4 rfl ?_
  refine r_ic_ne (tgt := 37) C dX11_firstChange_29 (by decide) h (fun h => ?_) (fun h => ?_)
  · refine r_aload_n C dX11_firstChange_37 rfl 1 rfl ?_
    refine r_iload_n C dX11_firstChange_38 rfl 2 rfl ?_
    refine r_iload C dX11_firstChange_39 5 rfl ?_
    refine r_iload_n C dX11_firstChange_41 rfl 3 rfl ?_
    refine r_iconst (v := 1) C dX11_firstChange_42 (by decide) ?_
    show Jr _ _ _ _ _ _ 43 _
    refine r_iload C dX11_firstChange_43 4 rfl ?_
    refine r_isub C dX11_firstChange_45 rfl ?_
    refine r_callSI C M h [.ref (ad a0), .int a1, .int a5, .int a3, .int ((1 : Int32) - a4)] [] mlX11_161 mcX11_firstOther (fun q9 e9 => s_X11_firstOther a0 a1 a5 a3 ((1 : Int32) - a4) ha0 e9) (by decide) (by decide) rfl rfl (Nat.le_of_ble_eq_true rfl) dX11_firstChange_46 (fun v1 T2 h => ?_)
    refine r_istore (lv' := [(7, .int v1), (6, .int b0), (0, .ref (ad a0)), (1, .int a1), (3, .int a3), (4, .int a4), (5, .int a5)]) C dX11_firstChange_49 (by rw [hn9]; decide) rfl ?_
    refine r_aload_n C dX11_firstChange_51 rfl 2 rfl ?_
    refine r_iload_n C dX11_firstChange_52 rfl 3 rfl ?_
    show Jr _ _ _ _ _ _ 53 _
    refine r_iload C dX11_firstChange_53 0 rfl ?_
    refine r_iload_n C dX11_firstChange_55 rfl 4 rfl ?_
    refine r_iload C dX11_firstChange_56 5 rfl ?_
    refine r_callSI C M h [.ref (ad a0), .int a1, .int v1, .int a3, .int a4] [] mlX11_161 mcX11_firstOther (fun q9 e9 => s_X11_firstOther a0 a1 v1 a3 a4 ha0 e9) (by decide) (by decide) rfl rfl (Nat.le_of_ble_eq_true rfl) dX11_firstChange_58 (fun v3 T4 h => ?_)
    exact r_iret C M dX11_firstChange_61 h
  · refine r_iload C dX11_firstChange_32 5 rfl ?_
    refine r_goto (tgt := 49) C dX11_firstChange_34 (by decide) ?_
    refine r_istore (lv' := [(7, .int a5), (6, .int b0), (0, .ref (ad a0)), (1, .int a1), (3, .int a3), (4, .int a4), (5, .int a5)]) C dX11_firstChange_49 (by rw [hn9]; decide) rfl ?_
    refine r_aload_n C dX11_firstChange_51 rfl 2 rfl ?_
    refine r_iload_n C dX11_firstChange_52 rfl 3 rfl ?_
    show Jr _ _ _ _ _ _ 53 _
    refine r_iload C dX11_firstChange_53 0 rfl ?_
    refine r_iload_n C dX11_firstChange_55 rfl 4 rfl ?_
    refine r_iload C dX11_firstChange_56 5 rfl ?_
    refine r_callSI C M h [.ref (ad a0), .int a1, .int a5, .int a3, .int a4] [] mlX11_161 mcX11_firstOther (fun q9 e9 => s_X11_firstOther a0 a1 a5 a3 a4 ha0 e9) (by decide) (by decide) rfl rfl (Nat.le_of_ble_eq_true rfl) dX11_firstChange_58 (fun v5 T6 h => ?_)
    exact r_iret C M dX11_firstChange_61 h
noncomputable def f_X11_firstChange (p0 : Nat) (p1 : Int32) (p2 : Int32) (p3 : Int32) (p4 : Int32) (T : Mm) : Option (Int32 × Mm) :=
  lb ((p2 + 1)) fun v1 =>
  if v1 = 0 then (f_X11_firstChange_23 p0 p1 p3 p4 v1 0 T)
  else (bd (f_X11_dotAt p0 p1 (v1 - 1) T) fun v2 T3 =>
  f_X11_firstChange_23 p0 p1 p3 p4 v1 v2 T3)
set_option maxRecDepth 100000 in
set_option maxHeartbeats 4000000 in
theorem s_X11_firstChange {ad : Nat → Nat} {U T : Mm} {q : Int32 × Mm}  (p0 : Nat) (p1 : Int32) (p2 : Int32) (p3 : Int32) (p4 : Int32) (hk0 : kS true p0 = 14) (h : f_X11_firstChange p0 p1 p2 p3 p4 T = some q) : Cr 4 yX11_firstChange cX11_firstChange 8 (some .int) [.ref (ad p0), .int p1, .int p2, .int p3, .int p4] ad true U T eI q := by
  refine cr_of (by decide) (Nat.le_of_ble_eq_true rfl) fun x S0 hn9 C M => ?_
  have C : CB x RX11 cX11_firstChange := C
  refine Jr.eq (lv' := [(0, .ref (ad p0)), (1, .int p1), (2, .int p2), (3, .int p3), (4, .int p4)]) (st' := []) rfl rfl ?_
  unfold f_X11_firstChange at h
  refine r_iload_n C dX11_firstChange_0 rfl 2 rfl ?_
  refine r_iconst (v := 1) C dX11_firstChange_1 (by decide) ?_
  refine r_iadd C dX11_firstChange_2 rfl ?_
  refine r_lbI h (fun v1 h => ?_)
  refine r_istore (lv' := [(5, .int v1), (0, .ref (ad p0)), (1, .int p1), (2, .int p2), (3, .int p3), (4, .int p4)]) C dX11_firstChange_3 (by rw [hn9]; decide) rfl ?_
  refine r_iload C dX11_firstChange_5 0 rfl ?_
  show Jr _ _ _ _ _ _ 7 _
  refine r_if_ne (tgt := 14) C dX11_firstChange_7 (by decide) h (fun h => ?_) (fun h => ?_)
  · refine r_aload_n C dX11_firstChange_14 rfl 1 rfl ?_
    refine r_iload_n C dX11_firstChange_15 rfl 2 rfl ?_
    refine r_iload C dX11_firstChange_16 0 rfl ?_
    refine r_iconst (v := 1) C dX11_firstChange_18 (by decide) ?_
    refine r_isub C dX11_firstChange_19 rfl ?_
    show Jr _ _ _ _ _ _ 20 _
    refine r_callSI C M h [.ref (ad p0), .int p1, .int (v1 - 1)] [] mlX11_131 mcX11_dotAt (fun q9 e9 => s_X11_dotAt p0 p1 (v1 - 1) hk0 e9) (by decide) (by decide) rfl rfl (Nat.le_of_ble_eq_true rfl) dX11_firstChange_20 (fun v2 T3 h => ?_)
    refine Jr.sub [1, 2, 4, 5, 0] (lv' := [(0, .ref (ad p0)), (1, .int p1), (3, .int p3), (4, .int p4), (5, .int v1)]) rfl ?_
    exact s_X11_firstChange_23 hn9 C M  p0 p1 p3 p4 v1 v2 T3 hk0 h
  · refine r_iconst (v := 0) C dX11_firstChange_10 (by decide) ?_
    refine r_goto (tgt := 23) C dX11_firstChange_11 (by decide) ?_
    refine Jr.sub [1, 2, 4, 5, 0] (lv' := [(0, .ref (ad p0)), (1, .int p1), (3, .int p3), (4, .int p4), (5, .int v1)]) rfl ?_
    exact s_X11_firstChange_23 hn9 C M  p0 p1 p3 p4 v1 0 T hk0 h
theorem dX6_putBits_0 : decode cX6_putBits 0 = .ok (.aload_n 0, 1) := by decide +kernel
theorem dX6_putBits_1 : decode cX6_putBits 1 = .ok (.aload_n 0, 1) := by decide +kernel
theorem dX6_putBits_2 : decode cX6_putBits 2 = .ok (.getfield 66, 3) := by decide +kernel
theorem dX6_putBits_5 : decode cX6_putBits 5 = .ok (.iload_n 2, 1) := by decide +kernel
theorem dX6_putBits_6 : decode cX6_putBits 6 = .ok (.ishl, 1) := by decide +kernel
theorem dX6_putBits_7 : decode cX6_putBits 7 = .ok (.iload_n 1, 1) := by decide +kernel
theorem dX6_putBits_8 : decode cX6_putBits 8 = .ok (.ior, 1) := by decide +kernel
theorem dX6_putBits_9 : decode cX6_putBits 9 = .ok (.putfield 66, 3) := by decide +kernel
theorem dX6_putBits_12 : decode cX6_putBits 12 = .ok (.aload_n 0, 1) := by decide +kernel
theorem dX6_putBits_13 : decode cX6_putBits 13 = .ok (.dup, 1) := by decide +kernel
theorem dX6_putBits_14 : decode cX6_putBits 14 = .ok (.getfield 69, 3) := by decide +kernel
theorem dX6_putBits_17 : decode cX6_putBits 17 = .ok (.iload_n 2, 1) := by decide +kernel
theorem dX6_putBits_18 : decode cX6_putBits 18 = .ok (.iadd, 1) := by decide +kernel
theorem dX6_putBits_19 : decode cX6_putBits 19 = .ok (.putfield 69, 3) := by decide +kernel
theorem dX6_putBits_22 : decode cX6_putBits 22 = .ok (.aload_n 0, 1) := by decide +kernel
theorem dX6_putBits_23 : decode cX6_putBits 23 = .ok (.getfield 69, 3) := by decide +kernel
theorem dX6_putBits_26 : decode cX6_putBits 26 = .ok (.bipush 8, 2) := by decide +kernel
theorem dX6_putBits_28 : decode cX6_putBits 28 = .ok (.if_icmp .lt 30, 3) := by decide +kernel
theorem dX6_putBits_31 : decode cX6_putBits 31 = .ok (.aload_n 0, 1) := by decide +kernel
theorem dX6_putBits_32 : decode cX6_putBits 32 = .ok (.dup, 1) := by decide +kernel
theorem dX6_putBits_33 : decode cX6_putBits 33 = .ok (.getfield 69, 3) := by decide +kernel
theorem dX6_putBits_36 : decode cX6_putBits 36 = .ok (.bipush 8, 2) := by decide +kernel
theorem dX6_putBits_38 : decode cX6_putBits 38 = .ok (.isub, 1) := by decide +kernel
theorem dX6_putBits_39 : decode cX6_putBits 39 = .ok (.putfield 69, 3) := by decide +kernel
theorem dX6_putBits_42 : decode cX6_putBits 42 = .ok (.aload_n 0, 1) := by decide +kernel
theorem dX6_putBits_43 : decode cX6_putBits 43 = .ok (.aload_n 0, 1) := by decide +kernel
theorem dX6_putBits_44 : decode cX6_putBits 44 = .ok (.getfield 66, 3) := by decide +kernel
theorem dX6_putBits_47 : decode cX6_putBits 47 = .ok (.aload_n 0, 1) := by decide +kernel
theorem dX6_putBits_48 : decode cX6_putBits 48 = .ok (.getfield 69, 3) := by decide +kernel
theorem dX6_putBits_51 : decode cX6_putBits 51 = .ok (.iushr, 1) := by decide +kernel
theorem dX6_putBits_52 : decode cX6_putBits 52 = .ok (.invokevirtual 83, 3) := by decide +kernel
theorem dX6_putBits_55 : decode cX6_putBits 55 = .ok (.goto (-33), 3) := by decide +kernel
theorem dX6_putBits_58 : decode cX6_putBits 58 = .ok (.return_, 1) := by decide +kernel
noncomputable def f_X6_putBits_b22 (k22 : Mm → Option (Unit × Mm)) (T : Mm) : Option (Unit × Mm) :=
  if (gI T 609 5) < 8 then (some ((), T))
  else (lb (uI T 609 5 ((gI T 609 5) - 8)) fun T1 =>
  bd (f_X6_putByte ((((gI T1 608 5)).toUInt32 >>> (((gI T1 609 5) : Int32).toUInt32 &&& Int32.toUInt32 31)).toInt32) T1) fun _ T2 =>
  k22 T2)
set_option maxRecDepth 100000 in
set_option maxHeartbeats 4000000 in
theorem s_X6_putBits_b22 {x : JX} {ad : Nat → Nat} {U : Mm} {S0 : Hp} {q : Unit × Mm}  {k22 : Mm → Option (Unit × Mm)} (hn9 : x_n x = 3) (C : CB x RX6 cX6_putBits) (M : CMr x 2 none S0 ad true U eV q) (hk22 : ∀ (T : Mm), k22  T = some q → Jr x ad true U T [(0, .ref (ad 5))] 22 []) (T : Mm) (h : f_X6_putBits_b22 k22  T = some q) : Jr x ad true U T [(0, .ref (ad 5))] 22 [] := by
  unfold f_X6_putBits_b22 at h
  refine r_aload_n C dX6_putBits_22 rfl 0 rfl ?_
  refine r_geti (f := 609) C flX6_69 dX6_putBits_23 kq_5 (by decide) (by decide) rfl ?_
  refine r_bipush (v := 8) C dX6_putBits_26 (by decide) ?_
  refine r_ic_lt (tgt := 58) C dX6_putBits_28 (by decide) h (fun h => ?_) (fun h => ?_)
  · exact r_vret C M dX6_putBits_58 h
  · refine r_aload_n C dX6_putBits_31 rfl 0 rfl ?_
    refine r_dup C dX6_putBits_32 rfl ?_
    refine r_geti (f := 609) C flX6_69 dX6_putBits_33 kq_5 (by decide) (by decide) rfl ?_
    refine r_bipush (v := 8) C dX6_putBits_36 (by decide) ?_
    refine r_isub C dX6_putBits_38 rfl ?_
    show Jr _ _ _ _ _ _ 39 _
    refine r_puti (f := 609) C flX6_69 (by decide) rfl rfl dX6_putBits_39 kq_5 rfl h (fun T1 h => ?_)
    refine r_aload_n C dX6_putBits_42 rfl 0 rfl ?_
    refine r_aload_n C dX6_putBits_43 rfl 0 rfl ?_
    refine r_geti (f := 608) C flX6_66 dX6_putBits_44 kq_5 (by decide) (by decide) rfl ?_
    refine r_aload_n C dX6_putBits_47 rfl 0 rfl ?_
    refine r_geti (f := 609) C flX6_69 dX6_putBits_48 kq_5 (by decide) (by decide) rfl ?_
    show Jr _ _ _ _ _ _ 51 _
    refine r_iushr C dX6_putBits_51 rfl ?_
    refine r_callVN C M h [.int ((((gI T1 608 5)).toUInt32 >>> (((gI T1 609 5) : Int32).toUInt32 &&& Int32.toUInt32 31)).toInt32)] [] mlX6_83 mcX6_putByte (fun q9 e9 => s_X6_putByte ((((gI T1 608 5)).toUInt32 >>> (((gI T1 609 5) : Int32).toUInt32 &&& Int32.toUInt32 31)).toInt32)  e9) kq_5 rfl (by decide) (by decide) rfl rfl (Nat.le_of_ble_eq_true rfl) dX6_putBits_52 (fun _ T2 h => ?_)
    refine r_goto (tgt := 22) C dX6_putBits_55 (by decide) ?_
    exact hk22 T2 h
noncomputable def f_X6_putBits_l22 (n : Nat) : Mm → Option (Unit × Mm) := Nat.rec (fun  _ => none) (fun _ ih => f_X6_putBits_b22 ih) n
theorem s_X6_putBits_l22 {x : JX} {ad : Nat → Nat} {U : Mm} {S0 : Hp} {q : Unit × Mm}  (hn9 : x_n x = 3) (C : CB x RX6 cX6_putBits) (M : CMr x 2 none S0 ad true U eV q) : ∀ (n : Nat), ∀ (T : Mm), f_X6_putBits_l22  n  T = some q → Jr x ad true U T [(0, .ref (ad 5))] 22 [] := by
  intro n
  induction n with
  | zero => intro  T  h; exact absurd h (by intro h; cases h)
  | succ n ih => exact fun  T  h => s_X6_putBits_b22 hn9 C M (ih)  T  h
noncomputable def f_X6_putBits (p1 : Int32) (p2 : Int32) (T : Mm) : Option (Unit × Mm) :=
  lb (uI T 608 5 (((gI T 608 5) <<< (p2 &&& 31)) ||| p1)) fun T1 =>
  lb (uI T1 609 5 ((gI T1 609 5) + p2)) fun T2 =>
  f_X6_putBits_l22 FU T2
set_option maxRecDepth 100000 in
set_option maxHeartbeats 4000000 in
theorem s_X6_putBits {ad : Nat → Nat} {U T : Mm} {q : Unit × Mm}  (p1 : Int32) (p2 : Int32) (h : f_X6_putBits p1 p2 T = some q) : Cr 2 yX6_putBits cX6_putBits 3 none [.ref (ad 5), .int p1, .int p2] ad true U T eV q := by
  refine cr_of (by decide) (Nat.le_of_ble_eq_true rfl) fun x S0 hn9 C M => ?_
  have C : CB x RX6 cX6_putBits := C
  refine Jr.eq (lv' := [(0, .ref (ad 5)), (1, .int p1), (2, .int p2)]) (st' := []) rfl rfl ?_
  unfold f_X6_putBits at h
  refine r_aload_n C dX6_putBits_0 rfl 0 rfl ?_
  refine r_aload_n C dX6_putBits_1 rfl 0 rfl ?_
  refine r_geti (f := 608) C flX6_66 dX6_putBits_2 kq_5 (by decide) (by decide) rfl ?_
  refine r_iload_n C dX6_putBits_5 rfl 2 rfl ?_
  refine r_ishl C dX6_putBits_6 rfl ?_
  show Jr _ _ _ _ _ _ 7 _
  refine r_iload_n C dX6_putBits_7 rfl 1 rfl ?_
  refine r_ior C dX6_putBits_8 rfl ?_
  refine r_puti (f := 608) C flX6_66 (by decide) rfl rfl dX6_putBits_9 kq_5 rfl h (fun T1 h => ?_)
  refine r_aload_n C dX6_putBits_12 rfl 0 rfl ?_
  refine r_dup C dX6_putBits_13 rfl ?_
  refine r_geti (f := 609) C flX6_69 dX6_putBits_14 kq_5 (by decide) (by decide) rfl ?_
  show Jr _ _ _ _ _ _ 17 _
  refine r_iload_n C dX6_putBits_17 rfl 2 rfl ?_
  refine r_iadd C dX6_putBits_18 rfl ?_
  refine r_puti (f := 609) C flX6_69 (by decide) rfl rfl dX6_putBits_19 kq_5 rfl h (fun T2 h => ?_)
  refine Jr.sub [0] (lv' := [(0, .ref (ad 5))]) rfl ?_
  exact s_X6_putBits_l22 hn9 C M  FU T2 h
theorem dX6_putRun_0 : decode cX6_putRun 0 = .ok (.iload_n 2, 1) := by decide +kernel
theorem dX6_putRun_1 : decode cX6_putRun 1 = .ok (.ifCond .ne 7, 3) := by decide +kernel
theorem dX6_putRun_4 : decode cX6_putRun 4 = .ok (.iconst 0, 1) := by decide +kernel
theorem dX6_putRun_5 : decode cX6_putRun 5 = .ok (.goto 5, 3) := by decide +kernel
theorem dX6_putRun_8 : decode cX6_putRun 8 = .ok (.bipush 74, 2) := by decide +kernel
theorem dX6_putRun_10 : decode cX6_putRun 10 = .ok (.istore_n 3, 1) := by decide +kernel
theorem dX6_putRun_11 : decode cX6_putRun 11 = .ok (.iload_n 1, 1) := by decide +kernel
theorem dX6_putRun_12 : decode cX6_putRun 12 = .ok (.bipush 64, 2) := by decide +kernel
theorem dX6_putRun_14 : decode cX6_putRun 14 = .ok (.if_icmp .lt 50, 3) := by decide +kernel
theorem dX6_putRun_17 : decode cX6_putRun 17 = .ok (.iload_n 3, 1) := by decide +kernel
theorem dX6_putRun_18 : decode cX6_putRun 18 = .ok (.bipush 64, 2) := by decide +kernel
theorem dX6_putRun_20 : decode cX6_putRun 20 = .ok (.iadd, 1) := by decide +kernel
theorem dX6_putRun_21 : decode cX6_putRun 21 = .ok (.iconst 1, 1) := by decide +kernel
theorem dX6_putRun_22 : decode cX6_putRun 22 = .ok (.isub, 1) := by decide +kernel
theorem dX6_putRun_23 : decode cX6_putRun 23 = .ok (.iload_n 1, 1) := by decide +kernel
theorem dX6_putRun_24 : decode cX6_putRun 24 = .ok (.bipush 64, 2) := by decide +kernel
theorem dX6_putRun_26 : decode cX6_putRun 26 = .ok (.idiv, 1) := by decide +kernel
theorem dX6_putRun_27 : decode cX6_putRun 27 = .ok (.iadd, 1) := by decide +kernel
theorem dX6_putRun_28 : decode cX6_putRun 28 = .ok (.istore 4, 2) := by decide +kernel
theorem dX6_putRun_30 : decode cX6_putRun 30 = .ok (.iload 4, 2) := by decide +kernel
theorem dX6_putRun_32 : decode cX6_putRun 32 = .ok (.getstatic 98, 3) := by decide +kernel
theorem dX6_putRun_35 : decode cX6_putRun 35 = .ok (.arraylength, 1) := by decide +kernel
theorem dX6_putRun_36 : decode cX6_putRun 36 = .ok (.if_icmp .ge 28, 3) := by decide +kernel
theorem dX6_putRun_39 : decode cX6_putRun 39 = .ok (.iload 4, 2) := by decide +kernel
theorem dX6_putRun_41 : decode cX6_putRun 41 = .ok (.getstatic 101, 3) := by decide +kernel
theorem dX6_putRun_44 : decode cX6_putRun 44 = .ok (.arraylength, 1) := by decide +kernel
theorem dX6_putRun_45 : decode cX6_putRun 45 = .ok (.if_icmp .ge 19, 3) := by decide +kernel
theorem dX6_putRun_48 : decode cX6_putRun 48 = .ok (.aload_n 0, 1) := by decide +kernel
theorem dX6_putRun_49 : decode cX6_putRun 49 = .ok (.getstatic 98, 3) := by decide +kernel
theorem dX6_putRun_52 : decode cX6_putRun 52 = .ok (.iload 4, 2) := by decide +kernel
theorem dX6_putRun_54 : decode cX6_putRun 54 = .ok (.iaload, 1) := by decide +kernel
theorem dX6_putRun_55 : decode cX6_putRun 55 = .ok (.getstatic 101, 3) := by decide +kernel
theorem dX6_putRun_58 : decode cX6_putRun 58 = .ok (.iload 4, 2) := by decide +kernel
theorem dX6_putRun_60 : decode cX6_putRun 60 = .ok (.iaload, 1) := by decide +kernel
theorem dX6_putRun_61 : decode cX6_putRun 61 = .ok (.invokevirtual 80, 3) := by decide +kernel
theorem dX6_putRun_64 : decode cX6_putRun 64 = .ok (.iload_n 3, 1) := by decide +kernel
theorem dX6_putRun_65 : decode cX6_putRun 65 = .ok (.iload_n 1, 1) := by decide +kernel
theorem dX6_putRun_66 : decode cX6_putRun 66 = .ok (.bipush 64, 2) := by decide +kernel
theorem dX6_putRun_68 : decode cX6_putRun 68 = .ok (.irem, 1) := by decide +kernel
theorem dX6_putRun_69 : decode cX6_putRun 69 = .ok (.iadd, 1) := by decide +kernel
theorem dX6_putRun_70 : decode cX6_putRun 70 = .ok (.istore 4, 2) := by decide +kernel
theorem dX6_putRun_72 : decode cX6_putRun 72 = .ok (.iload 4, 2) := by decide +kernel
theorem dX6_putRun_74 : decode cX6_putRun 74 = .ok (.ifCond .lt 37, 3) := by decide +kernel
theorem dX6_putRun_77 : decode cX6_putRun 77 = .ok (.iload 4, 2) := by decide +kernel
theorem dX6_putRun_79 : decode cX6_putRun 79 = .ok (.getstatic 98, 3) := by decide +kernel
theorem dX6_putRun_82 : decode cX6_putRun 82 = .ok (.arraylength, 1) := by decide +kernel
theorem dX6_putRun_83 : decode cX6_putRun 83 = .ok (.if_icmp .ge 28, 3) := by decide +kernel
theorem dX6_putRun_86 : decode cX6_putRun 86 = .ok (.iload 4, 2) := by decide +kernel
theorem dX6_putRun_88 : decode cX6_putRun 88 = .ok (.getstatic 101, 3) := by decide +kernel
theorem dX6_putRun_91 : decode cX6_putRun 91 = .ok (.arraylength, 1) := by decide +kernel
theorem dX6_putRun_92 : decode cX6_putRun 92 = .ok (.if_icmp .ge 19, 3) := by decide +kernel
theorem dX6_putRun_95 : decode cX6_putRun 95 = .ok (.aload_n 0, 1) := by decide +kernel
theorem dX6_putRun_96 : decode cX6_putRun 96 = .ok (.getstatic 98, 3) := by decide +kernel
theorem dX6_putRun_99 : decode cX6_putRun 99 = .ok (.iload 4, 2) := by decide +kernel
theorem dX6_putRun_101 : decode cX6_putRun 101 = .ok (.iaload, 1) := by decide +kernel
theorem dX6_putRun_102 : decode cX6_putRun 102 = .ok (.getstatic 101, 3) := by decide +kernel
theorem dX6_putRun_105 : decode cX6_putRun 105 = .ok (.iload 4, 2) := by decide +kernel
theorem dX6_putRun_107 : decode cX6_putRun 107 = .ok (.iaload, 1) := by decide +kernel
theorem dX6_putRun_108 : decode cX6_putRun 108 = .ok (.invokevirtual 80, 3) := by decide +kernel
theorem dX6_putRun_111 : decode cX6_putRun 111 = .ok (.return_, 1) := by decide +kernel
noncomputable def f_X6_putRun_64 (a1 : Int32) (a3 : Int32) (T : Mm) : Option (Unit × Mm) :=
  lb ((a3 + (a1 - a1 / 64 * 64))) fun v1 =>
  if v1 < 0 then (some ((), T))
  else (if 148 ≤ v1 then (some ((), T))
  else (if 148 ≤ v1 then (some ((), T))
  else (ix v1 148 fun j2 =>
  ix v1 148 fun j4 =>
  bd (f_X6_putBits (st_RUN_CODES.getD j2 0) (st_RUN_BITS.getD j4 0) T) fun _ T6 =>
  some ((), T6))))
set_option maxRecDepth 100000 in
set_option maxHeartbeats 4000000 in
theorem s_X6_putRun_64 {x : JX} {ad : Nat → Nat} {U : Mm} {S0 : Hp} {q : Unit × Mm}  (hn9 : x_n x = 5) (C : CB x RX6 cX6_putRun) (M : CMr x 3 none S0 ad true U eV q) (a1 : Int32) (a3 : Int32) (T : Mm) (h : f_X6_putRun_64  a1 a3 T = some q) : Jr x ad true U T [(0, .ref (ad 5)), (1, .int a1), (3, .int a3)] 64 [] := by
  unfold f_X6_putRun_64 at h
  refine r_iload_n C dX6_putRun_64 rfl 2 rfl ?_
  refine r_iload_n C dX6_putRun_65 rfl 1 rfl ?_
  refine r_bipush (v := 64) C dX6_putRun_66 (by decide) ?_
  refine r_irem C dX6_putRun_68 (by decide) rfl ?_
  refine r_iadd C dX6_putRun_69 rfl ?_
  show Jr _ _ _ _ _ _ 70 _
  refine r_lbI h (fun v1 h => ?_)
  refine r_istore (lv' := [(4, .int v1), (0, .ref (ad 5)), (1, .int a1), (3, .int a3)]) C dX6_putRun_70 (by rw [hn9]; decide) rfl ?_
  refine r_iload C dX6_putRun_72 0 rfl ?_
  refine r_if_lt (tgt := 111) C dX6_putRun_74 (by decide) h (fun h => ?_) (fun h => ?_)
  · exact r_vret C M dX6_putRun_111 h
  · refine r_iload C dX6_putRun_77 0 rfl ?_
    refine r_gets C 3 rfl (Or.inr ⟨_, gsX6_98⟩) dX6_putRun_79 ?_
    refine r_stlen (v := 148) C 3 rfl dX6_putRun_82 (by decide) ?_
    refine r_ic_ge (tgt := 111) C dX6_putRun_83 (by decide) h (fun h => ?_) (fun h => ?_)
    · exact r_vret C M dX6_putRun_111 h
    · refine r_iload C dX6_putRun_86 0 rfl ?_
      refine r_gets C 2 rfl (Or.inr ⟨_, gsX6_101⟩) dX6_putRun_88 ?_
      refine r_stlen (v := 148) C 2 rfl dX6_putRun_91 (by decide) ?_
      refine r_ic_ge (tgt := 111) C dX6_putRun_92 (by decide) h (fun h => ?_) (fun h => ?_)
      · exact r_vret C M dX6_putRun_111 h
      · refine r_aload_n C dX6_putRun_95 rfl 1 rfl ?_
        refine r_gets C 3 rfl (Or.inr ⟨_, gsX6_98⟩) dX6_putRun_96 ?_
        refine r_iload C dX6_putRun_99 0 rfl ?_
        refine r_stld C 3 rfl (n := 148) rfl dX6_putRun_101 h (fun j2 hj3 h => ?_)
        refine r_gets C 2 rfl (Or.inr ⟨_, gsX6_101⟩) dX6_putRun_102 ?_
        show Jr _ _ _ _ _ _ 105 _
        refine r_iload C dX6_putRun_105 0 rfl ?_
        refine r_stld C 2 rfl (n := 148) rfl dX6_putRun_107 h (fun j4 hj5 h => ?_)
        refine r_callVN C M h [.int (st_RUN_CODES.getD j2 0), .int (st_RUN_BITS.getD j4 0)] [] mlX6_80 mcX6_putBits (fun q9 e9 => s_X6_putBits (st_RUN_CODES.getD j2 0) (st_RUN_BITS.getD j4 0)  e9) kq_5 rfl (by decide) (by decide) rfl rfl (Nat.le_of_ble_eq_true rfl) dX6_putRun_108 (fun _ T6 h => ?_)
        exact r_vret C M dX6_putRun_111 h
noncomputable def f_X6_putRun_10 (a1 : Int32) (b0 : Int32) (T : Mm) : Option (Unit × Mm) :=
  if a1 < 64 then (f_X6_putRun_64 a1 b0 T)
  else (lb ((((b0 + 64) - 1) + (a1 / 64))) fun v1 =>
  if 148 ≤ v1 then (f_X6_putRun_64 a1 b0 T)
  else (if 148 ≤ v1 then (f_X6_putRun_64 a1 b0 T)
  else (ix v1 148 fun j2 =>
  ix v1 148 fun j4 =>
  bd (f_X6_putBits (st_RUN_CODES.getD j2 0) (st_RUN_BITS.getD j4 0) T) fun _ T6 =>
  f_X6_putRun_64 a1 b0 T6)))
set_option maxRecDepth 100000 in
set_option maxHeartbeats 4000000 in
theorem s_X6_putRun_10 {x : JX} {ad : Nat → Nat} {U : Mm} {S0 : Hp} {q : Unit × Mm}  (hn9 : x_n x = 5) (C : CB x RX6 cX6_putRun) (M : CMr x 3 none S0 ad true U eV q) (a1 : Int32) (b0 : Int32) (T : Mm) (h : f_X6_putRun_10  a1 b0 T = some q) : Jr x ad true U T [(0, .ref (ad 5)), (1, .int a1)] 10 [.int b0] := by
  unfold f_X6_putRun_10 at h
  refine r_istore_n (lv' := [(3, .int b0), (0, .ref (ad 5)), (1, .int a1)]) C dX6_putRun_10 rfl (by rw [hn9]; decide) rfl ?_
  refine r_iload_n C dX6_putRun_11 rfl 2 rfl ?_
  refine r_bipush (v := 64) C dX6_putRun_12 (by decide) ?_
  refine r_ic_lt (tgt := 64) C dX6_putRun_14 (by decide) h (fun h => ?_) (fun h => ?_)
  · refine Jr.sub [1, 2, 0] (lv' := [(0, .ref (ad 5)), (1, .int a1), (3, .int b0)]) rfl ?_
    exact s_X6_putRun_64 hn9 C M  a1 b0 T h
  · refine r_iload_n C dX6_putRun_17 rfl 0 rfl ?_
    refine r_bipush (v := 64) C dX6_putRun_18 (by decide) ?_
    refine r_iadd C dX6_putRun_20 rfl ?_
    refine r_iconst (v := 1) C dX6_putRun_21 (by decide) ?_
    refine r_isub C dX6_putRun_22 rfl ?_
    show Jr _ _ _ _ _ _ 23 _
    refine r_iload_n C dX6_putRun_23 rfl 2 rfl ?_
    refine r_bipush (v := 64) C dX6_putRun_24 (by decide) ?_
    refine r_idiv C dX6_putRun_26 (by decide) rfl ?_
    refine r_iadd C dX6_putRun_27 rfl ?_
    refine r_lbI h (fun v1 h => ?_)
    refine r_istore (lv' := [(4, .int v1), (3, .int b0), (0, .ref (ad 5)), (1, .int a1)]) C dX6_putRun_28 (by rw [hn9]; decide) rfl ?_
    refine r_iload C dX6_putRun_30 0 rfl ?_
    show Jr _ _ _ _ _ _ 32 _
    refine r_gets C 3 rfl (Or.inr ⟨_, gsX6_98⟩) dX6_putRun_32 ?_
    refine r_stlen (v := 148) C 3 rfl dX6_putRun_35 (by decide) ?_
    refine r_ic_ge (tgt := 64) C dX6_putRun_36 (by decide) h (fun h => ?_) (fun h => ?_)
    · refine Jr.sub [2, 3, 1] (lv' := [(0, .ref (ad 5)), (1, .int a1), (3, .int b0)]) rfl ?_
      exact s_X6_putRun_64 hn9 C M  a1 b0 T h
    · refine r_iload C dX6_putRun_39 0 rfl ?_
      refine r_gets C 2 rfl (Or.inr ⟨_, gsX6_101⟩) dX6_putRun_41 ?_
      refine r_stlen (v := 148) C 2 rfl dX6_putRun_44 (by decide) ?_
      refine r_ic_ge (tgt := 64) C dX6_putRun_45 (by decide) h (fun h => ?_) (fun h => ?_)
      · refine Jr.sub [2, 3, 1] (lv' := [(0, .ref (ad 5)), (1, .int a1), (3, .int b0)]) rfl ?_
        exact s_X6_putRun_64 hn9 C M  a1 b0 T h
      · refine r_aload_n C dX6_putRun_48 rfl 2 rfl ?_
        refine r_gets C 3 rfl (Or.inr ⟨_, gsX6_98⟩) dX6_putRun_49 ?_
        refine r_iload C dX6_putRun_52 0 rfl ?_
        refine r_stld C 3 rfl (n := 148) rfl dX6_putRun_54 h (fun j2 hj3 h => ?_)
        refine r_gets C 2 rfl (Or.inr ⟨_, gsX6_101⟩) dX6_putRun_55 ?_
        show Jr _ _ _ _ _ _ 58 _
        refine r_iload C dX6_putRun_58 0 rfl ?_
        refine r_stld C 2 rfl (n := 148) rfl dX6_putRun_60 h (fun j4 hj5 h => ?_)
        refine r_callVN C M h [.int (st_RUN_CODES.getD j2 0), .int (st_RUN_BITS.getD j4 0)] [] mlX6_80 mcX6_putBits (fun q9 e9 => s_X6_putBits (st_RUN_CODES.getD j2 0) (st_RUN_BITS.getD j4 0)  e9) kq_5 rfl (by decide) (by decide) rfl rfl (Nat.le_of_ble_eq_true rfl) dX6_putRun_61 (fun _ T6 h => ?_)
        refine Jr.sub [2, 3, 1] (lv' := [(0, .ref (ad 5)), (1, .int a1), (3, .int b0)]) rfl ?_
        exact s_X6_putRun_64 hn9 C M  a1 b0 T6 h
noncomputable def f_X6_putRun (p1 : Int32) (p2 : Int32) (T : Mm) : Option (Unit × Mm) :=
  if p2 = 0 then (f_X6_putRun_10 p1 0 T)
  else (f_X6_putRun_10 p1 74 T)
set_option maxRecDepth 100000 in
set_option maxHeartbeats 4000000 in
theorem s_X6_putRun {ad : Nat → Nat} {U T : Mm} {q : Unit × Mm}  (p1 : Int32) (p2 : Int32) (h : f_X6_putRun p1 p2 T = some q) : Cr 3 yX6_putRun cX6_putRun 5 none [.ref (ad 5), .int p1, .int p2] ad true U T eV q := by
  refine cr_of (by decide) (Nat.le_of_ble_eq_true rfl) fun x S0 hn9 C M => ?_
  have C : CB x RX6 cX6_putRun := C
  refine Jr.eq (lv' := [(0, .ref (ad 5)), (1, .int p1), (2, .int p2)]) (st' := []) rfl rfl ?_
  unfold f_X6_putRun at h
  refine r_iload_n C dX6_putRun_0 rfl 2 rfl ?_
  refine r_if_ne (tgt := 8) C dX6_putRun_1 (by decide) h (fun h => ?_) (fun h => ?_)
  · refine r_bipush (v := 74) C dX6_putRun_8 (by decide) ?_
    refine Jr.sub [0, 1] (lv' := [(0, .ref (ad 5)), (1, .int p1)]) rfl ?_
    exact s_X6_putRun_10 hn9 C M  p1 74 T h
  · refine r_iconst (v := 0) C dX6_putRun_4 (by decide) ?_
    refine r_goto (tgt := 10) C dX6_putRun_5 (by decide) ?_
    refine Jr.sub [0, 1] (lv' := [(0, .ref (ad 5)), (1, .int p1)]) rfl ?_
    exact s_X6_putRun_10 hn9 C M  p1 0 T h
theorem dX6_writeRow_0 : decode cX6_writeRow 0 = .ok (.iload_n 2, 1) := by decide +kernel
theorem dX6_writeRow_1 : decode cX6_writeRow 1 = .ok (.bipush 20, 2) := by decide +kernel
theorem dX6_writeRow_3 : decode cX6_writeRow 3 = .ok (.imul, 1) := by decide +kernel
theorem dX6_writeRow_4 : decode cX6_writeRow 4 = .ok (.istore 4, 2) := by decide +kernel
theorem dX6_writeRow_6 : decode cX6_writeRow 6 = .ok (.iload_n 2, 1) := by decide +kernel
theorem dX6_writeRow_7 : decode cX6_writeRow 7 = .ok (.ifCond .ne 7, 3) := by decide +kernel
theorem dX6_writeRow_10 : decode cX6_writeRow 10 = .ok (.iconst (-1), 1) := by decide +kernel
theorem dX6_writeRow_11 : decode cX6_writeRow 11 = .ok (.goto 8, 3) := by decide +kernel
theorem dX6_writeRow_14 : decode cX6_writeRow 14 = .ok (.iload 4, 2) := by decide +kernel
theorem dX6_writeRow_16 : decode cX6_writeRow 16 = .ok (.bipush 20, 2) := by decide +kernel
theorem dX6_writeRow_18 : decode cX6_writeRow 18 = .ok (.isub, 1) := by decide +kernel
theorem dX6_writeRow_19 : decode cX6_writeRow 19 = .ok (.istore 5, 2) := by decide +kernel
theorem dX6_writeRow_21 : decode cX6_writeRow 21 = .ok (.iconst (-1), 1) := by decide +kernel
theorem dX6_writeRow_22 : decode cX6_writeRow 22 = .ok (.istore 6, 2) := by decide +kernel
theorem dX6_writeRow_24 : decode cX6_writeRow 24 = .ok (.iconst 0, 1) := by decide +kernel
theorem dX6_writeRow_25 : decode cX6_writeRow 25 = .ok (.istore 7, 2) := by decide +kernel
theorem dX6_writeRow_27 : decode cX6_writeRow 27 = .ok (.iconst 0, 1) := by decide +kernel
theorem dX6_writeRow_28 : decode cX6_writeRow 28 = .ok (.istore 8, 2) := by decide +kernel
theorem dX6_writeRow_30 : decode cX6_writeRow 30 = .ok (.iload 8, 2) := by decide +kernel
theorem dX6_writeRow_32 : decode cX6_writeRow 32 = .ok (.iload_n 3, 1) := by decide +kernel
theorem dX6_writeRow_33 : decode cX6_writeRow 33 = .ok (.if_icmp .gt 194, 3) := by decide +kernel
theorem dX6_writeRow_36 : decode cX6_writeRow 36 = .ok (.iload 6, 2) := by decide +kernel
theorem dX6_writeRow_38 : decode cX6_writeRow 38 = .ok (.iload_n 3, 1) := by decide +kernel
theorem dX6_writeRow_39 : decode cX6_writeRow 39 = .ok (.if_icmp .ge 188, 3) := by decide +kernel
theorem dX6_writeRow_42 : decode cX6_writeRow 42 = .ok (.iload 6, 2) := by decide +kernel
theorem dX6_writeRow_44 : decode cX6_writeRow 44 = .ok (.iconst 0, 1) := by decide +kernel
theorem dX6_writeRow_45 : decode cX6_writeRow 45 = .ok (.invokestatic 55, 3) := by decide +kernel
theorem dX6_writeRow_48 : decode cX6_writeRow 48 = .ok (.istore 9, 2) := by decide +kernel
theorem dX6_writeRow_50 : decode cX6_writeRow 50 = .ok (.aload_n 1, 1) := by decide +kernel
theorem dX6_writeRow_51 : decode cX6_writeRow 51 = .ok (.iload 4, 2) := by decide +kernel
theorem dX6_writeRow_53 : decode cX6_writeRow 53 = .ok (.iload 9, 2) := by decide +kernel
theorem dX6_writeRow_55 : decode cX6_writeRow 55 = .ok (.iload_n 3, 1) := by decide +kernel
theorem dX6_writeRow_56 : decode cX6_writeRow 56 = .ok (.iload 7, 2) := by decide +kernel
theorem dX6_writeRow_58 : decode cX6_writeRow 58 = .ok (.invokestatic 104, 3) := by decide +kernel
theorem dX6_writeRow_61 : decode cX6_writeRow 61 = .ok (.istore 10, 2) := by decide +kernel
theorem dX6_writeRow_63 : decode cX6_writeRow 63 = .ok (.aload_n 1, 1) := by decide +kernel
theorem dX6_writeRow_64 : decode cX6_writeRow 64 = .ok (.iload 5, 2) := by decide +kernel
theorem dX6_writeRow_66 : decode cX6_writeRow 66 = .ok (.iload 6, 2) := by decide +kernel
theorem dX6_writeRow_68 : decode cX6_writeRow 68 = .ok (.iload_n 3, 1) := by decide +kernel
theorem dX6_writeRow_69 : decode cX6_writeRow 69 = .ok (.iload 7, 2) := by decide +kernel
theorem dX6_writeRow_71 : decode cX6_writeRow 71 = .ok (.invokestatic 108, 3) := by decide +kernel
theorem dX6_writeRow_74 : decode cX6_writeRow 74 = .ok (.istore 11, 2) := by decide +kernel
theorem dX6_writeRow_76 : decode cX6_writeRow 76 = .ok (.aload_n 1, 1) := by decide +kernel
theorem dX6_writeRow_77 : decode cX6_writeRow 77 = .ok (.iload 5, 2) := by decide +kernel
theorem dX6_writeRow_79 : decode cX6_writeRow 79 = .ok (.iload 11, 2) := by decide +kernel
theorem dX6_writeRow_81 : decode cX6_writeRow 81 = .ok (.iload_n 3, 1) := by decide +kernel
theorem dX6_writeRow_82 : decode cX6_writeRow 82 = .ok (.iconst 1, 1) := by decide +kernel
theorem dX6_writeRow_83 : decode cX6_writeRow 83 = .ok (.iload 7, 2) := by decide +kernel
theorem dX6_writeRow_85 : decode cX6_writeRow 85 = .ok (.isub, 1) := by decide +kernel
theorem dX6_writeRow_86 : decode cX6_writeRow 86 = .ok (.invokestatic 104, 3) := by decide +kernel
theorem dX6_writeRow_89 : decode cX6_writeRow 89 = .ok (.istore 12, 2) := by decide +kernel
theorem dX6_writeRow_91 : decode cX6_writeRow 91 = .ok (.iload 10, 2) := by decide +kernel
theorem dX6_writeRow_93 : decode cX6_writeRow 93 = .ok (.iload 11, 2) := by decide +kernel
theorem dX6_writeRow_95 : decode cX6_writeRow 95 = .ok (.isub, 1) := by decide +kernel
theorem dX6_writeRow_96 : decode cX6_writeRow 96 = .ok (.iconst 3, 1) := by decide +kernel
theorem dX6_writeRow_97 : decode cX6_writeRow 97 = .ok (.iadd, 1) := by decide +kernel
theorem dX6_writeRow_98 : decode cX6_writeRow 98 = .ok (.istore 13, 2) := by decide +kernel
theorem dX6_writeRow_100 : decode cX6_writeRow 100 = .ok (.iload 12, 2) := by decide +kernel
theorem dX6_writeRow_102 : decode cX6_writeRow 102 = .ok (.iload 10, 2) := by decide +kernel
theorem dX6_writeRow_104 : decode cX6_writeRow 104 = .ok (.if_icmp .ge 16, 3) := by decide +kernel
theorem dX6_writeRow_107 : decode cX6_writeRow 107 = .ok (.aload_n 0, 1) := by decide +kernel
theorem dX6_writeRow_108 : decode cX6_writeRow 108 = .ok (.iconst 1, 1) := by decide +kernel
theorem dX6_writeRow_109 : decode cX6_writeRow 109 = .ok (.iconst 4, 1) := by decide +kernel
theorem dX6_writeRow_110 : decode cX6_writeRow 110 = .ok (.invokevirtual 80, 3) := by decide +kernel
theorem dX6_writeRow_113 : decode cX6_writeRow 113 = .ok (.iload 12, 2) := by decide +kernel
theorem dX6_writeRow_115 : decode cX6_writeRow 115 = .ok (.istore 6, 2) := by decide +kernel
theorem dX6_writeRow_117 : decode cX6_writeRow 117 = .ok (.goto 104, 3) := by decide +kernel
theorem dX6_writeRow_120 : decode cX6_writeRow 120 = .ok (.iload 13, 2) := by decide +kernel
theorem dX6_writeRow_122 : decode cX6_writeRow 122 = .ok (.ifCond .lt 50, 3) := by decide +kernel
theorem dX6_writeRow_125 : decode cX6_writeRow 125 = .ok (.iload 13, 2) := by decide +kernel
theorem dX6_writeRow_127 : decode cX6_writeRow 127 = .ok (.getstatic 111, 3) := by decide +kernel
theorem dX6_writeRow_130 : decode cX6_writeRow 130 = .ok (.arraylength, 1) := by decide +kernel
theorem dX6_writeRow_131 : decode cX6_writeRow 131 = .ok (.if_icmp .ge 41, 3) := by decide +kernel
theorem dX6_writeRow_134 : decode cX6_writeRow 134 = .ok (.iload 13, 2) := by decide +kernel
theorem dX6_writeRow_136 : decode cX6_writeRow 136 = .ok (.getstatic 114, 3) := by decide +kernel
theorem dX6_writeRow_139 : decode cX6_writeRow 139 = .ok (.arraylength, 1) := by decide +kernel
theorem dX6_writeRow_140 : decode cX6_writeRow 140 = .ok (.if_icmp .ge 32, 3) := by decide +kernel
theorem dX6_writeRow_143 : decode cX6_writeRow 143 = .ok (.aload_n 0, 1) := by decide +kernel
theorem dX6_writeRow_144 : decode cX6_writeRow 144 = .ok (.getstatic 111, 3) := by decide +kernel
theorem dX6_writeRow_147 : decode cX6_writeRow 147 = .ok (.iload 13, 2) := by decide +kernel
theorem dX6_writeRow_149 : decode cX6_writeRow 149 = .ok (.iaload, 1) := by decide +kernel
theorem dX6_writeRow_150 : decode cX6_writeRow 150 = .ok (.getstatic 114, 3) := by decide +kernel
theorem dX6_writeRow_153 : decode cX6_writeRow 153 = .ok (.iload 13, 2) := by decide +kernel
theorem dX6_writeRow_155 : decode cX6_writeRow 155 = .ok (.iaload, 1) := by decide +kernel
theorem dX6_writeRow_156 : decode cX6_writeRow 156 = .ok (.invokevirtual 80, 3) := by decide +kernel
theorem dX6_writeRow_159 : decode cX6_writeRow 159 = .ok (.iload 10, 2) := by decide +kernel
theorem dX6_writeRow_161 : decode cX6_writeRow 161 = .ok (.istore 6, 2) := by decide +kernel
theorem dX6_writeRow_163 : decode cX6_writeRow 163 = .ok (.iconst 1, 1) := by decide +kernel
theorem dX6_writeRow_164 : decode cX6_writeRow 164 = .ok (.iload 7, 2) := by decide +kernel
theorem dX6_writeRow_166 : decode cX6_writeRow 166 = .ok (.isub, 1) := by decide +kernel
theorem dX6_writeRow_167 : decode cX6_writeRow 167 = .ok (.istore 7, 2) := by decide +kernel
theorem dX6_writeRow_169 : decode cX6_writeRow 169 = .ok (.goto 52, 3) := by decide +kernel
theorem dX6_writeRow_172 : decode cX6_writeRow 172 = .ok (.aload_n 1, 1) := by decide +kernel
theorem dX6_writeRow_173 : decode cX6_writeRow 173 = .ok (.iload 4, 2) := by decide +kernel
theorem dX6_writeRow_175 : decode cX6_writeRow 175 = .ok (.iload 10, 2) := by decide +kernel
theorem dX6_writeRow_177 : decode cX6_writeRow 177 = .ok (.iload_n 3, 1) := by decide +kernel
theorem dX6_writeRow_178 : decode cX6_writeRow 178 = .ok (.iconst 1, 1) := by decide +kernel
theorem dX6_writeRow_179 : decode cX6_writeRow 179 = .ok (.iload 7, 2) := by decide +kernel
theorem dX6_writeRow_181 : decode cX6_writeRow 181 = .ok (.isub, 1) := by decide +kernel
theorem dX6_writeRow_182 : decode cX6_writeRow 182 = .ok (.invokestatic 104, 3) := by decide +kernel
theorem dX6_writeRow_185 : decode cX6_writeRow 185 = .ok (.istore 14, 2) := by decide +kernel
theorem dX6_writeRow_187 : decode cX6_writeRow 187 = .ok (.aload_n 0, 1) := by decide +kernel
theorem dX6_writeRow_188 : decode cX6_writeRow 188 = .ok (.iconst 1, 1) := by decide +kernel
theorem dX6_writeRow_189 : decode cX6_writeRow 189 = .ok (.iconst 3, 1) := by decide +kernel
theorem dX6_writeRow_190 : decode cX6_writeRow 190 = .ok (.invokevirtual 80, 3) := by decide +kernel
theorem dX6_writeRow_193 : decode cX6_writeRow 193 = .ok (.aload_n 0, 1) := by decide +kernel
theorem dX6_writeRow_194 : decode cX6_writeRow 194 = .ok (.iload 10, 2) := by decide +kernel
theorem dX6_writeRow_196 : decode cX6_writeRow 196 = .ok (.iload 9, 2) := by decide +kernel
theorem dX6_writeRow_198 : decode cX6_writeRow 198 = .ok (.isub, 1) := by decide +kernel
theorem dX6_writeRow_199 : decode cX6_writeRow 199 = .ok (.iload 7, 2) := by decide +kernel
theorem dX6_writeRow_201 : decode cX6_writeRow 201 = .ok (.invokevirtual 117, 3) := by decide +kernel
theorem dX6_writeRow_204 : decode cX6_writeRow 204 = .ok (.aload_n 0, 1) := by decide +kernel
theorem dX6_writeRow_205 : decode cX6_writeRow 205 = .ok (.iload 14, 2) := by decide +kernel
theorem dX6_writeRow_207 : decode cX6_writeRow 207 = .ok (.iload 10, 2) := by decide +kernel
theorem dX6_writeRow_209 : decode cX6_writeRow 209 = .ok (.isub, 1) := by decide +kernel
theorem dX6_writeRow_210 : decode cX6_writeRow 210 = .ok (.iconst 1, 1) := by decide +kernel
theorem dX6_writeRow_211 : decode cX6_writeRow 211 = .ok (.iload 7, 2) := by decide +kernel
theorem dX6_writeRow_213 : decode cX6_writeRow 213 = .ok (.isub, 1) := by decide +kernel
theorem dX6_writeRow_214 : decode cX6_writeRow 214 = .ok (.invokevirtual 117, 3) := by decide +kernel
theorem dX6_writeRow_217 : decode cX6_writeRow 217 = .ok (.iload 14, 2) := by decide +kernel
theorem dX6_writeRow_219 : decode cX6_writeRow 219 = .ok (.istore 6, 2) := by decide +kernel
theorem dX6_writeRow_221 : decode cX6_writeRow 221 = .ok (.iinc 8 1, 3) := by decide +kernel
theorem dX6_writeRow_224 : decode cX6_writeRow 224 = .ok (.goto (-194), 3) := by decide +kernel
theorem dX6_writeRow_227 : decode cX6_writeRow 227 = .ok (.return_, 1) := by decide +kernel
noncomputable def f_X6_writeRow_172 (k30 : Nat → Int32 → Int32 → Int32 → Int32 → Int32 → Int32 → Mm → Option (Unit × Mm)) (a1 : Nat) (a3 : Int32) (a4 : Int32) (a5 : Int32) (a7 : Int32) (a8 : Int32) (a9 : Int32) (a10 : Int32) (T : Mm) : Option (Unit × Mm) :=
  bd (f_X11_firstOther a1 a4 a10 a3 ((1 : Int32) - a7) T) fun v1 T2 =>
  bd (f_X6_putBits 1 3 T2) fun _ T3 =>
  bd (f_X6_putRun (a10 - a9) a7 T3) fun _ T4 =>
  bd (f_X6_putRun (v1 - a10) ((1 : Int32) - a7) T4) fun _ T5 =>
  k30 a1 a3 a4 a5 v1 a7 (a8 + 1) T5
set_option maxRecDepth 100000 in
set_option maxHeartbeats 4000000 in
theorem s_X6_writeRow_172 {x : JX} {ad : Nat → Nat} {U : Mm} {S0 : Hp} {q : Unit × Mm}  {k30 : Nat → Int32 → Int32 → Int32 → Int32 → Int32 → Int32 → Mm → Option (Unit × Mm)} (hn9 : x_n x = 15) (C : CB x RX6 cX6_writeRow) (M : CMr x 5 none S0 ad true U eV q) (hk30 : ∀ (a1 : Nat) (a3 : Int32) (a4 : Int32) (a5 : Int32) (a6 : Int32) (a7 : Int32) (a8 : Int32) (T : Mm) (_ : kS true a1 = 14), k30 a1 a3 a4 a5 a6 a7 a8 T = some q → Jr x ad true U T [(0, .ref (ad 5)), (1, .ref (ad a1)), (3, .int a3), (4, .int a4), (5, .int a5), (6, .int a6), (7, .int a7), (8, .int a8)] 30 []) (a1 : Nat) (a3 : Int32) (a4 : Int32) (a5 : Int32) (a7 : Int32) (a8 : Int32) (a9 : Int32) (a10 : Int32) (T : Mm) (ha1 : kS true a1 = 14) (h : f_X6_writeRow_172 k30 a1 a3 a4 a5 a7 a8 a9 a10 T = some q) : Jr x ad true U T [(0, .ref (ad 5)), (1, .ref (ad a1)), (3, .int a3), (4, .int a4), (5, .int a5), (7, .int a7), (8, .int a8), (9, .int a9), (10, .int a10)] 172 [] := by
  unfold f_X6_writeRow_172 at h
  refine r_aload_n C dX6_writeRow_172 rfl 1 rfl ?_
  refine r_iload C dX6_writeRow_173 3 rfl ?_
  refine r_iload C dX6_writeRow_175 8 rfl ?_
  refine r_iload_n C dX6_writeRow_177 rfl 2 rfl ?_
  refine r_iconst (v := 1) C dX6_writeRow_178 (by decide) ?_
  show Jr _ _ _ _ _ _ 179 _
  refine r_iload C dX6_writeRow_179 5 rfl ?_
  refine r_isub C dX6_writeRow_181 rfl ?_
  refine r_callSI C M h [.ref (ad a1), .int a4, .int a10, .int a3, .int ((1 : Int32) - a7)] [] mlX6_104 mcX11_firstOther (fun q9 e9 => s_X11_firstOther a1 a4 a10 a3 ((1 : Int32) - a7) ha1 e9) (by decide) (by decide) rfl rfl (Nat.le_of_ble_eq_true rfl) dX6_writeRow_182 (fun v1 T2 h => ?_)
  refine r_istore (lv' := [(14, .int v1), (0, .ref (ad 5)), (1, .ref (ad a1)), (3, .int a3), (4, .int a4), (5, .int a5), (7, .int a7), (8, .int a8), (9, .int a9), (10, .int a10)]) C dX6_writeRow_185 (by rw [hn9]; decide) rfl ?_
  refine r_aload_n C dX6_writeRow_187 rfl 1 rfl ?_
  refine r_iconst (v := 1) C dX6_writeRow_188 (by decide) ?_
  show Jr _ _ _ _ _ _ 189 _
  refine r_iconst (v := 3) C dX6_writeRow_189 (by decide) ?_
  refine r_callVN C M h [.int 1, .int 3] [] mlX6_80 mcX6_putBits (fun q9 e9 => s_X6_putBits 1 3  e9) kq_5 rfl (by decide) (by decide) rfl rfl (Nat.le_of_ble_eq_true rfl) dX6_writeRow_190 (fun _ T3 h => ?_)
  refine r_aload_n C dX6_writeRow_193 rfl 1 rfl ?_
  refine r_iload C dX6_writeRow_194 9 rfl ?_
  refine r_iload C dX6_writeRow_196 8 rfl ?_
  refine r_isub C dX6_writeRow_198 rfl ?_
  show Jr _ _ _ _ _ _ 199 _
  refine r_iload C dX6_writeRow_199 6 rfl ?_
  refine r_callVN C M h [.int (a10 - a9), .int a7] [] mlX6_117 mcX6_putRun (fun q9 e9 => s_X6_putRun (a10 - a9) a7  e9) kq_5 rfl (by decide) (by decide) rfl rfl (Nat.le_of_ble_eq_true rfl) dX6_writeRow_201 (fun _ T4 h => ?_)
  refine r_aload_n C dX6_writeRow_204 rfl 1 rfl ?_
  refine r_iload C dX6_writeRow_205 0 rfl ?_
  refine r_iload C dX6_writeRow_207 9 rfl ?_
  refine r_isub C dX6_writeRow_209 rfl ?_
  show Jr _ _ _ _ _ _ 210 _
  refine r_iconst (v := 1) C dX6_writeRow_210 (by decide) ?_
  refine r_iload C dX6_writeRow_211 6 rfl ?_
  refine r_isub C dX6_writeRow_213 rfl ?_
  refine r_callVN C M h [.int (v1 - a10), .int ((1 : Int32) - a7)] [] mlX6_117 mcX6_putRun (fun q9 e9 => s_X6_putRun (v1 - a10) ((1 : Int32) - a7)  e9) kq_5 rfl (by decide) (by decide) rfl rfl (Nat.le_of_ble_eq_true rfl) dX6_writeRow_214 (fun _ T5 h => ?_)
  refine r_iload C dX6_writeRow_217 0 rfl ?_
  refine r_istore (lv' := [(6, .int v1), (14, .int v1), (0, .ref (ad 5)), (1, .ref (ad a1)), (3, .int a3), (4, .int a4), (5, .int a5), (7, .int a7), (8, .int a8), (9, .int a9), (10, .int a10)]) C dX6_writeRow_219 (by rw [hn9]; decide) rfl ?_
  show Jr _ _ _ _ _ _ 221 _
  refine r_iinc (q := 8) (v := (a8 + 1)) (lv' := [(8, .int (a8 + 1)), (6, .int v1), (14, .int v1), (0, .ref (ad 5)), (1, .ref (ad a1)), (3, .int a3), (4, .int a4), (5, .int a5), (7, .int a7), (9, .int a9), (10, .int a10)]) C dX6_writeRow_221 rfl (by rw [show Int32.ofInt (1) = 1 by decide]) (by rw [hn9]; decide) rfl ?_
  refine r_goto (tgt := 30) C dX6_writeRow_224 (by decide) ?_
  refine Jr.sub [3, 4, 5, 6, 7, 1, 8, 0] (lv' := [(0, .ref (ad 5)), (1, .ref (ad a1)), (3, .int a3), (4, .int a4), (5, .int a5), (6, .int v1), (7, .int a7), (8, .int (a8 + 1))]) rfl ?_
  exact hk30 a1 a3 a4 a5 v1 a7 (a8 + 1) T5 ha1 h
noncomputable def f_X6_writeRow_b30 (k30 : Nat → Int32 → Int32 → Int32 → Int32 → Int32 → Int32 → Mm → Option (Unit × Mm)) (a1 : Nat) (a3 : Int32) (a4 : Int32) (a5 : Int32) (a6 : Int32) (a7 : Int32) (a8 : Int32) (T : Mm) : Option (Unit × Mm) :=
  if a3 < a8 then (some ((), T))
  else (if a3 ≤ a6 then (some ((), T))
  else (bd (f_J9_max_7cf53 a6 0 T) fun v1 T2 =>
  bd (f_X11_firstOther a1 a4 v1 a3 a7 T2) fun v3 T4 =>
  bd (f_X11_firstChange a1 a5 a6 a3 a7 T4) fun v5 T6 =>
  bd (f_X11_firstOther a1 a5 v5 a3 ((1 : Int32) - a7) T6) fun v7 T8 =>
  lb (((v3 - v5) + 3)) fun v9 =>
  if v3 ≤ v7 then (if v9 < 0 then (f_X6_writeRow_172 k30 a1 a3 a4 a5 a7 a8 v1 v3 T8)
  else (if 7 ≤ v9 then (f_X6_writeRow_172 k30 a1 a3 a4 a5 a7 a8 v1 v3 T8)
  else (if 7 ≤ v9 then (f_X6_writeRow_172 k30 a1 a3 a4 a5 a7 a8 v1 v3 T8)
  else (ix v9 7 fun j10 =>
  ix v9 7 fun j12 =>
  bd (f_X6_putBits (st_NEAR_CODES.getD j10 0) (st_NEAR_BITS.getD j12 0) T8) fun _ T14 =>
  lb (((1 : Int32) - a7)) fun v15 =>
  k30 a1 a3 a4 a5 v3 v15 (a8 + 1) T14))))
  else (bd (f_X6_putBits 1 4 T8) fun _ T16 =>
  k30 a1 a3 a4 a5 v7 a7 (a8 + 1) T16)))
set_option maxRecDepth 100000 in
set_option maxHeartbeats 4000000 in
theorem s_X6_writeRow_b30 {x : JX} {ad : Nat → Nat} {U : Mm} {S0 : Hp} {q : Unit × Mm}  {k30 : Nat → Int32 → Int32 → Int32 → Int32 → Int32 → Int32 → Mm → Option (Unit × Mm)} (hn9 : x_n x = 15) (C : CB x RX6 cX6_writeRow) (M : CMr x 5 none S0 ad true U eV q) (hk30 : ∀ (a1 : Nat) (a3 : Int32) (a4 : Int32) (a5 : Int32) (a6 : Int32) (a7 : Int32) (a8 : Int32) (T : Mm) (_ : kS true a1 = 14), k30 a1 a3 a4 a5 a6 a7 a8 T = some q → Jr x ad true U T [(0, .ref (ad 5)), (1, .ref (ad a1)), (3, .int a3), (4, .int a4), (5, .int a5), (6, .int a6), (7, .int a7), (8, .int a8)] 30 []) (a1 : Nat) (a3 : Int32) (a4 : Int32) (a5 : Int32) (a6 : Int32) (a7 : Int32) (a8 : Int32) (T : Mm) (ha1 : kS true a1 = 14) (h : f_X6_writeRow_b30 k30 a1 a3 a4 a5 a6 a7 a8 T = some q) : Jr x ad true U T [(0, .ref (ad 5)), (1, .ref (ad a1)), (3, .int a3), (4, .int a4), (5, .int a5), (6, .int a6), (7, .int a7), (8, .int a8)] 30 [] := by
  unfold f_X6_writeRow_b30 at h
  refine r_iload C dX6_writeRow_30 7 rfl ?_
  refine r_iload_n C dX6_writeRow_32 rfl 2 rfl ?_
  refine r_ic_gt (tgt := 227) C dX6_writeRow_33 (by decide) h (fun h => ?_) (fun h => ?_)
  · exact r_vret C M dX6_writeRow_227 h
  · refine r_iload C dX6_writeRow_36 5 rfl ?_
    refine r_iload_n C dX6_writeRow_38 rfl 2 rfl ?_
    refine r_ic_ge (tgt := 227) C dX6_writeRow_39 (by decide) h (fun h => ?_) (fun h => ?_)
    · exact r_vret C M dX6_writeRow_227 h
    · refine r_iload C dX6_writeRow_42 5 rfl ?_
      refine r_iconst (v := 0) C dX6_writeRow_44 (by decide) ?_
      refine r_callSI C M h [.int a6, .int 0] [] mlX6_55 mcJ9_max_7cf53 (fun q9 e9 => s_J9_max_7cf53 a6 0  e9) (by decide) (by decide) rfl rfl (Nat.le_of_ble_eq_true rfl) dX6_writeRow_45 (fun v1 T2 h => ?_)
      refine r_istore (lv' := [(9, .int v1), (0, .ref (ad 5)), (1, .ref (ad a1)), (3, .int a3), (4, .int a4), (5, .int a5), (6, .int a6), (7, .int a7), (8, .int a8)]) C dX6_writeRow_48 (by rw [hn9]; decide) rfl ?_
      refine r_aload_n C dX6_writeRow_50 rfl 2 rfl ?_
      show Jr _ _ _ _ _ _ 51 _
      refine r_iload C dX6_writeRow_51 4 rfl ?_
      refine r_iload C dX6_writeRow_53 0 rfl ?_
      refine r_iload_n C dX6_writeRow_55 rfl 3 rfl ?_
      refine r_iload C dX6_writeRow_56 7 rfl ?_
      refine r_callSI C M h [.ref (ad a1), .int a4, .int v1, .int a3, .int a7] [] mlX6_104 mcX11_firstOther (fun q9 e9 => s_X11_firstOther a1 a4 v1 a3 a7 ha1 e9) (by decide) (by decide) rfl rfl (Nat.le_of_ble_eq_true rfl) dX6_writeRow_58 (fun v3 T4 h => ?_)
      refine r_istore (lv' := [(10, .int v3), (9, .int v1), (0, .ref (ad 5)), (1, .ref (ad a1)), (3, .int a3), (4, .int a4), (5, .int a5), (6, .int a6), (7, .int a7), (8, .int a8)]) C dX6_writeRow_61 (by rw [hn9]; decide) rfl ?_
      show Jr _ _ _ _ _ _ 63 _
      refine r_aload_n C dX6_writeRow_63 rfl 3 rfl ?_
      refine r_iload C dX6_writeRow_64 6 rfl ?_
      refine r_iload C dX6_writeRow_66 7 rfl ?_
      refine r_iload_n C dX6_writeRow_68 rfl 4 rfl ?_
      refine r_iload C dX6_writeRow_69 8 rfl ?_
      refine r_callSI C M h [.ref (ad a1), .int a5, .int a6, .int a3, .int a7] [] mlX6_108 mcX11_firstChange (fun q9 e9 => s_X11_firstChange a1 a5 a6 a3 a7 ha1 e9) (by decide) (by decide) rfl rfl (Nat.le_of_ble_eq_true rfl) dX6_writeRow_71 (fun v5 T6 h => ?_)
      show Jr _ _ _ _ _ _ 74 _
      refine r_istore (lv' := [(11, .int v5), (10, .int v3), (9, .int v1), (0, .ref (ad 5)), (1, .ref (ad a1)), (3, .int a3), (4, .int a4), (5, .int a5), (6, .int a6), (7, .int a7), (8, .int a8)]) C dX6_writeRow_74 (by rw [hn9]; decide) rfl ?_
      refine r_aload_n C dX6_writeRow_76 rfl 4 rfl ?_
      refine r_iload C dX6_writeRow_77 7 rfl ?_
      refine r_iload C dX6_writeRow_79 0 rfl ?_
      refine r_iload_n C dX6_writeRow_81 rfl 5 rfl ?_
      refine r_iconst (v := 1) C dX6_writeRow_82 (by decide) ?_
      show Jr _ _ _ _ _ _ 83 _
      refine r_iload C dX6_writeRow_83 9 rfl ?_
      refine r_isub C dX6_writeRow_85 rfl ?_
      refine r_callSI C M h [.ref (ad a1), .int a5, .int v5, .int a3, .int ((1 : Int32) - a7)] [] mlX6_104 mcX11_firstOther (fun q9 e9 => s_X11_firstOther a1 a5 v5 a3 ((1 : Int32) - a7) ha1 e9) (by decide) (by decide) rfl rfl (Nat.le_of_ble_eq_true rfl) dX6_writeRow_86 (fun v7 T8 h => ?_)
      refine r_istore (lv' := [(12, .int v7), (11, .int v5), (10, .int v3), (9, .int v1), (0, .ref (ad 5)), (1, .ref (ad a1)), (3, .int a3), (4, .int a4), (5, .int a5), (6, .int a6), (7, .int a7), (8, .int a8)]) C dX6_writeRow_89 (by rw [hn9]; decide) rfl ?_
      refine r_iload C dX6_writeRow_91 2 rfl ?_
      refine r_iload C dX6_writeRow_93 1 rfl ?_
      show Jr _ _ _ _ _ _ 95 _
      refine r_isub C dX6_writeRow_95 rfl ?_
      refine r_iconst (v := 3) C dX6_writeRow_96 (by decide) ?_
      refine r_iadd C dX6_writeRow_97 rfl ?_
      refine r_lbI h (fun v9 h => ?_)
      refine r_istore (lv' := [(13, .int v9), (12, .int v7), (11, .int v5), (10, .int v3), (9, .int v1), (0, .ref (ad 5)), (1, .ref (ad a1)), (3, .int a3), (4, .int a4), (5, .int a5), (6, .int a6), (7, .int a7), (8, .int a8)]) C dX6_writeRow_98 (by rw [hn9]; decide) rfl ?_
      refine r_iload C dX6_writeRow_100 1 rfl ?_
      refine r_iload C dX6_writeRow_102 3 rfl ?_
      show Jr _ _ _ _ _ _ 104 _
      refine r_ic_ge (tgt := 120) C dX6_writeRow_104 (by decide) h (fun h => ?_) (fun h => ?_)
      · refine r_iload C dX6_writeRow_120 0 rfl ?_
        refine r_if_lt (tgt := 172) C dX6_writeRow_122 (by decide) h (fun h => ?_) (fun h => ?_)
        · refine Jr.sub [5, 6, 7, 8, 9, 11, 12, 4, 3] (lv' := [(0, .ref (ad 5)), (1, .ref (ad a1)), (3, .int a3), (4, .int a4), (5, .int a5), (7, .int a7), (8, .int a8), (9, .int v1), (10, .int v3)]) rfl ?_
          exact s_X6_writeRow_172 hn9 C M hk30 a1 a3 a4 a5 a7 a8 v1 v3 T8 ha1 h
        · refine r_iload C dX6_writeRow_125 0 rfl ?_
          refine r_gets C 5 rfl (Or.inr ⟨_, gsX6_111⟩) dX6_writeRow_127 ?_
          refine r_stlen (v := 7) C 5 rfl dX6_writeRow_130 (by decide) ?_
          refine r_ic_ge (tgt := 172) C dX6_writeRow_131 (by decide) h (fun h => ?_) (fun h => ?_)
          · refine Jr.sub [5, 6, 7, 8, 9, 11, 12, 4, 3] (lv' := [(0, .ref (ad 5)), (1, .ref (ad a1)), (3, .int a3), (4, .int a4), (5, .int a5), (7, .int a7), (8, .int a8), (9, .int v1), (10, .int v3)]) rfl ?_
            exact s_X6_writeRow_172 hn9 C M hk30 a1 a3 a4 a5 a7 a8 v1 v3 T8 ha1 h
          · refine r_iload C dX6_writeRow_134 0 rfl ?_
            refine r_gets C 4 rfl (Or.inr ⟨_, gsX6_114⟩) dX6_writeRow_136 ?_
            refine r_stlen (v := 7) C 4 rfl dX6_writeRow_139 (by decide) ?_
            refine r_ic_ge (tgt := 172) C dX6_writeRow_140 (by decide) h (fun h => ?_) (fun h => ?_)
            · refine Jr.sub [5, 6, 7, 8, 9, 11, 12, 4, 3] (lv' := [(0, .ref (ad 5)), (1, .ref (ad a1)), (3, .int a3), (4, .int a4), (5, .int a5), (7, .int a7), (8, .int a8), (9, .int v1), (10, .int v3)]) rfl ?_
              exact s_X6_writeRow_172 hn9 C M hk30 a1 a3 a4 a5 a7 a8 v1 v3 T8 ha1 h
            · refine r_aload_n C dX6_writeRow_143 rfl 5 rfl ?_
              refine r_gets C 5 rfl (Or.inr ⟨_, gsX6_111⟩) dX6_writeRow_144 ?_
              refine r_iload C dX6_writeRow_147 0 rfl ?_
              refine r_stld C 5 rfl (n := 7) rfl dX6_writeRow_149 h (fun j10 hj11 h => ?_)
              refine r_gets C 4 rfl (Or.inr ⟨_, gsX6_114⟩) dX6_writeRow_150 ?_
              show Jr _ _ _ _ _ _ 153 _
              refine r_iload C dX6_writeRow_153 0 rfl ?_
              refine r_stld C 4 rfl (n := 7) rfl dX6_writeRow_155 h (fun j12 hj13 h => ?_)
              refine r_callVN C M h [.int (st_NEAR_CODES.getD j10 0), .int (st_NEAR_BITS.getD j12 0)] [] mlX6_80 mcX6_putBits (fun q9 e9 => s_X6_putBits (st_NEAR_CODES.getD j10 0) (st_NEAR_BITS.getD j12 0)  e9) kq_5 rfl (by decide) (by decide) rfl rfl (Nat.le_of_ble_eq_true rfl) dX6_writeRow_156 (fun _ T14 h => ?_)
              refine r_iload C dX6_writeRow_159 3 rfl ?_
              refine r_istore (lv' := [(6, .int v3), (13, .int v9), (12, .int v7), (11, .int v5), (10, .int v3), (9, .int v1), (0, .ref (ad 5)), (1, .ref (ad a1)), (3, .int a3), (4, .int a4), (5, .int a5), (7, .int a7), (8, .int a8)]) C dX6_writeRow_161 (by rw [hn9]; decide) rfl ?_
              refine r_iconst (v := 1) C dX6_writeRow_163 (by decide) ?_
              show Jr _ _ _ _ _ _ 164 _
              refine r_iload C dX6_writeRow_164 11 rfl ?_
              refine r_isub C dX6_writeRow_166 rfl ?_
              refine r_lbI h (fun v15 h => ?_)
              refine r_istore (lv' := [(7, .int v15), (6, .int v3), (13, .int v9), (12, .int v7), (11, .int v5), (10, .int v3), (9, .int v1), (0, .ref (ad 5)), (1, .ref (ad a1)), (3, .int a3), (4, .int a4), (5, .int a5), (8, .int a8)]) C dX6_writeRow_167 (by rw [hn9]; decide) rfl ?_
              refine r_goto (tgt := 221) C dX6_writeRow_169 (by decide) ?_
              refine r_iinc (q := 12) (v := (a8 + 1)) (lv' := [(8, .int (a8 + 1)), (7, .int v15), (6, .int v3), (13, .int v9), (12, .int v7), (11, .int v5), (10, .int v3), (9, .int v1), (0, .ref (ad 5)), (1, .ref (ad a1)), (3, .int a3), (4, .int a4), (5, .int a5)]) C dX6_writeRow_221 rfl (by rw [show Int32.ofInt (1) = 1 by decide]) (by rw [hn9]; decide) rfl ?_
              refine r_goto (tgt := 30) C dX6_writeRow_224 (by decide) ?_
              refine Jr.sub [8, 9, 10, 11, 12, 2, 1, 0] (lv' := [(0, .ref (ad 5)), (1, .ref (ad a1)), (3, .int a3), (4, .int a4), (5, .int a5), (6, .int v3), (7, .int v15), (8, .int (a8 + 1))]) rfl ?_
              exact hk30 a1 a3 a4 a5 v3 v15 (a8 + 1) T14 ha1 h
      · refine r_aload_n C dX6_writeRow_107 rfl 5 rfl ?_
        refine r_iconst (v := 1) C dX6_writeRow_108 (by decide) ?_
        refine r_iconst (v := 4) C dX6_writeRow_109 (by decide) ?_
        refine r_callVN C M h [.int 1, .int 4] [] mlX6_80 mcX6_putBits (fun q9 e9 => s_X6_putBits 1 4  e9) kq_5 rfl (by decide) (by decide) rfl rfl (Nat.le_of_ble_eq_true rfl) dX6_writeRow_110 (fun _ T16 h => ?_)
        refine r_iload C dX6_writeRow_113 1 rfl ?_
        show Jr _ _ _ _ _ _ 115 _
        refine r_istore (lv' := [(6, .int v7), (13, .int v9), (12, .int v7), (11, .int v5), (10, .int v3), (9, .int v1), (0, .ref (ad 5)), (1, .ref (ad a1)), (3, .int a3), (4, .int a4), (5, .int a5), (7, .int a7), (8, .int a8)]) C dX6_writeRow_115 (by rw [hn9]; decide) rfl ?_
        refine r_goto (tgt := 221) C dX6_writeRow_117 (by decide) ?_
        refine r_iinc (q := 12) (v := (a8 + 1)) (lv' := [(8, .int (a8 + 1)), (6, .int v7), (13, .int v9), (12, .int v7), (11, .int v5), (10, .int v3), (9, .int v1), (0, .ref (ad 5)), (1, .ref (ad a1)), (3, .int a3), (4, .int a4), (5, .int a5), (7, .int a7)]) C dX6_writeRow_221 rfl (by rw [show Int32.ofInt (1) = 1 by decide]) (by rw [hn9]; decide) rfl ?_
        refine r_goto (tgt := 30) C dX6_writeRow_224 (by decide) ?_
        refine Jr.sub [7, 8, 9, 10, 11, 1, 12, 0] (lv' := [(0, .ref (ad 5)), (1, .ref (ad a1)), (3, .int a3), (4, .int a4), (5, .int a5), (6, .int v7), (7, .int a7), (8, .int (a8 + 1))]) rfl ?_
        exact hk30 a1 a3 a4 a5 v7 a7 (a8 + 1) T16 ha1 h
noncomputable def f_X6_writeRow_l30 (n : Nat) : Nat → Int32 → Int32 → Int32 → Int32 → Int32 → Int32 → Mm → Option (Unit × Mm) := Nat.rec (fun _ _ _ _ _ _ _ _ => none) (fun _ ih => f_X6_writeRow_b30 ih) n
theorem s_X6_writeRow_l30 {x : JX} {ad : Nat → Nat} {U : Mm} {S0 : Hp} {q : Unit × Mm}  (hn9 : x_n x = 15) (C : CB x RX6 cX6_writeRow) (M : CMr x 5 none S0 ad true U eV q) : ∀ (n : Nat), ∀ (a1 : Nat) (a3 : Int32) (a4 : Int32) (a5 : Int32) (a6 : Int32) (a7 : Int32) (a8 : Int32) (T : Mm) (_ : kS true a1 = 14), f_X6_writeRow_l30  n a1 a3 a4 a5 a6 a7 a8 T = some q → Jr x ad true U T [(0, .ref (ad 5)), (1, .ref (ad a1)), (3, .int a3), (4, .int a4), (5, .int a5), (6, .int a6), (7, .int a7), (8, .int a8)] 30 [] := by
  intro n
  induction n with
  | zero => intro a1 a3 a4 a5 a6 a7 a8 T _ h; exact absurd h (by intro h; cases h)
  | succ n ih => exact fun a1 a3 a4 a5 a6 a7 a8 T ha1 h => s_X6_writeRow_b30 hn9 C M (ih) a1 a3 a4 a5 a6 a7 a8 T ha1 h
noncomputable def f_X6_writeRow (p1 : Nat) (p2 : Int32) (p3 : Int32) (T : Mm) : Option (Unit × Mm) :=
  lb ((p2 * 20)) fun v1 =>
  if p2 = 0 then (f_X6_writeRow_l30 FU p1 p3 v1 (-1) (-1) 0 0 T)
  else (lb ((v1 - 20)) fun v2 =>
  f_X6_writeRow_l30 FU p1 p3 v1 v2 (-1) 0 0 T)
set_option maxRecDepth 100000 in
set_option maxHeartbeats 4000000 in
theorem s_X6_writeRow {ad : Nat → Nat} {U T : Mm} {q : Unit × Mm}  (p1 : Nat) (p2 : Int32) (p3 : Int32) (hk1 : kS true p1 = 14) (h : f_X6_writeRow p1 p2 p3 T = some q) : Cr 5 yX6_writeRow cX6_writeRow 15 none [.ref (ad 5), .ref (ad p1), .int p2, .int p3] ad true U T eV q := by
  refine cr_of (by decide) (Nat.le_of_ble_eq_true rfl) fun x S0 hn9 C M => ?_
  have C : CB x RX6 cX6_writeRow := C
  refine Jr.eq (lv' := [(0, .ref (ad 5)), (1, .ref (ad p1)), (2, .int p2), (3, .int p3)]) (st' := []) rfl rfl ?_
  unfold f_X6_writeRow at h
  refine r_iload_n C dX6_writeRow_0 rfl 2 rfl ?_
  refine r_bipush (v := 20) C dX6_writeRow_1 (by decide) ?_
  refine r_imul C dX6_writeRow_3 rfl ?_
  refine r_lbI h (fun v1 h => ?_)
  refine r_istore (lv' := [(4, .int v1), (0, .ref (ad 5)), (1, .ref (ad p1)), (2, .int p2), (3, .int p3)]) C dX6_writeRow_4 (by rw [hn9]; decide) rfl ?_
  refine r_iload_n C dX6_writeRow_6 rfl 3 rfl ?_
  show Jr _ _ _ _ _ _ 7 _
  refine r_if_ne (tgt := 14) C dX6_writeRow_7 (by decide) h (fun h => ?_) (fun h => ?_)
  · refine r_iload C dX6_writeRow_14 0 rfl ?_
    refine r_bipush (v := 20) C dX6_writeRow_16 (by decide) ?_
    refine r_isub C dX6_writeRow_18 rfl ?_
    refine r_lbI h (fun v2 h => ?_)
    refine r_istore (lv' := [(5, .int v2), (4, .int v1), (0, .ref (ad 5)), (1, .ref (ad p1)), (2, .int p2), (3, .int p3)]) C dX6_writeRow_19 (by rw [hn9]; decide) rfl ?_
    refine r_iconst (v := (-1)) C dX6_writeRow_21 (by decide) ?_
    show Jr _ _ _ _ _ _ 22 _
    refine r_istore (lv' := [(6, .int (-1)), (5, .int v2), (4, .int v1), (0, .ref (ad 5)), (1, .ref (ad p1)), (2, .int p2), (3, .int p3)]) C dX6_writeRow_22 (by rw [hn9]; decide) rfl ?_
    refine r_iconst (v := 0) C dX6_writeRow_24 (by decide) ?_
    refine r_istore (lv' := [(7, .int 0), (6, .int (-1)), (5, .int v2), (4, .int v1), (0, .ref (ad 5)), (1, .ref (ad p1)), (2, .int p2), (3, .int p3)]) C dX6_writeRow_25 (by rw [hn9]; decide) rfl ?_
    refine r_iconst (v := 0) C dX6_writeRow_27 (by decide) ?_
    refine r_istore (lv' := [(8, .int 0), (7, .int 0), (6, .int (-1)), (5, .int v2), (4, .int v1), (0, .ref (ad 5)), (1, .ref (ad p1)), (2, .int p2), (3, .int p3)]) C dX6_writeRow_28 (by rw [hn9]; decide) rfl ?_
    refine Jr.sub [5, 6, 8, 4, 3, 2, 1, 0] (lv' := [(0, .ref (ad 5)), (1, .ref (ad p1)), (3, .int p3), (4, .int v1), (5, .int v2), (6, .int (-1)), (7, .int 0), (8, .int 0)]) rfl ?_
    exact s_X6_writeRow_l30 hn9 C M  FU p1 p3 v1 v2 (-1) 0 0 T hk1 h
  · refine r_iconst (v := (-1)) C dX6_writeRow_10 (by decide) ?_
    refine r_goto (tgt := 19) C dX6_writeRow_11 (by decide) ?_
    refine r_istore (lv' := [(5, .int (-1)), (4, .int v1), (0, .ref (ad 5)), (1, .ref (ad p1)), (2, .int p2), (3, .int p3)]) C dX6_writeRow_19 (by rw [hn9]; decide) rfl ?_
    refine r_iconst (v := (-1)) C dX6_writeRow_21 (by decide) ?_
    refine r_istore (lv' := [(6, .int (-1)), (5, .int (-1)), (4, .int v1), (0, .ref (ad 5)), (1, .ref (ad p1)), (2, .int p2), (3, .int p3)]) C dX6_writeRow_22 (by rw [hn9]; decide) rfl ?_
    show Jr _ _ _ _ _ _ 24 _
    refine r_iconst (v := 0) C dX6_writeRow_24 (by decide) ?_
    refine r_istore (lv' := [(7, .int 0), (6, .int (-1)), (5, .int (-1)), (4, .int v1), (0, .ref (ad 5)), (1, .ref (ad p1)), (2, .int p2), (3, .int p3)]) C dX6_writeRow_25 (by rw [hn9]; decide) rfl ?_
    refine r_iconst (v := 0) C dX6_writeRow_27 (by decide) ?_
    refine r_istore (lv' := [(8, .int 0), (7, .int 0), (6, .int (-1)), (5, .int (-1)), (4, .int v1), (0, .ref (ad 5)), (1, .ref (ad p1)), (2, .int p2), (3, .int p3)]) C dX6_writeRow_28 (by rw [hn9]; decide) rfl ?_
    refine Jr.sub [5, 6, 8, 4, 3, 2, 1, 0] (lv' := [(0, .ref (ad 5)), (1, .ref (ad p1)), (3, .int p3), (4, .int v1), (5, .int (-1)), (6, .int (-1)), (7, .int 0), (8, .int 0)]) rfl ?_
    exact s_X6_writeRow_l30 hn9 C M  FU p1 p3 v1 (-1) (-1) 0 0 T hk1 h
