theorem dX6_setNumber_0 : decode cX6_setNumber 0 = .ok (.iconst 0, 1) := by decide +kernel
theorem dX6_setNumber_1 : decode cX6_setNumber 1 = .ok (.istore_n 3, 1) := by decide +kernel
theorem dX6_setNumber_2 : decode cX6_setNumber 2 = .ok (.iload_n 3, 1) := by decide +kernel
theorem dX6_setNumber_3 : decode cX6_setNumber 3 = .ok (.iconst 4, 1) := by decide +kernel
theorem dX6_setNumber_4 : decode cX6_setNumber 4 = .ok (.if_icmp .ge 51, 3) := by decide +kernel
theorem dX6_setNumber_7 : decode cX6_setNumber 7 = .ok (.iload_n 1, 1) := by decide +kernel
theorem dX6_setNumber_8 : decode cX6_setNumber 8 = .ok (.iload_n 3, 1) := by decide +kernel
theorem dX6_setNumber_9 : decode cX6_setNumber 9 = .ok (.iadd, 1) := by decide +kernel
theorem dX6_setNumber_10 : decode cX6_setNumber 10 = .ok (.ifCond .lt 39, 3) := by decide +kernel
theorem dX6_setNumber_13 : decode cX6_setNumber 13 = .ok (.iload_n 1, 1) := by decide +kernel
theorem dX6_setNumber_14 : decode cX6_setNumber 14 = .ok (.iload_n 3, 1) := by decide +kernel
theorem dX6_setNumber_15 : decode cX6_setNumber 15 = .ok (.iadd, 1) := by decide +kernel
theorem dX6_setNumber_16 : decode cX6_setNumber 16 = .ok (.aload_n 0, 1) := by decide +kernel
theorem dX6_setNumber_17 : decode cX6_setNumber 17 = .ok (.getfield 28, 3) := by decide +kernel
theorem dX6_setNumber_20 : decode cX6_setNumber 20 = .ok (.if_icmp .ge 29, 3) := by decide +kernel
theorem dX6_setNumber_23 : decode cX6_setNumber 23 = .ok (.iload_n 1, 1) := by decide +kernel
theorem dX6_setNumber_24 : decode cX6_setNumber 24 = .ok (.iload_n 3, 1) := by decide +kernel
theorem dX6_setNumber_25 : decode cX6_setNumber 25 = .ok (.iadd, 1) := by decide +kernel
theorem dX6_setNumber_26 : decode cX6_setNumber 26 = .ok (.aload_n 0, 1) := by decide +kernel
theorem dX6_setNumber_27 : decode cX6_setNumber 27 = .ok (.getfield 12, 3) := by decide +kernel
theorem dX6_setNumber_30 : decode cX6_setNumber 30 = .ok (.arraylength, 1) := by decide +kernel
theorem dX6_setNumber_31 : decode cX6_setNumber 31 = .ok (.if_icmp .ge 18, 3) := by decide +kernel
theorem dX6_setNumber_34 : decode cX6_setNumber 34 = .ok (.aload_n 0, 1) := by decide +kernel
theorem dX6_setNumber_35 : decode cX6_setNumber 35 = .ok (.getfield 12, 3) := by decide +kernel
theorem dX6_setNumber_38 : decode cX6_setNumber 38 = .ok (.iload_n 1, 1) := by decide +kernel
theorem dX6_setNumber_39 : decode cX6_setNumber 39 = .ok (.iload_n 3, 1) := by decide +kernel
theorem dX6_setNumber_40 : decode cX6_setNumber 40 = .ok (.iadd, 1) := by decide +kernel
theorem dX6_setNumber_41 : decode cX6_setNumber 41 = .ok (.iload_n 2, 1) := by decide +kernel
theorem dX6_setNumber_42 : decode cX6_setNumber 42 = .ok (.bipush 8, 2) := by decide +kernel
theorem dX6_setNumber_44 : decode cX6_setNumber 44 = .ok (.iload_n 3, 1) := by decide +kernel
theorem dX6_setNumber_45 : decode cX6_setNumber 45 = .ok (.imul, 1) := by decide +kernel
theorem dX6_setNumber_46 : decode cX6_setNumber 46 = .ok (.iushr, 1) := by decide +kernel
theorem dX6_setNumber_47 : decode cX6_setNumber 47 = .ok (.i2b, 1) := by decide +kernel
theorem dX6_setNumber_48 : decode cX6_setNumber 48 = .ok (.bastore, 1) := by decide +kernel
theorem dX6_setNumber_49 : decode cX6_setNumber 49 = .ok (.iinc 3 1, 3) := by decide +kernel
theorem dX6_setNumber_52 : decode cX6_setNumber 52 = .ok (.goto (-50), 3) := by decide +kernel
theorem dX6_setNumber_55 : decode cX6_setNumber 55 = .ok (.return_, 1) := by decide +kernel
noncomputable def f_X6_setNumber_b2 (k2 : Int32 → Int32 → Int32 → Mm → Option (Unit × Mm)) (a1 : Int32) (a2 : Int32) (a3 : Int32) (T : Mm) : Option (Unit × Mm) :=
  if 4 ≤ a3 then (some ((), T))
  else (if (a1 + a3) < 0 then (k2 a1 a2 (a3 + 1) T)
  else (if (gI T 601 5) ≤ (a1 + a3) then (k2 a1 a2 (a3 + 1) T)
  else (if 60000 ≤ (a1 + a3) then (k2 a1 a2 (a3 + 1) T)
  else (ix (a1 + a3) 60000 fun j1 => lb (uA T 6 j1 (((((a2).toUInt32 >>> ((((8 : Int32) * a3) : Int32).toUInt32 &&& Int32.toUInt32 31)).toInt32).toInt8.toInt32).toInt8.toInt32)) fun T3 =>
  k2 a1 a2 (a3 + 1) T3))))
set_option maxRecDepth 100000 in
set_option maxHeartbeats 4000000 in
theorem s_X6_setNumber_b2 {x : JX} {ad : Nat → Nat} {U : Mm} {S0 : Hp} {q : Unit × Mm}  {k2 : Int32 → Int32 → Int32 → Mm → Option (Unit × Mm)} (hn9 : x_n x = 4) (C : CB x RX6 cX6_setNumber) (M : CMr x 1 none S0 ad true U eV q) (hk2 : ∀ (a1 : Int32) (a2 : Int32) (a3 : Int32) (T : Mm), k2 a1 a2 a3 T = some q → Jr x ad true U T [(0, .ref (ad 5)), (1, .int a1), (2, .int a2), (3, .int a3)] 2 []) (a1 : Int32) (a2 : Int32) (a3 : Int32) (T : Mm) (h : f_X6_setNumber_b2 k2 a1 a2 a3 T = some q) : Jr x ad true U T [(0, .ref (ad 5)), (1, .int a1), (2, .int a2), (3, .int a3)] 2 [] := by
  unfold f_X6_setNumber_b2 at h
  refine r_iload_n C dX6_setNumber_2 rfl 3 rfl ?_
  refine r_iconst (v := 4) C dX6_setNumber_3 (by decide) ?_
  refine r_ic_ge (tgt := 55) C dX6_setNumber_4 (by decide) h (fun h => ?_) (fun h => ?_)
  · exact r_vret C M dX6_setNumber_55 h
  · refine r_iload_n C dX6_setNumber_7 rfl 1 rfl ?_
    refine r_iload_n C dX6_setNumber_8 rfl 3 rfl ?_
    refine r_iadd C dX6_setNumber_9 rfl ?_
    refine r_if_lt (tgt := 49) C dX6_setNumber_10 (by decide) h (fun h => ?_) (fun h => ?_)
    · refine r_iinc (q := 3) (v := (a3 + 1)) (lv' := [(3, .int (a3 + 1)), (0, .ref (ad 5)), (1, .int a1), (2, .int a2)]) C dX6_setNumber_49 rfl (by rw [show Int32.ofInt (1) = 1 by decide]) (by rw [hn9]; decide) rfl ?_
      refine r_goto (tgt := 2) C dX6_setNumber_52 (by decide) ?_
      refine Jr.sub [1, 2, 3, 0] (lv' := [(0, .ref (ad 5)), (1, .int a1), (2, .int a2), (3, .int (a3 + 1))]) rfl ?_
      exact hk2 a1 a2 (a3 + 1) T h
    · refine r_iload_n C dX6_setNumber_13 rfl 1 rfl ?_
      refine r_iload_n C dX6_setNumber_14 rfl 3 rfl ?_
      refine r_iadd C dX6_setNumber_15 rfl ?_
      refine r_aload_n C dX6_setNumber_16 rfl 0 rfl ?_
      refine r_geti (f := 601) C flX6_28 dX6_setNumber_17 kq_5 (by decide) (by decide) rfl ?_
      show Jr _ _ _ _ _ _ 20 _
      refine r_ic_ge (tgt := 49) C dX6_setNumber_20 (by decide) h (fun h => ?_) (fun h => ?_)
      · refine r_iinc (q := 3) (v := (a3 + 1)) (lv' := [(3, .int (a3 + 1)), (0, .ref (ad 5)), (1, .int a1), (2, .int a2)]) C dX6_setNumber_49 rfl (by rw [show Int32.ofInt (1) = 1 by decide]) (by rw [hn9]; decide) rfl ?_
        refine r_goto (tgt := 2) C dX6_setNumber_52 (by decide) ?_
        refine Jr.sub [1, 2, 3, 0] (lv' := [(0, .ref (ad 5)), (1, .int a1), (2, .int a2), (3, .int (a3 + 1))]) rfl ?_
        exact hk2 a1 a2 (a3 + 1) T h
      · refine r_iload_n C dX6_setNumber_23 rfl 1 rfl ?_
        refine r_iload_n C dX6_setNumber_24 rfl 3 rfl ?_
        refine r_iadd C dX6_setNumber_25 rfl ?_
        refine r_aload_n C dX6_setNumber_26 rfl 0 rfl ?_
        refine r_getp (f := 600) (j := 6) C flX6_12 dX6_setNumber_27 kq_5 (by decide) rfl (fun W => pt_600 kq_5 W) ?_
        show Jr _ _ _ _ _ _ 30 _
        refine r_alen (n := 0) (v := 60000) C dX6_setNumber_30 kq_6 (by decide) (by decide) (congrArg Int32.ofNat lq_6) ?_
        refine r_ic_ge (tgt := 49) C dX6_setNumber_31 (by decide) h (fun h => ?_) (fun h => ?_)
        · refine r_iinc (q := 3) (v := (a3 + 1)) (lv' := [(3, .int (a3 + 1)), (0, .ref (ad 5)), (1, .int a1), (2, .int a2)]) C dX6_setNumber_49 rfl (by rw [show Int32.ofInt (1) = 1 by decide]) (by rw [hn9]; decide) rfl ?_
          refine r_goto (tgt := 2) C dX6_setNumber_52 (by decide) ?_
          refine Jr.sub [1, 2, 3, 0] (lv' := [(0, .ref (ad 5)), (1, .int a1), (2, .int a2), (3, .int (a3 + 1))]) rfl ?_
          exact hk2 a1 a2 (a3 + 1) T h
        · refine r_aload_n C dX6_setNumber_34 rfl 0 rfl ?_
          refine r_getp (f := 600) (j := 6) C flX6_12 dX6_setNumber_35 kq_5 (by decide) rfl (fun W => pt_600 kq_5 W) ?_
          refine r_iload_n C dX6_setNumber_38 rfl 1 rfl ?_
          refine r_iload_n C dX6_setNumber_39 rfl 3 rfl ?_
          refine r_iadd C dX6_setNumber_40 rfl ?_
          show Jr _ _ _ _ _ _ 41 _
          refine r_iload_n C dX6_setNumber_41 rfl 2 rfl ?_
          refine r_bipush (v := 8) C dX6_setNumber_42 (by decide) ?_
          refine r_iload_n C dX6_setNumber_44 rfl 3 rfl ?_
          refine r_imul C dX6_setNumber_45 rfl ?_
          refine r_iushr C dX6_setNumber_46 rfl ?_
          refine r_i2b C dX6_setNumber_47 rfl ?_
          show Jr _ _ _ _ _ _ 48 _
          refine r_bast (n := 60000) C dX6_setNumber_48 kq_6 lq_6 h (fun j1 T3 hj2 h => ?_)
          refine r_iinc (q := 3) (v := (a3 + 1)) (lv' := [(3, .int (a3 + 1)), (0, .ref (ad 5)), (1, .int a1), (2, .int a2)]) C dX6_setNumber_49 rfl (by rw [show Int32.ofInt (1) = 1 by decide]) (by rw [hn9]; decide) rfl ?_
          refine r_goto (tgt := 2) C dX6_setNumber_52 (by decide) ?_
          refine Jr.sub [1, 2, 3, 0] (lv' := [(0, .ref (ad 5)), (1, .int a1), (2, .int a2), (3, .int (a3 + 1))]) rfl ?_
          exact hk2 a1 a2 (a3 + 1) T3 h
noncomputable def f_X6_setNumber_l2 (n : Nat) : Int32 → Int32 → Int32 → Mm → Option (Unit × Mm) := Nat.rec (fun _ _ _ _ => none) (fun _ ih => f_X6_setNumber_b2 ih) n
theorem s_X6_setNumber_l2 {x : JX} {ad : Nat → Nat} {U : Mm} {S0 : Hp} {q : Unit × Mm}  (hn9 : x_n x = 4) (C : CB x RX6 cX6_setNumber) (M : CMr x 1 none S0 ad true U eV q) : ∀ (n : Nat), ∀ (a1 : Int32) (a2 : Int32) (a3 : Int32) (T : Mm), f_X6_setNumber_l2  n a1 a2 a3 T = some q → Jr x ad true U T [(0, .ref (ad 5)), (1, .int a1), (2, .int a2), (3, .int a3)] 2 [] := by
  intro n
  induction n with
  | zero => intro a1 a2 a3 T  h; exact absurd h (by intro h; cases h)
  | succ n ih => exact fun a1 a2 a3 T  h => s_X6_setNumber_b2 hn9 C M (ih) a1 a2 a3 T  h
noncomputable def f_X6_setNumber (p1 : Int32) (p2 : Int32) (T : Mm) : Option (Unit × Mm) :=
  f_X6_setNumber_l2 FU p1 p2 0 T
set_option maxRecDepth 100000 in
set_option maxHeartbeats 4000000 in
theorem s_X6_setNumber {ad : Nat → Nat} {U T : Mm} {q : Unit × Mm}  (p1 : Int32) (p2 : Int32) (h : f_X6_setNumber p1 p2 T = some q) : Cr 1 yX6_setNumber cX6_setNumber 4 none [.ref (ad 5), .int p1, .int p2] ad true U T eV q := by
  refine cr_of (by decide) (Nat.le_of_ble_eq_true rfl) fun x S0 hn9 C M => ?_
  have C : CB x RX6 cX6_setNumber := C
  refine Jr.eq (lv' := [(0, .ref (ad 5)), (1, .int p1), (2, .int p2)]) (st' := []) rfl rfl ?_
  unfold f_X6_setNumber at h
  refine r_iconst (v := 0) C dX6_setNumber_0 (by decide) ?_
  refine r_istore_n (lv' := [(3, .int 0), (0, .ref (ad 5)), (1, .int p1), (2, .int p2)]) C dX6_setNumber_1 rfl (by rw [hn9]; decide) rfl ?_
  refine Jr.sub [1, 2, 3, 0] (lv' := [(0, .ref (ad 5)), (1, .int p1), (2, .int p2), (3, .int 0)]) rfl ?_
  exact s_X6_setNumber_l2 hn9 C M  FU p1 p2 0 T h
theorem dX6_putEntry_0 : decode cX6_putEntry 0 = .ok (.aload_n 0, 1) := by decide +kernel
theorem dX6_putEntry_1 : decode cX6_putEntry 1 = .ok (.iload_n 1, 1) := by decide +kernel
theorem dX6_putEntry_2 : decode cX6_putEntry 2 = .ok (.iload_n 2, 1) := by decide +kernel
theorem dX6_putEntry_3 : decode cX6_putEntry 3 = .ok (.bipush 16, 2) := by decide +kernel
theorem dX6_putEntry_5 : decode cX6_putEntry 5 = .ok (.ishl, 1) := by decide +kernel
theorem dX6_putEntry_6 : decode cX6_putEntry 6 = .ok (.ior, 1) := by decide +kernel
theorem dX6_putEntry_7 : decode cX6_putEntry 7 = .ok (.iconst 4, 1) := by decide +kernel
theorem dX6_putEntry_8 : decode cX6_putEntry 8 = .ok (.invokevirtual 59, 3) := by decide +kernel
theorem dX6_putEntry_11 : decode cX6_putEntry 11 = .ok (.aload_n 0, 1) := by decide +kernel
theorem dX6_putEntry_12 : decode cX6_putEntry 12 = .ok (.iconst 1, 1) := by decide +kernel
theorem dX6_putEntry_13 : decode cX6_putEntry 13 = .ok (.iconst 4, 1) := by decide +kernel
theorem dX6_putEntry_14 : decode cX6_putEntry 14 = .ok (.invokevirtual 59, 3) := by decide +kernel
theorem dX6_putEntry_17 : decode cX6_putEntry 17 = .ok (.aload_n 0, 1) := by decide +kernel
theorem dX6_putEntry_18 : decode cX6_putEntry 18 = .ok (.iload_n 3, 1) := by decide +kernel
theorem dX6_putEntry_19 : decode cX6_putEntry 19 = .ok (.iconst 4, 1) := by decide +kernel
theorem dX6_putEntry_20 : decode cX6_putEntry 20 = .ok (.invokevirtual 59, 3) := by decide +kernel
theorem dX6_putEntry_23 : decode cX6_putEntry 23 = .ok (.return_, 1) := by decide +kernel
noncomputable def f_X6_putEntry (p1 : Int32) (p2 : Int32) (p3 : Int32) (T : Mm) : Option (Unit × Mm) :=
  bd (f_X6_putNumber (p1 ||| (p2 <<< ((16 : Int32) &&& 31))) 4 T) fun _ T1 =>
  bd (f_X6_putNumber 1 4 T1) fun _ T2 =>
  bd (f_X6_putNumber p3 4 T2) fun _ T3 =>
  some ((), T3)
set_option maxRecDepth 100000 in
set_option maxHeartbeats 4000000 in
theorem s_X6_putEntry {ad : Nat → Nat} {U T : Mm} {q : Unit × Mm}  (p1 : Int32) (p2 : Int32) (p3 : Int32) (h : f_X6_putEntry p1 p2 p3 T = some q) : Cr 3 yX6_putEntry cX6_putEntry 4 none [.ref (ad 5), .int p1, .int p2, .int p3] ad true U T eV q := by
  refine cr_of (by decide) (Nat.le_of_ble_eq_true rfl) fun x S0 hn9 C M => ?_
  have C : CB x RX6 cX6_putEntry := C
  refine Jr.eq (lv' := [(0, .ref (ad 5)), (1, .int p1), (2, .int p2), (3, .int p3)]) (st' := []) rfl rfl ?_
  unfold f_X6_putEntry at h
  refine r_aload_n C dX6_putEntry_0 rfl 0 rfl ?_
  refine r_iload_n C dX6_putEntry_1 rfl 1 rfl ?_
  refine r_iload_n C dX6_putEntry_2 rfl 2 rfl ?_
  refine r_bipush (v := 16) C dX6_putEntry_3 (by decide) ?_
  refine r_ishl C dX6_putEntry_5 rfl ?_
  show Jr _ _ _ _ _ _ 6 _
  refine r_ior C dX6_putEntry_6 rfl ?_
  refine r_iconst (v := 4) C dX6_putEntry_7 (by decide) ?_
  refine r_callVN C M h [.int (p1 ||| (p2 <<< ((16 : Int32) &&& 31))), .int 4] [] mlX6_59 mcX6_putNumber (fun q9 e9 => s_X6_putNumber (p1 ||| (p2 <<< ((16 : Int32) &&& 31))) 4  e9) kq_5 rfl (by decide) (by decide) rfl rfl (Nat.le_of_ble_eq_true rfl) dX6_putEntry_8 (fun _ T1 h => ?_)
  refine r_aload_n C dX6_putEntry_11 rfl 0 rfl ?_
  refine r_iconst (v := 1) C dX6_putEntry_12 (by decide) ?_
  refine r_iconst (v := 4) C dX6_putEntry_13 (by decide) ?_
  show Jr _ _ _ _ _ _ 14 _
  refine r_callVN C M h [.int 1, .int 4] [] mlX6_59 mcX6_putNumber (fun q9 e9 => s_X6_putNumber 1 4  e9) kq_5 rfl (by decide) (by decide) rfl rfl (Nat.le_of_ble_eq_true rfl) dX6_putEntry_14 (fun _ T2 h => ?_)
  refine r_aload_n C dX6_putEntry_17 rfl 0 rfl ?_
  refine r_iload_n C dX6_putEntry_18 rfl 3 rfl ?_
  refine r_iconst (v := 4) C dX6_putEntry_19 (by decide) ?_
  refine r_callVN C M h [.int p3, .int 4] [] mlX6_59 mcX6_putNumber (fun q9 e9 => s_X6_putNumber p3 4  e9) kq_5 rfl (by decide) (by decide) rfl rfl (Nat.le_of_ble_eq_true rfl) dX6_putEntry_20 (fun _ T3 h => ?_)
  exact r_vret C M dX6_putEntry_23 h
theorem dX6_writeDirectory_0 : decode cX6_writeDirectory 0 = .ok (.aload_n 0, 1) := by decide +kernel
theorem dX6_writeDirectory_1 : decode cX6_writeDirectory 1 = .ok (.aload_n 0, 1) := by decide +kernel
theorem dX6_writeDirectory_2 : decode cX6_writeDirectory 2 = .ok (.getfield 63, 3) := by decide +kernel
theorem dX6_writeDirectory_5 : decode cX6_writeDirectory 5 = .ok (.aload_n 0, 1) := by decide +kernel
theorem dX6_writeDirectory_6 : decode cX6_writeDirectory 6 = .ok (.getfield 28, 3) := by decide +kernel
theorem dX6_writeDirectory_9 : decode cX6_writeDirectory 9 = .ok (.invokevirtual 91, 3) := by decide +kernel
theorem dX6_writeDirectory_12 : decode cX6_writeDirectory 12 = .ok (.aload_n 0, 1) := by decide +kernel
theorem dX6_writeDirectory_13 : decode cX6_writeDirectory 13 = .ok (.getfield 28, 3) := by decide +kernel
theorem dX6_writeDirectory_16 : decode cX6_writeDirectory 16 = .ok (.iconst 2, 1) := by decide +kernel
theorem dX6_writeDirectory_17 : decode cX6_writeDirectory 17 = .ok (.iadd, 1) := by decide +kernel
theorem dX6_writeDirectory_18 : decode cX6_writeDirectory 18 = .ok (.sipush 156, 3) := by decide +kernel
theorem dX6_writeDirectory_21 : decode cX6_writeDirectory 21 = .ok (.iadd, 1) := by decide +kernel
theorem dX6_writeDirectory_22 : decode cX6_writeDirectory 22 = .ok (.iconst 4, 1) := by decide +kernel
theorem dX6_writeDirectory_23 : decode cX6_writeDirectory 23 = .ok (.iadd, 1) := by decide +kernel
theorem dX6_writeDirectory_24 : decode cX6_writeDirectory 24 = .ok (.istore 5, 2) := by decide +kernel
theorem dX6_writeDirectory_26 : decode cX6_writeDirectory 26 = .ok (.aload_n 0, 1) := by decide +kernel
theorem dX6_writeDirectory_27 : decode cX6_writeDirectory 27 = .ok (.bipush 13, 2) := by decide +kernel
theorem dX6_writeDirectory_29 : decode cX6_writeDirectory 29 = .ok (.iconst 2, 1) := by decide +kernel
theorem dX6_writeDirectory_30 : decode cX6_writeDirectory 30 = .ok (.invokevirtual 59, 3) := by decide +kernel
theorem dX6_writeDirectory_33 : decode cX6_writeDirectory 33 = .ok (.aload_n 0, 1) := by decide +kernel
theorem dX6_writeDirectory_34 : decode cX6_writeDirectory 34 = .ok (.sipush 256, 3) := by decide +kernel
theorem dX6_writeDirectory_37 : decode cX6_writeDirectory 37 = .ok (.iconst 4, 1) := by decide +kernel
theorem dX6_writeDirectory_38 : decode cX6_writeDirectory 38 = .ok (.iload_n 1, 1) := by decide +kernel
theorem dX6_writeDirectory_39 : decode cX6_writeDirectory 39 = .ok (.invokevirtual 94, 3) := by decide +kernel
theorem dX6_writeDirectory_42 : decode cX6_writeDirectory 42 = .ok (.aload_n 0, 1) := by decide +kernel
theorem dX6_writeDirectory_43 : decode cX6_writeDirectory 43 = .ok (.sipush 257, 3) := by decide +kernel
theorem dX6_writeDirectory_46 : decode cX6_writeDirectory 46 = .ok (.iconst 4, 1) := by decide +kernel
theorem dX6_writeDirectory_47 : decode cX6_writeDirectory 47 = .ok (.iload_n 2, 1) := by decide +kernel
theorem dX6_writeDirectory_48 : decode cX6_writeDirectory 48 = .ok (.invokevirtual 94, 3) := by decide +kernel
theorem dX6_writeDirectory_51 : decode cX6_writeDirectory 51 = .ok (.aload_n 0, 1) := by decide +kernel
theorem dX6_writeDirectory_52 : decode cX6_writeDirectory 52 = .ok (.sipush 258, 3) := by decide +kernel
theorem dX6_writeDirectory_55 : decode cX6_writeDirectory 55 = .ok (.iconst 3, 1) := by decide +kernel
theorem dX6_writeDirectory_56 : decode cX6_writeDirectory 56 = .ok (.iconst 1, 1) := by decide +kernel
theorem dX6_writeDirectory_57 : decode cX6_writeDirectory 57 = .ok (.invokevirtual 94, 3) := by decide +kernel
theorem dX6_writeDirectory_60 : decode cX6_writeDirectory 60 = .ok (.aload_n 0, 1) := by decide +kernel
theorem dX6_writeDirectory_61 : decode cX6_writeDirectory 61 = .ok (.sipush 259, 3) := by decide +kernel
theorem dX6_writeDirectory_64 : decode cX6_writeDirectory 64 = .ok (.iconst 3, 1) := by decide +kernel
theorem dX6_writeDirectory_65 : decode cX6_writeDirectory 65 = .ok (.iconst 4, 1) := by decide +kernel
theorem dX6_writeDirectory_66 : decode cX6_writeDirectory 66 = .ok (.invokevirtual 94, 3) := by decide +kernel
theorem dX6_writeDirectory_69 : decode cX6_writeDirectory 69 = .ok (.aload_n 0, 1) := by decide +kernel
theorem dX6_writeDirectory_70 : decode cX6_writeDirectory 70 = .ok (.sipush 262, 3) := by decide +kernel
theorem dX6_writeDirectory_73 : decode cX6_writeDirectory 73 = .ok (.iconst 3, 1) := by decide +kernel
theorem dX6_writeDirectory_74 : decode cX6_writeDirectory 74 = .ok (.iconst 0, 1) := by decide +kernel
theorem dX6_writeDirectory_75 : decode cX6_writeDirectory 75 = .ok (.invokevirtual 94, 3) := by decide +kernel
theorem dX6_writeDirectory_78 : decode cX6_writeDirectory 78 = .ok (.aload_n 0, 1) := by decide +kernel
theorem dX6_writeDirectory_79 : decode cX6_writeDirectory 79 = .ok (.sipush 273, 3) := by decide +kernel
theorem dX6_writeDirectory_82 : decode cX6_writeDirectory 82 = .ok (.iconst 4, 1) := by decide +kernel
theorem dX6_writeDirectory_83 : decode cX6_writeDirectory 83 = .ok (.iload_n 3, 1) := by decide +kernel
theorem dX6_writeDirectory_84 : decode cX6_writeDirectory 84 = .ok (.invokevirtual 94, 3) := by decide +kernel
theorem dX6_writeDirectory_87 : decode cX6_writeDirectory 87 = .ok (.aload_n 0, 1) := by decide +kernel
theorem dX6_writeDirectory_88 : decode cX6_writeDirectory 88 = .ok (.sipush 277, 3) := by decide +kernel
theorem dX6_writeDirectory_91 : decode cX6_writeDirectory 91 = .ok (.iconst 3, 1) := by decide +kernel
theorem dX6_writeDirectory_92 : decode cX6_writeDirectory 92 = .ok (.iconst 1, 1) := by decide +kernel
theorem dX6_writeDirectory_93 : decode cX6_writeDirectory 93 = .ok (.invokevirtual 94, 3) := by decide +kernel
theorem dX6_writeDirectory_96 : decode cX6_writeDirectory 96 = .ok (.aload_n 0, 1) := by decide +kernel
theorem dX6_writeDirectory_97 : decode cX6_writeDirectory 97 = .ok (.sipush 278, 3) := by decide +kernel
theorem dX6_writeDirectory_100 : decode cX6_writeDirectory 100 = .ok (.iconst 4, 1) := by decide +kernel
theorem dX6_writeDirectory_101 : decode cX6_writeDirectory 101 = .ok (.iload_n 2, 1) := by decide +kernel
theorem dX6_writeDirectory_102 : decode cX6_writeDirectory 102 = .ok (.invokevirtual 94, 3) := by decide +kernel
theorem dX6_writeDirectory_105 : decode cX6_writeDirectory 105 = .ok (.aload_n 0, 1) := by decide +kernel
theorem dX6_writeDirectory_106 : decode cX6_writeDirectory 106 = .ok (.sipush 279, 3) := by decide +kernel
theorem dX6_writeDirectory_109 : decode cX6_writeDirectory 109 = .ok (.iconst 4, 1) := by decide +kernel
theorem dX6_writeDirectory_110 : decode cX6_writeDirectory 110 = .ok (.iload 4, 2) := by decide +kernel
theorem dX6_writeDirectory_112 : decode cX6_writeDirectory 112 = .ok (.invokevirtual 94, 3) := by decide +kernel
theorem dX6_writeDirectory_115 : decode cX6_writeDirectory 115 = .ok (.aload_n 0, 1) := by decide +kernel
theorem dX6_writeDirectory_116 : decode cX6_writeDirectory 116 = .ok (.sipush 282, 3) := by decide +kernel
theorem dX6_writeDirectory_119 : decode cX6_writeDirectory 119 = .ok (.iconst 5, 1) := by decide +kernel
theorem dX6_writeDirectory_120 : decode cX6_writeDirectory 120 = .ok (.iload 5, 2) := by decide +kernel
theorem dX6_writeDirectory_122 : decode cX6_writeDirectory 122 = .ok (.invokevirtual 94, 3) := by decide +kernel
theorem dX6_writeDirectory_125 : decode cX6_writeDirectory 125 = .ok (.aload_n 0, 1) := by decide +kernel
theorem dX6_writeDirectory_126 : decode cX6_writeDirectory 126 = .ok (.sipush 283, 3) := by decide +kernel
theorem dX6_writeDirectory_129 : decode cX6_writeDirectory 129 = .ok (.iconst 5, 1) := by decide +kernel
theorem dX6_writeDirectory_130 : decode cX6_writeDirectory 130 = .ok (.iload 5, 2) := by decide +kernel
theorem dX6_writeDirectory_132 : decode cX6_writeDirectory 132 = .ok (.invokevirtual 94, 3) := by decide +kernel
theorem dX6_writeDirectory_135 : decode cX6_writeDirectory 135 = .ok (.aload_n 0, 1) := by decide +kernel
theorem dX6_writeDirectory_136 : decode cX6_writeDirectory 136 = .ok (.sipush 293, 3) := by decide +kernel
theorem dX6_writeDirectory_139 : decode cX6_writeDirectory 139 = .ok (.iconst 4, 1) := by decide +kernel
theorem dX6_writeDirectory_140 : decode cX6_writeDirectory 140 = .ok (.iconst 0, 1) := by decide +kernel
theorem dX6_writeDirectory_141 : decode cX6_writeDirectory 141 = .ok (.invokevirtual 94, 3) := by decide +kernel
theorem dX6_writeDirectory_144 : decode cX6_writeDirectory 144 = .ok (.aload_n 0, 1) := by decide +kernel
theorem dX6_writeDirectory_145 : decode cX6_writeDirectory 145 = .ok (.sipush 296, 3) := by decide +kernel
theorem dX6_writeDirectory_148 : decode cX6_writeDirectory 148 = .ok (.iconst 3, 1) := by decide +kernel
theorem dX6_writeDirectory_149 : decode cX6_writeDirectory 149 = .ok (.iconst 2, 1) := by decide +kernel
theorem dX6_writeDirectory_150 : decode cX6_writeDirectory 150 = .ok (.invokevirtual 94, 3) := by decide +kernel
theorem dX6_writeDirectory_153 : decode cX6_writeDirectory 153 = .ok (.aload_n 0, 1) := by decide +kernel
theorem dX6_writeDirectory_154 : decode cX6_writeDirectory 154 = .ok (.aload_n 0, 1) := by decide +kernel
theorem dX6_writeDirectory_155 : decode cX6_writeDirectory 155 = .ok (.getfield 28, 3) := by decide +kernel
theorem dX6_writeDirectory_158 : decode cX6_writeDirectory 158 = .ok (.putfield 63, 3) := by decide +kernel
theorem dX6_writeDirectory_161 : decode cX6_writeDirectory 161 = .ok (.aload_n 0, 1) := by decide +kernel
theorem dX6_writeDirectory_162 : decode cX6_writeDirectory 162 = .ok (.iconst 0, 1) := by decide +kernel
theorem dX6_writeDirectory_163 : decode cX6_writeDirectory 163 = .ok (.iconst 4, 1) := by decide +kernel
theorem dX6_writeDirectory_164 : decode cX6_writeDirectory 164 = .ok (.invokevirtual 59, 3) := by decide +kernel
theorem dX6_writeDirectory_167 : decode cX6_writeDirectory 167 = .ok (.aload_n 0, 1) := by decide +kernel
theorem dX6_writeDirectory_168 : decode cX6_writeDirectory 168 = .ok (.bipush 75, 2) := by decide +kernel
theorem dX6_writeDirectory_170 : decode cX6_writeDirectory 170 = .ok (.iconst 4, 1) := by decide +kernel
theorem dX6_writeDirectory_171 : decode cX6_writeDirectory 171 = .ok (.invokevirtual 59, 3) := by decide +kernel
theorem dX6_writeDirectory_174 : decode cX6_writeDirectory 174 = .ok (.aload_n 0, 1) := by decide +kernel
theorem dX6_writeDirectory_175 : decode cX6_writeDirectory 175 = .ok (.iconst 1, 1) := by decide +kernel
theorem dX6_writeDirectory_176 : decode cX6_writeDirectory 176 = .ok (.iconst 4, 1) := by decide +kernel
theorem dX6_writeDirectory_177 : decode cX6_writeDirectory 177 = .ok (.invokevirtual 59, 3) := by decide +kernel
theorem dX6_writeDirectory_180 : decode cX6_writeDirectory 180 = .ok (.return_, 1) := by decide +kernel
noncomputable def f_X6_writeDirectory (p1 : Int32) (p2 : Int32) (p3 : Int32) (p4 : Int32) (T : Mm) : Option (Unit × Mm) :=
  bd (f_X6_setNumber (gI T 607 5) (gI T 601 5) T) fun _ T1 =>
  lb (((((gI T1 601 5) + 2) + 156) + 4)) fun v2 =>
  bd (f_X6_putNumber 13 2 T1) fun _ T3 =>
  bd (f_X6_putEntry 256 4 p1 T3) fun _ T4 =>
  bd (f_X6_putEntry 257 4 p2 T4) fun _ T5 =>
  bd (f_X6_putEntry 258 3 1 T5) fun _ T6 =>
  bd (f_X6_putEntry 259 3 4 T6) fun _ T7 =>
  bd (f_X6_putEntry 262 3 0 T7) fun _ T8 =>
  bd (f_X6_putEntry 273 4 p3 T8) fun _ T9 =>
  bd (f_X6_putEntry 277 3 1 T9) fun _ T10 =>
  bd (f_X6_putEntry 278 4 p2 T10) fun _ T11 =>
  bd (f_X6_putEntry 279 4 p4 T11) fun _ T12 =>
  bd (f_X6_putEntry 282 5 v2 T12) fun _ T13 =>
  bd (f_X6_putEntry 283 5 v2 T13) fun _ T14 =>
  bd (f_X6_putEntry 293 4 0 T14) fun _ T15 =>
  bd (f_X6_putEntry 296 3 2 T15) fun _ T16 =>
  lb (uI T16 607 5 (gI T16 601 5)) fun T17 =>
  bd (f_X6_putNumber 0 4 T17) fun _ T18 =>
  bd (f_X6_putNumber 75 4 T18) fun _ T19 =>
  bd (f_X6_putNumber 1 4 T19) fun _ T20 =>
  some ((), T20)
set_option maxRecDepth 100000 in
set_option maxHeartbeats 4000000 in
theorem s_X6_writeDirectory {ad : Nat → Nat} {U T : Mm} {q : Unit × Mm}  (p1 : Int32) (p2 : Int32) (p3 : Int32) (p4 : Int32) (h : f_X6_writeDirectory p1 p2 p3 p4 T = some q) : Cr 4 yX6_writeDirectory cX6_writeDirectory 6 none [.ref (ad 5), .int p1, .int p2, .int p3, .int p4] ad true U T eV q := by
  refine cr_of (by decide) (Nat.le_of_ble_eq_true rfl) fun x S0 hn9 C M => ?_
  have C : CB x RX6 cX6_writeDirectory := C
  refine Jr.eq (lv' := [(0, .ref (ad 5)), (1, .int p1), (2, .int p2), (3, .int p3), (4, .int p4)]) (st' := []) rfl rfl ?_
  unfold f_X6_writeDirectory at h
  refine r_aload_n C dX6_writeDirectory_0 rfl 0 rfl ?_
  refine r_aload_n C dX6_writeDirectory_1 rfl 0 rfl ?_
  refine r_geti (f := 607) C flX6_63 dX6_writeDirectory_2 kq_5 (by decide) (by decide) rfl ?_
  refine r_aload_n C dX6_writeDirectory_5 rfl 0 rfl ?_
  refine r_geti (f := 601) C flX6_28 dX6_writeDirectory_6 kq_5 (by decide) (by decide) rfl ?_
  show Jr _ _ _ _ _ _ 9 _
  refine r_callVN C M h [.int (gI T 607 5), .int (gI T 601 5)] [] mlX6_91 mcX6_setNumber (fun q9 e9 => s_X6_setNumber (gI T 607 5) (gI T 601 5)  e9) kq_5 rfl (by decide) (by decide) rfl rfl (Nat.le_of_ble_eq_true rfl) dX6_writeDirectory_9 (fun _ T1 h => ?_)
  refine r_aload_n C dX6_writeDirectory_12 rfl 0 rfl ?_
  refine r_geti (f := 601) C flX6_28 dX6_writeDirectory_13 kq_5 (by decide) (by decide) rfl ?_
  refine r_iconst (v := 2) C dX6_writeDirectory_16 (by decide) ?_
  refine r_iadd C dX6_writeDirectory_17 rfl ?_
  refine r_sipush (v := 156) C dX6_writeDirectory_18 (by decide) ?_
  show Jr _ _ _ _ _ _ 21 _
  refine r_iadd C dX6_writeDirectory_21 rfl ?_
  refine r_iconst (v := 4) C dX6_writeDirectory_22 (by decide) ?_
  refine r_iadd C dX6_writeDirectory_23 rfl ?_
  refine r_lbI h (fun v2 h => ?_)
  refine r_istore (lv' := [(5, .int v2), (0, .ref (ad 5)), (1, .int p1), (2, .int p2), (3, .int p3), (4, .int p4)]) C dX6_writeDirectory_24 (by rw [hn9]; decide) rfl ?_
  refine r_aload_n C dX6_writeDirectory_26 rfl 1 rfl ?_
  refine r_bipush (v := 13) C dX6_writeDirectory_27 (by decide) ?_
  show Jr _ _ _ _ _ _ 29 _
  refine r_iconst (v := 2) C dX6_writeDirectory_29 (by decide) ?_
  refine r_callVN C M h [.int 13, .int 2] [] mlX6_59 mcX6_putNumber (fun q9 e9 => s_X6_putNumber 13 2  e9) kq_5 rfl (by decide) (by decide) rfl rfl (Nat.le_of_ble_eq_true rfl) dX6_writeDirectory_30 (fun _ T3 h => ?_)
  refine r_aload_n C dX6_writeDirectory_33 rfl 1 rfl ?_
  refine r_sipush (v := 256) C dX6_writeDirectory_34 (by decide) ?_
  refine r_iconst (v := 4) C dX6_writeDirectory_37 (by decide) ?_
  refine r_iload_n C dX6_writeDirectory_38 rfl 2 rfl ?_
  show Jr _ _ _ _ _ _ 39 _
  refine r_callVN C M h [.int 256, .int 4, .int p1] [] mlX6_94 mcX6_putEntry (fun q9 e9 => s_X6_putEntry 256 4 p1  e9) kq_5 rfl (by decide) (by decide) rfl rfl (Nat.le_of_ble_eq_true rfl) dX6_writeDirectory_39 (fun _ T4 h => ?_)
  refine r_aload_n C dX6_writeDirectory_42 rfl 1 rfl ?_
  refine r_sipush (v := 257) C dX6_writeDirectory_43 (by decide) ?_
  refine r_iconst (v := 4) C dX6_writeDirectory_46 (by decide) ?_
  refine r_iload_n C dX6_writeDirectory_47 rfl 3 rfl ?_
  refine r_callVN C M h [.int 257, .int 4, .int p2] [] mlX6_94 mcX6_putEntry (fun q9 e9 => s_X6_putEntry 257 4 p2  e9) kq_5 rfl (by decide) (by decide) rfl rfl (Nat.le_of_ble_eq_true rfl) dX6_writeDirectory_48 (fun _ T5 h => ?_)
  show Jr _ _ _ _ _ _ 51 _
  refine r_aload_n C dX6_writeDirectory_51 rfl 1 rfl ?_
  refine r_sipush (v := 258) C dX6_writeDirectory_52 (by decide) ?_
  refine r_iconst (v := 3) C dX6_writeDirectory_55 (by decide) ?_
  refine r_iconst (v := 1) C dX6_writeDirectory_56 (by decide) ?_
  refine r_callVN C M h [.int 258, .int 3, .int 1] [] mlX6_94 mcX6_putEntry (fun q9 e9 => s_X6_putEntry 258 3 1  e9) kq_5 rfl (by decide) (by decide) rfl rfl (Nat.le_of_ble_eq_true rfl) dX6_writeDirectory_57 (fun _ T6 h => ?_)
  refine r_aload_n C dX6_writeDirectory_60 rfl 1 rfl ?_
  show Jr _ _ _ _ _ _ 61 _
  refine r_sipush (v := 259) C dX6_writeDirectory_61 (by decide) ?_
  refine r_iconst (v := 3) C dX6_writeDirectory_64 (by decide) ?_
  refine r_iconst (v := 4) C dX6_writeDirectory_65 (by decide) ?_
  refine r_callVN C M h [.int 259, .int 3, .int 4] [] mlX6_94 mcX6_putEntry (fun q9 e9 => s_X6_putEntry 259 3 4  e9) kq_5 rfl (by decide) (by decide) rfl rfl (Nat.le_of_ble_eq_true rfl) dX6_writeDirectory_66 (fun _ T7 h => ?_)
  refine r_aload_n C dX6_writeDirectory_69 rfl 1 rfl ?_
  refine r_sipush (v := 262) C dX6_writeDirectory_70 (by decide) ?_
  show Jr _ _ _ _ _ _ 73 _
  refine r_iconst (v := 3) C dX6_writeDirectory_73 (by decide) ?_
  refine r_iconst (v := 0) C dX6_writeDirectory_74 (by decide) ?_
  refine r_callVN C M h [.int 262, .int 3, .int 0] [] mlX6_94 mcX6_putEntry (fun q9 e9 => s_X6_putEntry 262 3 0  e9) kq_5 rfl (by decide) (by decide) rfl rfl (Nat.le_of_ble_eq_true rfl) dX6_writeDirectory_75 (fun _ T8 h => ?_)
  refine r_aload_n C dX6_writeDirectory_78 rfl 1 rfl ?_
  refine r_sipush (v := 273) C dX6_writeDirectory_79 (by decide) ?_
  refine r_iconst (v := 4) C dX6_writeDirectory_82 (by decide) ?_
  show Jr _ _ _ _ _ _ 83 _
  refine r_iload_n C dX6_writeDirectory_83 rfl 4 rfl ?_
  refine r_callVN C M h [.int 273, .int 4, .int p3] [] mlX6_94 mcX6_putEntry (fun q9 e9 => s_X6_putEntry 273 4 p3  e9) kq_5 rfl (by decide) (by decide) rfl rfl (Nat.le_of_ble_eq_true rfl) dX6_writeDirectory_84 (fun _ T9 h => ?_)
  refine r_aload_n C dX6_writeDirectory_87 rfl 1 rfl ?_
  refine r_sipush (v := 277) C dX6_writeDirectory_88 (by decide) ?_
  refine r_iconst (v := 3) C dX6_writeDirectory_91 (by decide) ?_
  refine r_iconst (v := 1) C dX6_writeDirectory_92 (by decide) ?_
  show Jr _ _ _ _ _ _ 93 _
  refine r_callVN C M h [.int 277, .int 3, .int 1] [] mlX6_94 mcX6_putEntry (fun q9 e9 => s_X6_putEntry 277 3 1  e9) kq_5 rfl (by decide) (by decide) rfl rfl (Nat.le_of_ble_eq_true rfl) dX6_writeDirectory_93 (fun _ T10 h => ?_)
  refine r_aload_n C dX6_writeDirectory_96 rfl 1 rfl ?_
  refine r_sipush (v := 278) C dX6_writeDirectory_97 (by decide) ?_
  refine r_iconst (v := 4) C dX6_writeDirectory_100 (by decide) ?_
  refine r_iload_n C dX6_writeDirectory_101 rfl 3 rfl ?_
  refine r_callVN C M h [.int 278, .int 4, .int p2] [] mlX6_94 mcX6_putEntry (fun q9 e9 => s_X6_putEntry 278 4 p2  e9) kq_5 rfl (by decide) (by decide) rfl rfl (Nat.le_of_ble_eq_true rfl) dX6_writeDirectory_102 (fun _ T11 h => ?_)
  show Jr _ _ _ _ _ _ 105 _
  refine r_aload_n C dX6_writeDirectory_105 rfl 1 rfl ?_
  refine r_sipush (v := 279) C dX6_writeDirectory_106 (by decide) ?_
  refine r_iconst (v := 4) C dX6_writeDirectory_109 (by decide) ?_
  refine r_iload C dX6_writeDirectory_110 5 rfl ?_
  refine r_callVN C M h [.int 279, .int 4, .int p4] [] mlX6_94 mcX6_putEntry (fun q9 e9 => s_X6_putEntry 279 4 p4  e9) kq_5 rfl (by decide) (by decide) rfl rfl (Nat.le_of_ble_eq_true rfl) dX6_writeDirectory_112 (fun _ T12 h => ?_)
  refine r_aload_n C dX6_writeDirectory_115 rfl 1 rfl ?_
  show Jr _ _ _ _ _ _ 116 _
  refine r_sipush (v := 282) C dX6_writeDirectory_116 (by decide) ?_
  refine r_iconst (v := 5) C dX6_writeDirectory_119 (by decide) ?_
  refine r_iload C dX6_writeDirectory_120 0 rfl ?_
  refine r_callVN C M h [.int 282, .int 5, .int v2] [] mlX6_94 mcX6_putEntry (fun q9 e9 => s_X6_putEntry 282 5 v2  e9) kq_5 rfl (by decide) (by decide) rfl rfl (Nat.le_of_ble_eq_true rfl) dX6_writeDirectory_122 (fun _ T13 h => ?_)
  refine r_aload_n C dX6_writeDirectory_125 rfl 1 rfl ?_
  refine r_sipush (v := 283) C dX6_writeDirectory_126 (by decide) ?_
  show Jr _ _ _ _ _ _ 129 _
  refine r_iconst (v := 5) C dX6_writeDirectory_129 (by decide) ?_
  refine r_iload C dX6_writeDirectory_130 0 rfl ?_
  refine r_callVN C M h [.int 283, .int 5, .int v2] [] mlX6_94 mcX6_putEntry (fun q9 e9 => s_X6_putEntry 283 5 v2  e9) kq_5 rfl (by decide) (by decide) rfl rfl (Nat.le_of_ble_eq_true rfl) dX6_writeDirectory_132 (fun _ T14 h => ?_)
  refine r_aload_n C dX6_writeDirectory_135 rfl 1 rfl ?_
  refine r_sipush (v := 293) C dX6_writeDirectory_136 (by decide) ?_
  refine r_iconst (v := 4) C dX6_writeDirectory_139 (by decide) ?_
  show Jr _ _ _ _ _ _ 140 _
  refine r_iconst (v := 0) C dX6_writeDirectory_140 (by decide) ?_
  refine r_callVN C M h [.int 293, .int 4, .int 0] [] mlX6_94 mcX6_putEntry (fun q9 e9 => s_X6_putEntry 293 4 0  e9) kq_5 rfl (by decide) (by decide) rfl rfl (Nat.le_of_ble_eq_true rfl) dX6_writeDirectory_141 (fun _ T15 h => ?_)
  refine r_aload_n C dX6_writeDirectory_144 rfl 1 rfl ?_
  refine r_sipush (v := 296) C dX6_writeDirectory_145 (by decide) ?_
  refine r_iconst (v := 3) C dX6_writeDirectory_148 (by decide) ?_
  refine r_iconst (v := 2) C dX6_writeDirectory_149 (by decide) ?_
  show Jr _ _ _ _ _ _ 150 _
  refine r_callVN C M h [.int 296, .int 3, .int 2] [] mlX6_94 mcX6_putEntry (fun q9 e9 => s_X6_putEntry 296 3 2  e9) kq_5 rfl (by decide) (by decide) rfl rfl (Nat.le_of_ble_eq_true rfl) dX6_writeDirectory_150 (fun _ T16 h => ?_)
  refine r_aload_n C dX6_writeDirectory_153 rfl 1 rfl ?_
  refine r_aload_n C dX6_writeDirectory_154 rfl 1 rfl ?_
  refine r_geti (f := 601) C flX6_28 dX6_writeDirectory_155 kq_5 (by decide) (by decide) rfl ?_
  refine r_puti (f := 607) C flX6_63 (by decide) rfl rfl dX6_writeDirectory_158 kq_5 rfl h (fun T17 h => ?_)
  refine r_aload_n C dX6_writeDirectory_161 rfl 1 rfl ?_
  show Jr _ _ _ _ _ _ 162 _
  refine r_iconst (v := 0) C dX6_writeDirectory_162 (by decide) ?_
  refine r_iconst (v := 4) C dX6_writeDirectory_163 (by decide) ?_
  refine r_callVN C M h [.int 0, .int 4] [] mlX6_59 mcX6_putNumber (fun q9 e9 => s_X6_putNumber 0 4  e9) kq_5 rfl (by decide) (by decide) rfl rfl (Nat.le_of_ble_eq_true rfl) dX6_writeDirectory_164 (fun _ T18 h => ?_)
  refine r_aload_n C dX6_writeDirectory_167 rfl 1 rfl ?_
  refine r_bipush (v := 75) C dX6_writeDirectory_168 (by decide) ?_
  refine r_iconst (v := 4) C dX6_writeDirectory_170 (by decide) ?_
  show Jr _ _ _ _ _ _ 171 _
  refine r_callVN C M h [.int 75, .int 4] [] mlX6_59 mcX6_putNumber (fun q9 e9 => s_X6_putNumber 75 4  e9) kq_5 rfl (by decide) (by decide) rfl rfl (Nat.le_of_ble_eq_true rfl) dX6_writeDirectory_171 (fun _ T19 h => ?_)
  refine r_aload_n C dX6_writeDirectory_174 rfl 1 rfl ?_
  refine r_iconst (v := 1) C dX6_writeDirectory_175 (by decide) ?_
  refine r_iconst (v := 4) C dX6_writeDirectory_176 (by decide) ?_
  refine r_callVN C M h [.int 1, .int 4] [] mlX6_59 mcX6_putNumber (fun q9 e9 => s_X6_putNumber 1 4  e9) kq_5 rfl (by decide) (by decide) rfl rfl (Nat.le_of_ble_eq_true rfl) dX6_writeDirectory_177 (fun _ T20 h => ?_)
  exact r_vret C M dX6_writeDirectory_180 h
theorem dX6_come_0 : decode cX6_come 0 = .ok (.aload_n 0, 1) := by decide +kernel
theorem dX6_come_1 : decode cX6_come 1 = .ok (.getfield 32, 3) := by decide +kernel
theorem dX6_come_4 : decode cX6_come 4 = .ok (.ifCond .lt 12, 3) := by decide +kernel
theorem dX6_come_7 : decode cX6_come 7 = .ok (.aload_n 0, 1) := by decide +kernel
theorem dX6_come_8 : decode cX6_come 8 = .ok (.getfield 32, 3) := by decide +kernel
theorem dX6_come_11 : decode cX6_come 11 = .ok (.bipush 12, 2) := by decide +kernel
theorem dX6_come_13 : decode cX6_come 13 = .ok (.if_icmp .lt 9, 3) := by decide +kernel
theorem dX6_come_16 : decode cX6_come 16 = .ok (.aload_n 0, 1) := by decide +kernel
theorem dX6_come_17 : decode cX6_come 17 = .ok (.iconst 1, 1) := by decide +kernel
theorem dX6_come_18 : decode cX6_come 18 = .ok (.putfield 35, 3) := by decide +kernel
theorem dX6_come_21 : decode cX6_come 21 = .ok (.return_, 1) := by decide +kernel
theorem dX6_come_22 : decode cX6_come 22 = .ok (.aload_n 0, 1) := by decide +kernel
theorem dX6_come_23 : decode cX6_come 23 = .ok (.getfield 32, 3) := by decide +kernel
theorem dX6_come_26 : decode cX6_come 26 = .ok (.ifCond .ne 24, 3) := by decide +kernel
theorem dX6_come_29 : decode cX6_come 29 = .ok (.aload_n 0, 1) := by decide +kernel
theorem dX6_come_30 : decode cX6_come 30 = .ok (.ldc 58, 2) := by decide +kernel
theorem dX6_come_32 : decode cX6_come 32 = .ok (.iconst 4, 1) := by decide +kernel
theorem dX6_come_33 : decode cX6_come 33 = .ok (.invokevirtual 59, 3) := by decide +kernel
theorem dX6_come_36 : decode cX6_come 36 = .ok (.aload_n 0, 1) := by decide +kernel
theorem dX6_come_37 : decode cX6_come 37 = .ok (.aload_n 0, 1) := by decide +kernel
theorem dX6_come_38 : decode cX6_come 38 = .ok (.getfield 28, 3) := by decide +kernel
theorem dX6_come_41 : decode cX6_come 41 = .ok (.putfield 63, 3) := by decide +kernel
theorem dX6_come_44 : decode cX6_come 44 = .ok (.aload_n 0, 1) := by decide +kernel
theorem dX6_come_45 : decode cX6_come 45 = .ok (.iconst 0, 1) := by decide +kernel
theorem dX6_come_46 : decode cX6_come 46 = .ok (.iconst 4, 1) := by decide +kernel
theorem dX6_come_47 : decode cX6_come 47 = .ok (.invokevirtual 59, 3) := by decide +kernel
theorem dX6_come_50 : decode cX6_come 50 = .ok (.aload_n 0, 1) := by decide +kernel
theorem dX6_come_51 : decode cX6_come 51 = .ok (.getfield 28, 3) := by decide +kernel
theorem dX6_come_54 : decode cX6_come 54 = .ok (.istore_n 3, 1) := by decide +kernel
theorem dX6_come_55 : decode cX6_come 55 = .ok (.aload_n 0, 1) := by decide +kernel
theorem dX6_come_56 : decode cX6_come 56 = .ok (.iconst 0, 1) := by decide +kernel
theorem dX6_come_57 : decode cX6_come 57 = .ok (.putfield 66, 3) := by decide +kernel
theorem dX6_come_60 : decode cX6_come 60 = .ok (.aload_n 0, 1) := by decide +kernel
theorem dX6_come_61 : decode cX6_come 61 = .ok (.iconst 0, 1) := by decide +kernel
theorem dX6_come_62 : decode cX6_come 62 = .ok (.putfield 69, 3) := by decide +kernel
theorem dX6_come_65 : decode cX6_come 65 = .ok (.aload_n 0, 1) := by decide +kernel
theorem dX6_come_66 : decode cX6_come 66 = .ok (.invokevirtual 72, 3) := by decide +kernel
theorem dX6_come_69 : decode cX6_come 69 = .ok (.astore 4, 2) := by decide +kernel
theorem dX6_come_71 : decode cX6_come 71 = .ok (.iconst 0, 1) := by decide +kernel
theorem dX6_come_72 : decode cX6_come 72 = .ok (.istore 5, 2) := by decide +kernel
theorem dX6_come_74 : decode cX6_come 74 = .ok (.iload 5, 2) := by decide +kernel
theorem dX6_come_76 : decode cX6_come 76 = .ok (.iload_n 2, 1) := by decide +kernel
theorem dX6_come_77 : decode cX6_come 77 = .ok (.if_icmp .ge 25, 3) := by decide +kernel
theorem dX6_come_80 : decode cX6_come 80 = .ok (.aload_n 0, 1) := by decide +kernel
theorem dX6_come_81 : decode cX6_come 81 = .ok (.getfield 35, 3) := by decide +kernel
theorem dX6_come_84 : decode cX6_come 84 = .ok (.ifCond .ne 18, 3) := by decide +kernel
theorem dX6_come_87 : decode cX6_come 87 = .ok (.aload_n 0, 1) := by decide +kernel
theorem dX6_come_88 : decode cX6_come 88 = .ok (.aload 4, 2) := by decide +kernel
theorem dX6_come_90 : decode cX6_come 90 = .ok (.iload 5, 2) := by decide +kernel
theorem dX6_come_92 : decode cX6_come 92 = .ok (.iload_n 1, 1) := by decide +kernel
theorem dX6_come_93 : decode cX6_come 93 = .ok (.invokevirtual 76, 3) := by decide +kernel
theorem dX6_come_96 : decode cX6_come 96 = .ok (.iinc 5 1, 3) := by decide +kernel
theorem dX6_come_99 : decode cX6_come 99 = .ok (.goto (-25), 3) := by decide +kernel
theorem dX6_come_102 : decode cX6_come 102 = .ok (.aload_n 0, 1) := by decide +kernel
theorem dX6_come_103 : decode cX6_come 103 = .ok (.iconst 1, 1) := by decide +kernel
theorem dX6_come_104 : decode cX6_come 104 = .ok (.bipush 12, 2) := by decide +kernel
theorem dX6_come_106 : decode cX6_come 106 = .ok (.invokevirtual 80, 3) := by decide +kernel
theorem dX6_come_109 : decode cX6_come 109 = .ok (.aload_n 0, 1) := by decide +kernel
theorem dX6_come_110 : decode cX6_come 110 = .ok (.iconst 1, 1) := by decide +kernel
theorem dX6_come_111 : decode cX6_come 111 = .ok (.bipush 12, 2) := by decide +kernel
theorem dX6_come_113 : decode cX6_come 113 = .ok (.invokevirtual 80, 3) := by decide +kernel
theorem dX6_come_116 : decode cX6_come 116 = .ok (.aload_n 0, 1) := by decide +kernel
theorem dX6_come_117 : decode cX6_come 117 = .ok (.iconst 0, 1) := by decide +kernel
theorem dX6_come_118 : decode cX6_come 118 = .ok (.bipush 8, 2) := by decide +kernel
theorem dX6_come_120 : decode cX6_come 120 = .ok (.aload_n 0, 1) := by decide +kernel
theorem dX6_come_121 : decode cX6_come 121 = .ok (.getfield 69, 3) := by decide +kernel
theorem dX6_come_124 : decode cX6_come 124 = .ok (.isub, 1) := by decide +kernel
theorem dX6_come_125 : decode cX6_come 125 = .ok (.bipush 7, 2) := by decide +kernel
theorem dX6_come_127 : decode cX6_come 127 = .ok (.iand, 1) := by decide +kernel
theorem dX6_come_128 : decode cX6_come 128 = .ok (.invokevirtual 80, 3) := by decide +kernel
theorem dX6_come_131 : decode cX6_come 131 = .ok (.aload_n 0, 1) := by decide +kernel
theorem dX6_come_132 : decode cX6_come 132 = .ok (.getfield 28, 3) := by decide +kernel
theorem dX6_come_135 : decode cX6_come 135 = .ok (.iload_n 3, 1) := by decide +kernel
theorem dX6_come_136 : decode cX6_come 136 = .ok (.isub, 1) := by decide +kernel
theorem dX6_come_137 : decode cX6_come 137 = .ok (.istore 5, 2) := by decide +kernel
theorem dX6_come_139 : decode cX6_come 139 = .ok (.iload 5, 2) := by decide +kernel
theorem dX6_come_141 : decode cX6_come 141 = .ok (.iconst 1, 1) := by decide +kernel
theorem dX6_come_142 : decode cX6_come 142 = .ok (.iand, 1) := by decide +kernel
theorem dX6_come_143 : decode cX6_come 143 = .ok (.ifCond .eq 8, 3) := by decide +kernel
theorem dX6_come_146 : decode cX6_come 146 = .ok (.aload_n 0, 1) := by decide +kernel
theorem dX6_come_147 : decode cX6_come 147 = .ok (.iconst 0, 1) := by decide +kernel
theorem dX6_come_148 : decode cX6_come 148 = .ok (.invokevirtual 83, 3) := by decide +kernel
theorem dX6_come_151 : decode cX6_come 151 = .ok (.aload_n 0, 1) := by decide +kernel
theorem dX6_come_152 : decode cX6_come 152 = .ok (.iload_n 1, 1) := by decide +kernel
theorem dX6_come_153 : decode cX6_come 153 = .ok (.iload_n 2, 1) := by decide +kernel
theorem dX6_come_154 : decode cX6_come 154 = .ok (.iload_n 3, 1) := by decide +kernel
theorem dX6_come_155 : decode cX6_come 155 = .ok (.iload 5, 2) := by decide +kernel
theorem dX6_come_157 : decode cX6_come 157 = .ok (.invokevirtual 87, 3) := by decide +kernel
theorem dX6_come_160 : decode cX6_come 160 = .ok (.aload_n 0, 1) := by decide +kernel
theorem dX6_come_161 : decode cX6_come 161 = .ok (.getfield 16, 3) := by decide +kernel
theorem dX6_come_164 : decode cX6_come 164 = .ok (.aload_n 0, 1) := by decide +kernel
theorem dX6_come_165 : decode cX6_come 165 = .ok (.getfield 32, 3) := by decide +kernel
theorem dX6_come_168 : decode cX6_come 168 = .ok (.iload_n 1, 1) := by decide +kernel
theorem dX6_come_169 : decode cX6_come 169 = .ok (.iastore, 1) := by decide +kernel
theorem dX6_come_170 : decode cX6_come 170 = .ok (.aload_n 0, 1) := by decide +kernel
theorem dX6_come_171 : decode cX6_come 171 = .ok (.getfield 20, 3) := by decide +kernel
theorem dX6_come_174 : decode cX6_come 174 = .ok (.aload_n 0, 1) := by decide +kernel
theorem dX6_come_175 : decode cX6_come 175 = .ok (.getfield 32, 3) := by decide +kernel
theorem dX6_come_178 : decode cX6_come 178 = .ok (.iload_n 2, 1) := by decide +kernel
theorem dX6_come_179 : decode cX6_come 179 = .ok (.iastore, 1) := by decide +kernel
theorem dX6_come_180 : decode cX6_come 180 = .ok (.aload_n 0, 1) := by decide +kernel
theorem dX6_come_181 : decode cX6_come 181 = .ok (.dup, 1) := by decide +kernel
theorem dX6_come_182 : decode cX6_come 182 = .ok (.getfield 32, 3) := by decide +kernel
theorem dX6_come_185 : decode cX6_come 185 = .ok (.iconst 1, 1) := by decide +kernel
theorem dX6_come_186 : decode cX6_come 186 = .ok (.iadd, 1) := by decide +kernel
theorem dX6_come_187 : decode cX6_come 187 = .ok (.putfield 32, 3) := by decide +kernel
theorem dX6_come_190 : decode cX6_come 190 = .ok (.return_, 1) := by decide +kernel
noncomputable def f_X6_come_151 (a1 : Int32) (a2 : Int32) (a3 : Int32) (a5 : Int32) (T : Mm) : Option (Unit × Mm) :=
  bd (f_X6_writeDirectory a1 a2 a3 a5 T) fun _ T1 =>
  ix (gI T1 602 5) 12 fun j2 => lb (uA T1 7 j2 (a1)) fun T4 =>
  ix (gI T4 602 5) 12 fun j5 => lb (uA T4 8 j5 (a2)) fun T7 =>
  lb (uI T7 602 5 ((gI T7 602 5) + 1)) fun T8 =>
  some ((), T8)
set_option maxRecDepth 100000 in
set_option maxHeartbeats 4000000 in
theorem s_X6_come_151 {x : JX} {ad : Nat → Nat} {U : Mm} {S0 : Hp} {q : Unit × Mm}  (hn9 : x_n x = 6) (C : CB x RX6 cX6_come) (M : CMr x 6 none S0 ad true U eV q) (a1 : Int32) (a2 : Int32) (a3 : Int32) (a5 : Int32) (T : Mm) (h : f_X6_come_151  a1 a2 a3 a5 T = some q) : Jr x ad true U T [(0, .ref (ad 5)), (1, .int a1), (2, .int a2), (3, .int a3), (5, .int a5)] 151 [] := by
  unfold f_X6_come_151 at h
  refine r_aload_n C dX6_come_151 rfl 0 rfl ?_
  refine r_iload_n C dX6_come_152 rfl 1 rfl ?_
  refine r_iload_n C dX6_come_153 rfl 2 rfl ?_
  refine r_iload_n C dX6_come_154 rfl 3 rfl ?_
  refine r_iload C dX6_come_155 4 rfl ?_
  show Jr _ _ _ _ _ _ 157 _
  refine r_callVN C M h [.int a1, .int a2, .int a3, .int a5] [] mlX6_87 mcX6_writeDirectory (fun q9 e9 => s_X6_writeDirectory a1 a2 a3 a5  e9) kq_5 rfl (by decide) (by decide) rfl rfl (Nat.le_of_ble_eq_true rfl) dX6_come_157 (fun _ T1 h => ?_)
  refine r_aload_n C dX6_come_160 rfl 0 rfl ?_
  refine r_getp (f := 604) (j := 7) C flX6_16 dX6_come_161 kq_5 (by decide) rfl (fun W => pt_604 kq_5 W) ?_
  refine r_aload_n C dX6_come_164 rfl 0 rfl ?_
  refine r_geti (f := 602) C flX6_32 dX6_come_165 kq_5 (by decide) (by decide) rfl ?_
  refine r_iload_n C dX6_come_168 rfl 1 rfl ?_
  show Jr _ _ _ _ _ _ 169 _
  refine r_iast (n := 12) C dX6_come_169 kq_7 lq_7 h (fun j2 T4 hj3 h => ?_)
  refine r_aload_n C dX6_come_170 rfl 0 rfl ?_
  refine r_getp (f := 605) (j := 8) C flX6_20 dX6_come_171 kq_5 (by decide) rfl (fun W => pt_605 kq_5 W) ?_
  refine r_aload_n C dX6_come_174 rfl 0 rfl ?_
  refine r_geti (f := 602) C flX6_32 dX6_come_175 kq_5 (by decide) (by decide) rfl ?_
  refine r_iload_n C dX6_come_178 rfl 2 rfl ?_
  show Jr _ _ _ _ _ _ 179 _
  refine r_iast (n := 12) C dX6_come_179 kq_8 lq_8 h (fun j5 T7 hj6 h => ?_)
  refine r_aload_n C dX6_come_180 rfl 0 rfl ?_
  refine r_dup C dX6_come_181 rfl ?_
  refine r_geti (f := 602) C flX6_32 dX6_come_182 kq_5 (by decide) (by decide) rfl ?_
  refine r_iconst (v := 1) C dX6_come_185 (by decide) ?_
  refine r_iadd C dX6_come_186 rfl ?_
  show Jr _ _ _ _ _ _ 187 _
  refine r_puti (f := 602) C flX6_32 (by decide) rfl rfl dX6_come_187 kq_5 rfl h (fun T8 h => ?_)
  exact r_vret C M dX6_come_190 h
noncomputable def f_X6_come_102 (a1 : Int32) (a2 : Int32) (a3 : Int32) (T : Mm) : Option (Unit × Mm) :=
  bd (f_X6_putBits 1 12 T) fun _ T1 =>
  bd (f_X6_putBits 1 12 T1) fun _ T2 =>
  bd (f_X6_putBits 0 (((8 : Int32) - (gI T2 609 5)) &&& 7) T2) fun _ T3 =>
  lb (((gI T3 601 5) - a3)) fun v4 =>
  if (v4 &&& 1) = 0 then (f_X6_come_151 a1 a2 a3 v4 T3)
  else (bd (f_X6_putByte 0 T3) fun _ T5 =>
  f_X6_come_151 a1 a2 a3 v4 T5)
set_option maxRecDepth 100000 in
set_option maxHeartbeats 4000000 in
theorem s_X6_come_102 {x : JX} {ad : Nat → Nat} {U : Mm} {S0 : Hp} {q : Unit × Mm}  (hn9 : x_n x = 6) (C : CB x RX6 cX6_come) (M : CMr x 6 none S0 ad true U eV q) (a1 : Int32) (a2 : Int32) (a3 : Int32) (T : Mm) (h : f_X6_come_102  a1 a2 a3 T = some q) : Jr x ad true U T [(0, .ref (ad 5)), (1, .int a1), (2, .int a2), (3, .int a3)] 102 [] := by
  unfold f_X6_come_102 at h
  refine r_aload_n C dX6_come_102 rfl 0 rfl ?_
  refine r_iconst (v := 1) C dX6_come_103 (by decide) ?_
  refine r_bipush (v := 12) C dX6_come_104 (by decide) ?_
  refine r_callVN C M h [.int 1, .int 12] [] mlX6_80 mcX6_putBits (fun q9 e9 => s_X6_putBits 1 12  e9) kq_5 rfl (by decide) (by decide) rfl rfl (Nat.le_of_ble_eq_true rfl) dX6_come_106 (fun _ T1 h => ?_)
  refine r_aload_n C dX6_come_109 rfl 0 rfl ?_
  show Jr _ _ _ _ _ _ 110 _
  refine r_iconst (v := 1) C dX6_come_110 (by decide) ?_
  refine r_bipush (v := 12) C dX6_come_111 (by decide) ?_
  refine r_callVN C M h [.int 1, .int 12] [] mlX6_80 mcX6_putBits (fun q9 e9 => s_X6_putBits 1 12  e9) kq_5 rfl (by decide) (by decide) rfl rfl (Nat.le_of_ble_eq_true rfl) dX6_come_113 (fun _ T2 h => ?_)
  refine r_aload_n C dX6_come_116 rfl 0 rfl ?_
  refine r_iconst (v := 0) C dX6_come_117 (by decide) ?_
  refine r_bipush (v := 8) C dX6_come_118 (by decide) ?_
  show Jr _ _ _ _ _ _ 120 _
  refine r_aload_n C dX6_come_120 rfl 0 rfl ?_
  refine r_geti (f := 609) C flX6_69 dX6_come_121 kq_5 (by decide) (by decide) rfl ?_
  refine r_isub C dX6_come_124 rfl ?_
  refine r_bipush (v := 7) C dX6_come_125 (by decide) ?_
  refine r_iand C dX6_come_127 rfl ?_
  refine r_callVN C M h [.int 0, .int (((8 : Int32) - (gI T2 609 5)) &&& 7)] [] mlX6_80 mcX6_putBits (fun q9 e9 => s_X6_putBits 0 (((8 : Int32) - (gI T2 609 5)) &&& 7)  e9) kq_5 rfl (by decide) (by decide) rfl rfl (Nat.le_of_ble_eq_true rfl) dX6_come_128 (fun _ T3 h => ?_)
  show Jr _ _ _ _ _ _ 131 _
  refine r_aload_n C dX6_come_131 rfl 0 rfl ?_
  refine r_geti (f := 601) C flX6_28 dX6_come_132 kq_5 (by decide) (by decide) rfl ?_
  refine r_iload_n C dX6_come_135 rfl 3 rfl ?_
  refine r_isub C dX6_come_136 rfl ?_
  refine r_lbI h (fun v4 h => ?_)
  refine r_istore (lv' := [(5, .int v4), (0, .ref (ad 5)), (1, .int a1), (2, .int a2), (3, .int a3)]) C dX6_come_137 (by rw [hn9]; decide) rfl ?_
  refine r_iload C dX6_come_139 0 rfl ?_
  show Jr _ _ _ _ _ _ 141 _
  refine r_iconst (v := 1) C dX6_come_141 (by decide) ?_
  refine r_iand C dX6_come_142 rfl ?_
  refine r_if_eq (tgt := 151) C dX6_come_143 (by decide) h (fun h => ?_) (fun h => ?_)
  · refine Jr.sub [1, 2, 3, 4, 0] (lv' := [(0, .ref (ad 5)), (1, .int a1), (2, .int a2), (3, .int a3), (5, .int v4)]) rfl ?_
    exact s_X6_come_151 hn9 C M  a1 a2 a3 v4 T3 h
  · refine r_aload_n C dX6_come_146 rfl 1 rfl ?_
    refine r_iconst (v := 0) C dX6_come_147 (by decide) ?_
    refine r_callVN C M h [.int 0] [] mlX6_83 mcX6_putByte (fun q9 e9 => s_X6_putByte 0  e9) kq_5 rfl (by decide) (by decide) rfl rfl (Nat.le_of_ble_eq_true rfl) dX6_come_148 (fun _ T5 h => ?_)
    refine Jr.sub [1, 2, 3, 4, 0] (lv' := [(0, .ref (ad 5)), (1, .int a1), (2, .int a2), (3, .int a3), (5, .int v4)]) rfl ?_
    exact s_X6_come_151 hn9 C M  a1 a2 a3 v4 T5 h
noncomputable def f_X6_come_b74 (k74 : Int32 → Int32 → Int32 → Nat → Int32 → Mm → Option (Unit × Mm)) (a1 : Int32) (a2 : Int32) (a3 : Int32) (a4 : Nat) (a5 : Int32) (T : Mm) : Option (Unit × Mm) :=
  if a2 ≤ a5 then (f_X6_come_102 a1 a2 a3 T)
  else (if (gI T 603 5) = 0 then (bd (f_X6_writeRow a4 a5 a1 T) fun _ T1 =>
  k74 a1 a2 a3 a4 (a5 + 1) T1)
  else (f_X6_come_102 a1 a2 a3 T))
set_option maxRecDepth 100000 in
set_option maxHeartbeats 4000000 in
theorem s_X6_come_b74 {x : JX} {ad : Nat → Nat} {U : Mm} {S0 : Hp} {q : Unit × Mm}  {k74 : Int32 → Int32 → Int32 → Nat → Int32 → Mm → Option (Unit × Mm)} (hn9 : x_n x = 6) (C : CB x RX6 cX6_come) (M : CMr x 6 none S0 ad true U eV q) (hk74 : ∀ (a1 : Int32) (a2 : Int32) (a3 : Int32) (a4 : Nat) (a5 : Int32) (T : Mm) (_ : kS true a4 = 14), k74 a1 a2 a3 a4 a5 T = some q → Jr x ad true U T [(0, .ref (ad 5)), (1, .int a1), (2, .int a2), (3, .int a3), (4, .ref (ad a4)), (5, .int a5)] 74 []) (a1 : Int32) (a2 : Int32) (a3 : Int32) (a4 : Nat) (a5 : Int32) (T : Mm) (ha4 : kS true a4 = 14) (h : f_X6_come_b74 k74 a1 a2 a3 a4 a5 T = some q) : Jr x ad true U T [(0, .ref (ad 5)), (1, .int a1), (2, .int a2), (3, .int a3), (4, .ref (ad a4)), (5, .int a5)] 74 [] := by
  unfold f_X6_come_b74 at h
  refine r_iload C dX6_come_74 5 rfl ?_
  refine r_iload_n C dX6_come_76 rfl 2 rfl ?_
  refine r_ic_ge (tgt := 102) C dX6_come_77 (by decide) h (fun h => ?_) (fun h => ?_)
  · refine Jr.sub [0, 1, 2, 3] (lv' := [(0, .ref (ad 5)), (1, .int a1), (2, .int a2), (3, .int a3)]) rfl ?_
    exact s_X6_come_102 hn9 C M  a1 a2 a3 T h
  · refine r_aload_n C dX6_come_80 rfl 0 rfl ?_
    refine r_geti (f := 603) C flX6_35 dX6_come_81 kq_5 (by decide) (by decide) rfl ?_
    refine r_if_ne (tgt := 102) C dX6_come_84 (by decide) h (fun h => ?_) (fun h => ?_)
    · refine Jr.sub [0, 1, 2, 3] (lv' := [(0, .ref (ad 5)), (1, .int a1), (2, .int a2), (3, .int a3)]) rfl ?_
      exact s_X6_come_102 hn9 C M  a1 a2 a3 T h
    · refine r_aload_n C dX6_come_87 rfl 0 rfl ?_
      refine r_aload C dX6_come_88 4 rfl ?_
      refine r_iload C dX6_come_90 5 rfl ?_
      refine r_iload_n C dX6_come_92 rfl 1 rfl ?_
      refine r_callVN C M h [.ref (ad a4), .int a5, .int a1] [] mlX6_76 mcX6_writeRow (fun q9 e9 => s_X6_writeRow a4 a5 a1 ha4 e9) kq_5 rfl (by decide) (by decide) rfl rfl (Nat.le_of_ble_eq_true rfl) dX6_come_93 (fun _ T1 h => ?_)
      show Jr _ _ _ _ _ _ 96 _
      refine r_iinc (q := 5) (v := (a5 + 1)) (lv' := [(5, .int (a5 + 1)), (0, .ref (ad 5)), (1, .int a1), (2, .int a2), (3, .int a3), (4, .ref (ad a4))]) C dX6_come_96 rfl (by rw [show Int32.ofInt (1) = 1 by decide]) (by rw [hn9]; decide) rfl ?_
      refine r_goto (tgt := 74) C dX6_come_99 (by decide) ?_
      refine Jr.sub [1, 2, 3, 4, 5, 0] (lv' := [(0, .ref (ad 5)), (1, .int a1), (2, .int a2), (3, .int a3), (4, .ref (ad a4)), (5, .int (a5 + 1))]) rfl ?_
      exact hk74 a1 a2 a3 a4 (a5 + 1) T1 ha4 h
noncomputable def f_X6_come_l74 (n : Nat) : Int32 → Int32 → Int32 → Nat → Int32 → Mm → Option (Unit × Mm) := Nat.rec (fun _ _ _ _ _ _ => none) (fun _ ih => f_X6_come_b74 ih) n
theorem s_X6_come_l74 {x : JX} {ad : Nat → Nat} {U : Mm} {S0 : Hp} {q : Unit × Mm}  (hn9 : x_n x = 6) (C : CB x RX6 cX6_come) (M : CMr x 6 none S0 ad true U eV q) : ∀ (n : Nat), ∀ (a1 : Int32) (a2 : Int32) (a3 : Int32) (a4 : Nat) (a5 : Int32) (T : Mm) (_ : kS true a4 = 14), f_X6_come_l74  n a1 a2 a3 a4 a5 T = some q → Jr x ad true U T [(0, .ref (ad 5)), (1, .int a1), (2, .int a2), (3, .int a3), (4, .ref (ad a4)), (5, .int a5)] 74 [] := by
  intro n
  induction n with
  | zero => intro a1 a2 a3 a4 a5 T _ h; exact absurd h (by intro h; cases h)
  | succ n ih => exact fun a1 a2 a3 a4 a5 T ha4 h => s_X6_come_b74 hn9 C M (ih) a1 a2 a3 a4 a5 T ha4 h
noncomputable def f_X6_come_50 (a1 : Int32) (a2 : Int32) (T : Mm) : Option (Unit × Mm) :=
  lb ((gI T 601 5)) fun v1 =>
  lb (uI T 608 5 0) fun T2 =>
  lb (uI T2 609 5 0) fun T3 =>
  bd (f_X6_nextPage T3) fun v4 T5 =>
  gd (kS true v4 = 14) <|
  f_X6_come_l74 FU a1 a2 v1 v4 0 T5
set_option maxRecDepth 100000 in
set_option maxHeartbeats 4000000 in
theorem s_X6_come_50 {x : JX} {ad : Nat → Nat} {U : Mm} {S0 : Hp} {q : Unit × Mm}  (hn9 : x_n x = 6) (C : CB x RX6 cX6_come) (M : CMr x 6 none S0 ad true U eV q) (a1 : Int32) (a2 : Int32) (T : Mm) (h : f_X6_come_50  a1 a2 T = some q) : Jr x ad true U T [(0, .ref (ad 5)), (1, .int a1), (2, .int a2)] 50 [] := by
  unfold f_X6_come_50 at h
  refine r_aload_n C dX6_come_50 rfl 0 rfl ?_
  refine r_geti (f := 601) C flX6_28 dX6_come_51 kq_5 (by decide) (by decide) rfl ?_
  refine r_lbI h (fun v1 h => ?_)
  refine r_istore_n (lv' := [(3, .int v1), (0, .ref (ad 5)), (1, .int a1), (2, .int a2)]) C dX6_come_54 rfl (by rw [hn9]; decide) rfl ?_
  refine r_aload_n C dX6_come_55 rfl 1 rfl ?_
  refine r_iconst (v := 0) C dX6_come_56 (by decide) ?_
  show Jr _ _ _ _ _ _ 57 _
  refine r_puti (f := 608) C flX6_66 (by decide) rfl rfl dX6_come_57 kq_5 rfl h (fun T2 h => ?_)
  refine r_aload_n C dX6_come_60 rfl 1 rfl ?_
  refine r_iconst (v := 0) C dX6_come_61 (by decide) ?_
  refine r_puti (f := 609) C flX6_69 (by decide) rfl rfl dX6_come_62 kq_5 rfl h (fun T3 h => ?_)
  refine r_aload_n C dX6_come_65 rfl 1 rfl ?_
  refine r_callVR C M h [] [] mlX6_72 mcX6_nextPage (fun q9 e9 => s_X6_nextPage   e9) kq_5 rfl (by decide) (by decide) rfl rfl (Nat.le_of_ble_eq_true rfl) dX6_come_66 (fun v4 T5 h => ?_)
  refine r_gd h (fun hk6 h => ?_)
  show Jr _ _ _ _ _ _ 69 _
  refine r_astore (lv' := [(4, .ref (ad v4)), (3, .int v1), (0, .ref (ad 5)), (1, .int a1), (2, .int a2)]) C dX6_come_69 (by rw [hn9]; decide) rfl ?_
  refine r_iconst (v := 0) C dX6_come_71 (by decide) ?_
  refine r_istore (lv' := [(5, .int 0), (4, .ref (ad v4)), (3, .int v1), (0, .ref (ad 5)), (1, .int a1), (2, .int a2)]) C dX6_come_72 (by rw [hn9]; decide) rfl ?_
  refine Jr.sub [3, 4, 5, 2, 1, 0] (lv' := [(0, .ref (ad 5)), (1, .int a1), (2, .int a2), (3, .int v1), (4, .ref (ad v4)), (5, .int 0)]) rfl ?_
  exact s_X6_come_l74 hn9 C M  FU a1 a2 v1 v4 0 T5 hk6 h
noncomputable def f_X6_come (p1 : Int32) (p2 : Int32) (T : Mm) : Option (Unit × Mm) :=
  if (gI T 602 5) < 0 then (lb (uI T 603 5 1) fun T1 =>
  some ((), T1))
  else (if (gI T 602 5) < 12 then (if (gI T 602 5) = 0 then (bd (f_X6_putNumber 2771273 4 T) fun _ T2 =>
  lb (uI T2 607 5 (gI T2 601 5)) fun T3 =>
  bd (f_X6_putNumber 0 4 T3) fun _ T4 =>
  f_X6_come_50 p1 p2 T4)
  else (f_X6_come_50 p1 p2 T))
  else (lb (uI T 603 5 1) fun T5 =>
  some ((), T5)))
set_option maxRecDepth 100000 in
set_option maxHeartbeats 4000000 in
theorem s_X6_come {ad : Nat → Nat} {U T : Mm} {q : Unit × Mm}  (p1 : Int32) (p2 : Int32) (h : f_X6_come p1 p2 T = some q) : Cr 6 yX6_come cX6_come 6 none [.ref (ad 5), .int p1, .int p2] ad true U T eV q := by
  refine cr_of (by decide) (Nat.le_of_ble_eq_true rfl) fun x S0 hn9 C M => ?_
  have C : CB x RX6 cX6_come := C
  refine Jr.eq (lv' := [(0, .ref (ad 5)), (1, .int p1), (2, .int p2)]) (st' := []) rfl rfl ?_
  unfold f_X6_come at h
  refine r_aload_n C dX6_come_0 rfl 0 rfl ?_
  refine r_geti (f := 602) C flX6_32 dX6_come_1 kq_5 (by decide) (by decide) rfl ?_
  refine r_if_lt (tgt := 16) C dX6_come_4 (by decide) h (fun h => ?_) (fun h => ?_)
  · refine r_aload_n C dX6_come_16 rfl 0 rfl ?_
    refine r_iconst (v := 1) C dX6_come_17 (by decide) ?_
    refine r_putz (f := 603) C flX6_35 (by decide) rfl rfl (by decide) dX6_come_18 kq_5 rfl h (fun T1 h => ?_)
    exact r_vret C M dX6_come_21 h
  · refine r_aload_n C dX6_come_7 rfl 0 rfl ?_
    refine r_geti (f := 602) C flX6_32 dX6_come_8 kq_5 (by decide) (by decide) rfl ?_
    refine r_bipush (v := 12) C dX6_come_11 (by decide) ?_
    refine r_ic_lt (tgt := 22) C dX6_come_13 (by decide) h (fun h => ?_) (fun h => ?_)
    · refine r_aload_n C dX6_come_22 rfl 0 rfl ?_
      refine r_geti (f := 602) C flX6_32 dX6_come_23 kq_5 (by decide) (by decide) rfl ?_
      refine r_if_ne (tgt := 50) C dX6_come_26 (by decide) h (fun h => ?_) (fun h => ?_)
      · exact s_X6_come_50 hn9 C M  p1 p2 T h
      · refine r_aload_n C dX6_come_29 rfl 0 rfl ?_
        refine r_ldc (v := 2771273) C dX6_come_30 kcX6_58 ?_
        refine r_iconst (v := 4) C dX6_come_32 (by decide) ?_
        refine r_callVN C M h [.int 2771273, .int 4] [] mlX6_59 mcX6_putNumber (fun q9 e9 => s_X6_putNumber 2771273 4  e9) kq_5 rfl (by decide) (by decide) rfl rfl (Nat.le_of_ble_eq_true rfl) dX6_come_33 (fun _ T2 h => ?_)
        refine r_aload_n C dX6_come_36 rfl 0 rfl ?_
        show Jr _ _ _ _ _ _ 37 _
        refine r_aload_n C dX6_come_37 rfl 0 rfl ?_
        refine r_geti (f := 601) C flX6_28 dX6_come_38 kq_5 (by decide) (by decide) rfl ?_
        refine r_puti (f := 607) C flX6_63 (by decide) rfl rfl dX6_come_41 kq_5 rfl h (fun T3 h => ?_)
        refine r_aload_n C dX6_come_44 rfl 0 rfl ?_
        refine r_iconst (v := 0) C dX6_come_45 (by decide) ?_
        refine r_iconst (v := 4) C dX6_come_46 (by decide) ?_
        show Jr _ _ _ _ _ _ 47 _
        refine r_callVN C M h [.int 0, .int 4] [] mlX6_59 mcX6_putNumber (fun q9 e9 => s_X6_putNumber 0 4  e9) kq_5 rfl (by decide) (by decide) rfl rfl (Nat.le_of_ble_eq_true rfl) dX6_come_47 (fun _ T4 h => ?_)
        exact s_X6_come_50 hn9 C M  p1 p2 T4 h
    · refine r_aload_n C dX6_come_16 rfl 0 rfl ?_
      refine r_iconst (v := 1) C dX6_come_17 (by decide) ?_
      refine r_putz (f := 603) C flX6_35 (by decide) rfl rfl (by decide) dX6_come_18 kq_5 rfl h (fun T5 h => ?_)
      exact r_vret C M dX6_come_21 h
theorem dX9_eject_0 : decode cX9_eject 0 = .ok (.aload_n 0, 1) := by decide +kernel
theorem dX9_eject_1 : decode cX9_eject 1 = .ok (.getfield 111, 3) := by decide +kernel
theorem dX9_eject_4 : decode cX9_eject 4 = .ok (.ifCond .ne 13, 3) := by decide +kernel
theorem dX9_eject_7 : decode cX9_eject 7 = .ok (.aload_n 0, 1) := by decide +kernel
theorem dX9_eject_8 : decode cX9_eject 8 = .ok (.getfield 12, 3) := by decide +kernel
theorem dX9_eject_11 : decode cX9_eject 11 = .ok (.getfield 505, 3) := by decide +kernel
theorem dX9_eject_14 : decode cX9_eject 14 = .ok (.ifCond .ne 4, 3) := by decide +kernel
theorem dX9_eject_17 : decode cX9_eject 17 = .ok (.return_, 1) := by decide +kernel
theorem dX9_eject_18 : decode cX9_eject 18 = .ok (.aload_n 0, 1) := by decide +kernel
theorem dX9_eject_19 : decode cX9_eject 19 = .ok (.getfield 43, 3) := by decide +kernel
theorem dX9_eject_22 : decode cX9_eject 22 = .ok (.aload_n 0, 1) := by decide +kernel
theorem dX9_eject_23 : decode cX9_eject 23 = .ok (.getfield 57, 3) := by decide +kernel
theorem dX9_eject_26 : decode cX9_eject 26 = .ok (.getfield 480, 3) := by decide +kernel
theorem dX9_eject_29 : decode cX9_eject 29 = .ok (.invokevirtual 192, 3) := by decide +kernel
theorem dX9_eject_32 : decode cX9_eject 32 = .ok (.ifCond .eq 81, 3) := by decide +kernel
theorem dX9_eject_35 : decode cX9_eject 35 = .ok (.aload_n 0, 1) := by decide +kernel
theorem dX9_eject_36 : decode cX9_eject 36 = .ok (.getfield 108, 3) := by decide +kernel
theorem dX9_eject_39 : decode cX9_eject 39 = .ok (.iconst 3, 1) := by decide +kernel
theorem dX9_eject_40 : decode cX9_eject 40 = .ok (.if_icmp .ge 73, 3) := by decide +kernel
theorem dX9_eject_43 : decode cX9_eject 43 = .ok (.aload_n 0, 1) := by decide +kernel
theorem dX9_eject_44 : decode cX9_eject 44 = .ok (.getfield 61, 3) := by decide +kernel
theorem dX9_eject_47 : decode cX9_eject 47 = .ok (.aload_n 0, 1) := by decide +kernel
theorem dX9_eject_48 : decode cX9_eject 48 = .ok (.getfield 57, 3) := by decide +kernel
theorem dX9_eject_51 : decode cX9_eject 51 = .ok (.invokevirtual 233, 3) := by decide +kernel
theorem dX9_eject_54 : decode cX9_eject 54 = .ok (.aload_n 0, 1) := by decide +kernel
theorem dX9_eject_55 : decode cX9_eject 55 = .ok (.getfield 57, 3) := by decide +kernel
theorem dX9_eject_58 : decode cX9_eject 58 = .ok (.aload_n 0, 1) := by decide +kernel
theorem dX9_eject_59 : decode cX9_eject 59 = .ok (.getfield 57, 3) := by decide +kernel
theorem dX9_eject_62 : decode cX9_eject 62 = .ok (.getfield 129, 3) := by decide +kernel
theorem dX9_eject_65 : decode cX9_eject 65 = .ok (.getfield 167, 3) := by decide +kernel
theorem dX9_eject_68 : decode cX9_eject 68 = .ok (.aload_n 0, 1) := by decide +kernel
theorem dX9_eject_69 : decode cX9_eject 69 = .ok (.getfield 57, 3) := by decide +kernel
theorem dX9_eject_72 : decode cX9_eject 72 = .ok (.getfield 129, 3) := by decide +kernel
theorem dX9_eject_75 : decode cX9_eject 75 = .ok (.getfield 170, 3) := by decide +kernel
theorem dX9_eject_78 : decode cX9_eject 78 = .ok (.invokevirtual 101, 3) := by decide +kernel
theorem dX9_eject_81 : decode cX9_eject 81 = .ok (.aload_n 0, 1) := by decide +kernel
theorem dX9_eject_82 : decode cX9_eject 82 = .ok (.iconst 1, 1) := by decide +kernel
theorem dX9_eject_83 : decode cX9_eject 83 = .ok (.putfield 111, 3) := by decide +kernel
theorem dX9_eject_86 : decode cX9_eject 86 = .ok (.aload_n 0, 1) := by decide +kernel
theorem dX9_eject_87 : decode cX9_eject 87 = .ok (.aload_n 0, 1) := by decide +kernel
theorem dX9_eject_88 : decode cX9_eject 88 = .ok (.getfield 61, 3) := by decide +kernel
theorem dX9_eject_91 : decode cX9_eject 91 = .ok (.getfield 480, 3) := by decide +kernel
theorem dX9_eject_94 : decode cX9_eject 94 = .ok (.invokevirtual 237, 3) := by decide +kernel
theorem dX9_eject_97 : decode cX9_eject 97 = .ok (.aload_n 0, 1) := by decide +kernel
theorem dX9_eject_98 : decode cX9_eject 98 = .ok (.iconst 0, 1) := by decide +kernel
theorem dX9_eject_99 : decode cX9_eject 99 = .ok (.putfield 111, 3) := by decide +kernel
theorem dX9_eject_102 : decode cX9_eject 102 = .ok (.aload_n 0, 1) := by decide +kernel
theorem dX9_eject_103 : decode cX9_eject 103 = .ok (.getfield 57, 3) := by decide +kernel
theorem dX9_eject_106 : decode cX9_eject 106 = .ok (.aload_n 0, 1) := by decide +kernel
theorem dX9_eject_107 : decode cX9_eject 107 = .ok (.getfield 61, 3) := by decide +kernel
theorem dX9_eject_110 : decode cX9_eject 110 = .ok (.invokevirtual 233, 3) := by decide +kernel
theorem dX9_eject_113 : decode cX9_eject 113 = .ok (.iconst 0, 1) := by decide +kernel
theorem dX9_eject_114 : decode cX9_eject 114 = .ok (.istore_n 1, 1) := by decide +kernel
theorem dX9_eject_115 : decode cX9_eject 115 = .ok (.iload_n 1, 1) := by decide +kernel
theorem dX9_eject_116 : decode cX9_eject 116 = .ok (.aload_n 0, 1) := by decide +kernel
theorem dX9_eject_117 : decode cX9_eject 117 = .ok (.getfield 57, 3) := by decide +kernel
theorem dX9_eject_120 : decode cX9_eject 120 = .ok (.getfield 419, 3) := by decide +kernel
theorem dX9_eject_123 : decode cX9_eject 123 = .ok (.if_icmp .ge 54, 3) := by decide +kernel
theorem dX9_eject_126 : decode cX9_eject 126 = .ok (.aload_n 0, 1) := by decide +kernel
theorem dX9_eject_127 : decode cX9_eject 127 = .ok (.invokevirtual 118, 3) := by decide +kernel
theorem dX9_eject_130 : decode cX9_eject 130 = .ok (.ifCond .ne 47, 3) := by decide +kernel
theorem dX9_eject_133 : decode cX9_eject 133 = .ok (.aload_n 0, 1) := by decide +kernel
theorem dX9_eject_134 : decode cX9_eject 134 = .ok (.getfield 57, 3) := by decide +kernel
theorem dX9_eject_137 : decode cX9_eject 137 = .ok (.getfield 129, 3) := by decide +kernel
theorem dX9_eject_140 : decode cX9_eject 140 = .ok (.astore_n 2, 1) := by decide +kernel
theorem dX9_eject_141 : decode cX9_eject 141 = .ok (.aload_n 0, 1) := by decide +kernel
theorem dX9_eject_142 : decode cX9_eject 142 = .ok (.getfield 12, 3) := by decide +kernel
theorem dX9_eject_145 : decode cX9_eject 145 = .ok (.aload_n 0, 1) := by decide +kernel
theorem dX9_eject_146 : decode cX9_eject 146 = .ok (.getfield 77, 3) := by decide +kernel
theorem dX9_eject_149 : decode cX9_eject 149 = .ok (.invokevirtual 508, 3) := by decide +kernel
theorem dX9_eject_152 : decode cX9_eject 152 = .ok (.aload_n 2, 1) := by decide +kernel
theorem dX9_eject_153 : decode cX9_eject 153 = .ok (.invokevirtual 511, 3) := by decide +kernel
theorem dX9_eject_156 : decode cX9_eject 156 = .ok (.aload_n 0, 1) := by decide +kernel
theorem dX9_eject_157 : decode cX9_eject 157 = .ok (.getfield 77, 3) := by decide +kernel
theorem dX9_eject_160 : decode cX9_eject 160 = .ok (.aload_n 2, 1) := by decide +kernel
theorem dX9_eject_161 : decode cX9_eject 161 = .ok (.invokevirtual 515, 3) := by decide +kernel
theorem dX9_eject_164 : decode cX9_eject 164 = .ok (.aload_n 2, 1) := by decide +kernel
theorem dX9_eject_165 : decode cX9_eject 165 = .ok (.invokevirtual 518, 3) := by decide +kernel
theorem dX9_eject_168 : decode cX9_eject 168 = .ok (.invokevirtual 521, 3) := by decide +kernel
theorem dX9_eject_171 : decode cX9_eject 171 = .ok (.iinc 1 1, 3) := by decide +kernel
theorem dX9_eject_174 : decode cX9_eject 174 = .ok (.goto (-59), 3) := by decide +kernel
theorem dX9_eject_177 : decode cX9_eject 177 = .ok (.aload_n 0, 1) := by decide +kernel
theorem dX9_eject_178 : decode cX9_eject 178 = .ok (.getfield 12, 3) := by decide +kernel
theorem dX9_eject_181 : decode cX9_eject 181 = .ok (.invokevirtual 105, 3) := by decide +kernel
theorem dX9_eject_184 : decode cX9_eject 184 = .ok (.return_, 1) := by decide +kernel
noncomputable def f_X9_eject_b115 (G : Int32 → Mm → Option (Unit × Mm)) (k115 : Int32 → Mm → Option (Unit × Mm)) (a1 : Int32) (T : Mm) : Option (Unit × Mm) :=
  if (gI T 106 45) ≤ a1 then (bd (f_X0_clear T) fun _ T1 =>
  some ((), T1))
  else (bd (f_X9_isMuch T) fun v2 T3 =>
  if v2 = 0 then (bd (f_X6_nextPage T3) fun v5 T6 =>
  gd (kS true v5 = 14) <|
  bd (f_X0_copyTo v5 46 T6) fun _ T8 =>
  bd (f_X7_pageWide 46 T8) fun v9 T10 =>
  bd (f_X7_pageHigh 46 T10) fun v11 T12 =>
  bd (f_X6_come v9 v11 T12) fun _ T13 =>
  k115 (a1 + 1) T13)
  else (bd (f_X0_clear T3) fun _ T4 =>
  some ((), T4)))
set_option maxRecDepth 100000 in
set_option maxHeartbeats 4000000 in
theorem s_X9_eject_b115 {x : JX} {ad : Nat → Nat} {U : Mm} {S0 : Hp} {q : Unit × Mm} {D : Nat} {G : Int32 → Mm → Option (Unit × Mm)}  {k115 : Int32 → Mm → Option (Unit × Mm)} (hn9 : x_n x = 3) (C : CB x RX9 cX9_eject) (M : CMr x (D + 1) none S0 ad true U eV q) (hD : 40 ≤ D) (hG : ∀ (i : Int32) (T : Mm) (q : Unit × Mm), G i T = some q → Cr D yX9_goMacro cX9_goMacro 3 none [.ref (ad 23), .int i] ad true U T eV q) (hk115 : ∀ (a1 : Int32) (T : Mm), k115 a1 T = some q → Jr x ad true U T [(0, .ref (ad 23)), (1, .int a1)] 115 []) (a1 : Int32) (T : Mm) (h : f_X9_eject_b115 G k115 a1 T = some q) : Jr x ad true U T [(0, .ref (ad 23)), (1, .int a1)] 115 [] := by
  unfold f_X9_eject_b115 at h
  refine r_iload_n C dX9_eject_115 rfl 1 rfl ?_
  refine r_aload_n C dX9_eject_116 rfl 0 rfl ?_
  refine r_getp (f := 909) (j := 45) C flX9_57 dX9_eject_117 kq_23 (by decide) rfl (fun W => pt_909 kq_23 W) ?_
  refine r_geti (f := 106) C flX9_419 dX9_eject_120 kq_45 (by decide) (by decide) rfl ?_
  refine r_ic_ge (tgt := 177) C dX9_eject_123 (by decide) h (fun h => ?_) (fun h => ?_)
  · refine r_aload_n C dX9_eject_177 rfl 0 rfl ?_
    refine r_getp (f := 901) (j := 24) C flX9_12 dX9_eject_178 kq_23 (by decide) rfl (fun W => pt_901 kq_23 W) ?_
    refine r_callVN C M h [] [] mlX9_105 mcX0_clear (fun q9 e9 => s_X0_clear   e9) kq_24 rfl (by omega) (by decide) rfl rfl (Nat.le_of_ble_eq_true rfl) dX9_eject_181 (fun _ T1 h => ?_)
    exact r_vret C M dX9_eject_184 h
  · refine r_aload_n C dX9_eject_126 rfl 0 rfl ?_
    refine r_callVI C M h [] [] mlX9_118 mcX9_isMuch (fun q9 e9 => s_X9_isMuch   e9) kq_23 rfl (by omega) (by decide) rfl rfl (Nat.le_of_ble_eq_true rfl) dX9_eject_127 (fun v2 T3 h => ?_)
    refine r_if_ne (tgt := 177) C dX9_eject_130 (by decide) h (fun h => ?_) (fun h => ?_)
    · refine r_aload_n C dX9_eject_177 rfl 0 rfl ?_
      refine r_getp (f := 901) (j := 24) C flX9_12 dX9_eject_178 kq_23 (by decide) rfl (fun W => pt_901 kq_23 W) ?_
      refine r_callVN C M h [] [] mlX9_105 mcX0_clear (fun q9 e9 => s_X0_clear   e9) kq_24 rfl (by omega) (by decide) rfl rfl (Nat.le_of_ble_eq_true rfl) dX9_eject_181 (fun _ T4 h => ?_)
      exact r_vret C M dX9_eject_184 h
    · refine r_aload_n C dX9_eject_133 rfl 0 rfl ?_
      refine r_getp (f := 909) (j := 45) C flX9_57 dX9_eject_134 kq_23 (by decide) rfl (fun W => pt_909 kq_23 W) ?_
      refine r_getp (f := 100) (j := 46) C flX9_129 dX9_eject_137 kq_45 (by decide) rfl (fun W => pt_100 kq_45 W) ?_
      refine r_astore_n (lv' := [(2, .ref (ad 46)), (0, .ref (ad 23)), (1, .int a1)]) C dX9_eject_140 rfl (by rw [hn9]; decide) rfl ?_
      refine r_aload_n C dX9_eject_141 rfl 1 rfl ?_
      show Jr _ _ _ _ _ _ 142 _
      refine r_getp (f := 901) (j := 24) C flX9_12 dX9_eject_142 kq_23 (by decide) rfl (fun W => pt_901 kq_23 W) ?_
      refine r_aload_n C dX9_eject_145 rfl 1 rfl ?_
      refine r_getp (f := 900) (j := 5) C flX9_77 dX9_eject_146 kq_23 (by decide) rfl (fun W => pt_900 kq_23 W) ?_
      refine r_callVR C M h [] [.ref (ad 24)] mlX9_508 mcX6_nextPage (fun q9 e9 => s_X6_nextPage   e9) kq_5 rfl (by omega) (by decide) rfl rfl (Nat.le_of_ble_eq_true rfl) dX9_eject_149 (fun v5 T6 h => ?_)
      refine r_gd h (fun hk7 h => ?_)
      refine r_aload_n C dX9_eject_152 rfl 0 rfl ?_
      refine r_callVN C M h [.ref (ad v5), .ref (ad 46)] [] mlX9_511 mcX0_copyTo (fun q9 e9 => s_X0_copyTo v5 46 hk7 kq_46 e9) kq_24 rfl (by omega) (by decide) rfl rfl (Nat.le_of_ble_eq_true rfl) dX9_eject_153 (fun _ T8 h => ?_)
      show Jr _ _ _ _ _ _ 156 _
      refine r_aload_n C dX9_eject_156 rfl 1 rfl ?_
      refine r_getp (f := 900) (j := 5) C flX9_77 dX9_eject_157 kq_23 (by decide) rfl (fun W => pt_900 kq_23 W) ?_
      refine r_aload_n C dX9_eject_160 rfl 0 rfl ?_
      refine r_callVI C M h [] [.ref (ad 5)] mlX9_515 mcX7_pageWide (fun q9 e9 => s_X7_pageWide 46 kq_46 e9) kq_46 rfl (by omega) (by decide) rfl rfl (Nat.le_of_ble_eq_true rfl) dX9_eject_161 (fun v9 T10 h => ?_)
      refine r_aload_n C dX9_eject_164 rfl 0 rfl ?_
      refine r_callVI C M h [] [.int v9, .ref (ad 5)] mlX9_518 mcX7_pageHigh (fun q9 e9 => s_X7_pageHigh 46 kq_46 e9) kq_46 rfl (by omega) (by decide) rfl rfl (Nat.le_of_ble_eq_true rfl) dX9_eject_165 (fun v11 T12 h => ?_)
      show Jr _ _ _ _ _ _ 168 _
      refine r_callVN C M h [.int v9, .int v11] [] mlX9_521 mcX6_come (fun q9 e9 => s_X6_come v9 v11  e9) kq_5 rfl (by omega) (by decide) rfl rfl (Nat.le_of_ble_eq_true rfl) dX9_eject_168 (fun _ T13 h => ?_)
      refine r_iinc (q := 2) (v := (a1 + 1)) (lv' := [(1, .int (a1 + 1)), (2, .ref (ad 46)), (0, .ref (ad 23))]) C dX9_eject_171 rfl (by rw [show Int32.ofInt (1) = 1 by decide]) (by rw [hn9]; decide) rfl ?_
      refine r_goto (tgt := 115) C dX9_eject_174 (by decide) ?_
      refine Jr.sub [2, 0] (lv' := [(0, .ref (ad 23)), (1, .int (a1 + 1))]) rfl ?_
      exact hk115 (a1 + 1) T13 h
noncomputable def f_X9_eject_l115 (G : Int32 → Mm → Option (Unit × Mm)) (n : Nat) : Int32 → Mm → Option (Unit × Mm) := Nat.rec (fun _ _ => none) (fun _ ih => f_X9_eject_b115 G ih) n
theorem s_X9_eject_l115 {x : JX} {ad : Nat → Nat} {U : Mm} {S0 : Hp} {q : Unit × Mm} {D : Nat} {G : Int32 → Mm → Option (Unit × Mm)}  (hn9 : x_n x = 3) (C : CB x RX9 cX9_eject) (M : CMr x (D + 1) none S0 ad true U eV q) (hD : 40 ≤ D) (hG : ∀ (i : Int32) (T : Mm) (q : Unit × Mm), G i T = some q → Cr D yX9_goMacro cX9_goMacro 3 none [.ref (ad 23), .int i] ad true U T eV q) : ∀ (n : Nat), ∀ (a1 : Int32) (T : Mm), f_X9_eject_l115 G  n a1 T = some q → Jr x ad true U T [(0, .ref (ad 23)), (1, .int a1)] 115 [] := by
  intro n
  induction n with
  | zero => intro a1 T  h; exact absurd h (by intro h; cases h)
  | succ n ih => exact fun a1 T  h => s_X9_eject_b115 hn9 C M hD hG (ih) a1 T  h
noncomputable def f_X9_eject (G : Int32 → Mm → Option (Unit × Mm)) (T : Mm) : Option (Unit × Mm) :=
  if (gI T 915 23) = 0 then (if (gI T 2 24) = 0 then (some ((), T))
  else (bd (f_X8_has 41 (gI T 120 45) T) fun v1 T2 =>
  if v1 = 0 then (f_X9_eject_l115 G FU 0 T2)
  else (if 3 ≤ (gI T2 914 23) then (f_X9_eject_l115 G FU 0 T2)
  else (bd (f_X1_copy 54 45 T2) fun _ T3 =>
  bd (f_X1_reset 45 (gI T3 700 46) (gI T3 701 46) T3) fun _ T4 =>
  lb (uI T4 915 23 1) fun T5 =>
  bd (G (gI T5 120 54) T5) fun _ T6 =>
  lb (uI T6 915 23 0) fun T7 =>
  bd (f_X1_copy 45 54 T7) fun _ T8 =>
  f_X9_eject_l115 G FU 0 T8))))
  else (some ((), T))
set_option maxRecDepth 100000 in
set_option maxHeartbeats 4000000 in
theorem s_X9_eject {ad : Nat → Nat} {U T : Mm} {q : Unit × Mm} {D : Nat} {G : Int32 → Mm → Option (Unit × Mm)}  (hD : 40 ≤ D) (hG : ∀ (i : Int32) (T : Mm) (q : Unit × Mm), G i T = some q → Cr D yX9_goMacro cX9_goMacro 3 none [.ref (ad 23), .int i] ad true U T eV q) (h : f_X9_eject G  T = some q) : Cr (D + 1) yX9_eject cX9_eject 3 none [.ref (ad 23)] ad true U T eV q := by
  refine cr_of (by decide) (Nat.le_of_ble_eq_true rfl) fun x S0 hn9 C M => ?_
  have C : CB x RX9 cX9_eject := C
  refine Jr.eq (lv' := [(0, .ref (ad 23))]) (st' := []) rfl rfl ?_
  unfold f_X9_eject at h
  refine r_aload_n C dX9_eject_0 rfl 0 rfl ?_
  refine r_geti (f := 915) C flX9_111 dX9_eject_1 kq_23 (by decide) (by decide) rfl ?_
  refine r_if_ne (tgt := 17) C dX9_eject_4 (by decide) h (fun h => ?_) (fun h => ?_)
  · exact r_vret C M dX9_eject_17 h
  · refine r_aload_n C dX9_eject_7 rfl 0 rfl ?_
    refine r_getp (f := 901) (j := 24) C flX9_12 dX9_eject_8 kq_23 (by decide) rfl (fun W => pt_901 kq_23 W) ?_
    refine r_geti (f := 2) C flX9_505 dX9_eject_11 kq_24 (by decide) (by decide) rfl ?_
    refine r_if_ne (tgt := 18) C dX9_eject_14 (by decide) h (fun h => ?_) (fun h => ?_)
    · refine r_aload_n C dX9_eject_18 rfl 0 rfl ?_
      refine r_getp (f := 906) (j := 41) C flX9_43 dX9_eject_19 kq_23 (by decide) rfl (fun W => pt_906 kq_23 W) ?_
      refine r_aload_n C dX9_eject_22 rfl 0 rfl ?_
      refine r_getp (f := 909) (j := 45) C flX9_57 dX9_eject_23 kq_23 (by decide) rfl (fun W => pt_909 kq_23 W) ?_
      refine r_geti (f := 120) C flX9_480 dX9_eject_26 kq_45 (by decide) (by decide) rfl ?_
      show Jr _ _ _ _ _ _ 29 _
      refine r_callVI C M h [.int (gI T 120 45)] [] mlX9_192 mcX8_has (fun q9 e9 => s_X8_has 41 (gI T 120 45) kq_41 e9) kq_41 rfl (by omega) (by decide) rfl rfl (Nat.le_of_ble_eq_true rfl) dX9_eject_29 (fun v1 T2 h => ?_)
      refine r_if_eq (tgt := 113) C dX9_eject_32 (by decide) h (fun h => ?_) (fun h => ?_)
      · refine r_iconst (v := 0) C dX9_eject_113 (by decide) ?_
        refine r_istore_n (lv' := [(1, .int 0), (0, .ref (ad 23))]) C dX9_eject_114 rfl (by rw [hn9]; decide) rfl ?_
        refine Jr.sub [1, 0] (lv' := [(0, .ref (ad 23)), (1, .int 0)]) rfl ?_
        exact s_X9_eject_l115 hn9 C M hD hG  FU 0 T2 h
      · refine r_aload_n C dX9_eject_35 rfl 0 rfl ?_
        refine r_geti (f := 914) C flX9_108 dX9_eject_36 kq_23 (by decide) (by decide) rfl ?_
        refine r_iconst (v := 3) C dX9_eject_39 (by decide) ?_
        refine r_ic_ge (tgt := 113) C dX9_eject_40 (by decide) h (fun h => ?_) (fun h => ?_)
        · refine r_iconst (v := 0) C dX9_eject_113 (by decide) ?_
          refine r_istore_n (lv' := [(1, .int 0), (0, .ref (ad 23))]) C dX9_eject_114 rfl (by rw [hn9]; decide) rfl ?_
          refine Jr.sub [1, 0] (lv' := [(0, .ref (ad 23)), (1, .int 0)]) rfl ?_
          exact s_X9_eject_l115 hn9 C M hD hG  FU 0 T2 h
        · refine r_aload_n C dX9_eject_43 rfl 0 rfl ?_
          refine r_getp (f := 910) (j := 54) C flX9_61 dX9_eject_44 kq_23 (by decide) rfl (fun W => pt_910 kq_23 W) ?_
          refine r_aload_n C dX9_eject_47 rfl 0 rfl ?_
          refine r_getp (f := 909) (j := 45) C flX9_57 dX9_eject_48 kq_23 (by decide) rfl (fun W => pt_909 kq_23 W) ?_
          refine r_callVN C M h [.ref (ad 45)] [] mlX9_233 mcX1_copy (fun q9 e9 => s_X1_copy 54 45 kq_54 kq_45 e9) kq_54 rfl (by omega) (by decide) rfl rfl (Nat.le_of_ble_eq_true rfl) dX9_eject_51 (fun _ T3 h => ?_)
          show Jr _ _ _ _ _ _ 54 _
          refine r_aload_n C dX9_eject_54 rfl 0 rfl ?_
          refine r_getp (f := 909) (j := 45) C flX9_57 dX9_eject_55 kq_23 (by decide) rfl (fun W => pt_909 kq_23 W) ?_
          refine r_aload_n C dX9_eject_58 rfl 0 rfl ?_
          refine r_getp (f := 909) (j := 45) C flX9_57 dX9_eject_59 kq_23 (by decide) rfl (fun W => pt_909 kq_23 W) ?_
          refine r_getp (f := 100) (j := 46) C flX9_129 dX9_eject_62 kq_45 (by decide) rfl (fun W => pt_100 kq_45 W) ?_
          refine r_geti (f := 700) C flX9_167 dX9_eject_65 kq_46 (by decide) (by decide) rfl ?_
          show Jr _ _ _ _ _ _ 68 _
          refine r_aload_n C dX9_eject_68 rfl 0 rfl ?_
          refine r_getp (f := 909) (j := 45) C flX9_57 dX9_eject_69 kq_23 (by decide) rfl (fun W => pt_909 kq_23 W) ?_
          refine r_getp (f := 100) (j := 46) C flX9_129 dX9_eject_72 kq_45 (by decide) rfl (fun W => pt_100 kq_45 W) ?_
          refine r_geti (f := 701) C flX9_170 dX9_eject_75 kq_46 (by decide) (by decide) rfl ?_
          refine r_callVN C M h [.int (gI T3 700 46), .int (gI T3 701 46)] [] mlX9_101 mcX1_reset (fun q9 e9 => s_X1_reset 45 (gI T3 700 46) (gI T3 701 46) kq_45 e9) kq_45 rfl (by omega) (by decide) rfl rfl (Nat.le_of_ble_eq_true rfl) dX9_eject_78 (fun _ T4 h => ?_)
          refine r_aload_n C dX9_eject_81 rfl 0 rfl ?_
          show Jr _ _ _ _ _ _ 82 _
          refine r_iconst (v := 1) C dX9_eject_82 (by decide) ?_
          refine r_putz (f := 915) C flX9_111 (by decide) rfl rfl (by decide) dX9_eject_83 kq_23 rfl h (fun T5 h => ?_)
          refine r_aload_n C dX9_eject_86 rfl 0 rfl ?_
          refine r_aload_n C dX9_eject_87 rfl 0 rfl ?_
          refine r_getp (f := 910) (j := 54) C flX9_61 dX9_eject_88 kq_23 (by decide) rfl (fun W => pt_910 kq_23 W) ?_
          refine r_geti (f := 120) C flX9_480 dX9_eject_91 kq_54 (by decide) (by decide) rfl ?_
          show Jr _ _ _ _ _ _ 94 _
          refine r_callVN C M h [.int (gI T5 120 54)] [] mlX9_237 mcX9_goMacro (fun q9 e9 => hG (gI T5 120 54) _ q9 e9) kq_23 rfl (by omega) (by decide) rfl rfl (Nat.le_of_ble_eq_true rfl) dX9_eject_94 (fun _ T6 h => ?_)
          refine r_aload_n C dX9_eject_97 rfl 0 rfl ?_
          refine r_iconst (v := 0) C dX9_eject_98 (by decide) ?_
          refine r_putz (f := 915) C flX9_111 (by decide) rfl rfl (by decide) dX9_eject_99 kq_23 rfl h (fun T7 h => ?_)
          refine r_aload_n C dX9_eject_102 rfl 0 rfl ?_
          refine r_getp (f := 909) (j := 45) C flX9_57 dX9_eject_103 kq_23 (by decide) rfl (fun W => pt_909 kq_23 W) ?_
          show Jr _ _ _ _ _ _ 106 _
          refine r_aload_n C dX9_eject_106 rfl 0 rfl ?_
          refine r_getp (f := 910) (j := 54) C flX9_61 dX9_eject_107 kq_23 (by decide) rfl (fun W => pt_910 kq_23 W) ?_
          refine r_callVN C M h [.ref (ad 54)] [] mlX9_233 mcX1_copy (fun q9 e9 => s_X1_copy 45 54 kq_45 kq_54 e9) kq_45 rfl (by omega) (by decide) rfl rfl (Nat.le_of_ble_eq_true rfl) dX9_eject_110 (fun _ T8 h => ?_)
          refine r_iconst (v := 0) C dX9_eject_113 (by decide) ?_
          refine r_istore_n (lv' := [(1, .int 0), (0, .ref (ad 23))]) C dX9_eject_114 rfl (by rw [hn9]; decide) rfl ?_
          refine Jr.sub [1, 0] (lv' := [(0, .ref (ad 23)), (1, .int 0)]) rfl ?_
          exact s_X9_eject_l115 hn9 C M hD hG  FU 0 T8 h
    · exact r_vret C M dX9_eject_17 h
theorem dX9_form_0 : decode cX9_form 0 = .ok (.aload_n 0, 1) := by decide +kernel
theorem dX9_form_1 : decode cX9_form 1 = .ok (.invokevirtual 240, 3) := by decide +kernel
theorem dX9_form_4 : decode cX9_form 4 = .ok (.aload_n 0, 1) := by decide +kernel
theorem dX9_form_5 : decode cX9_form 5 = .ok (.getfield 57, 3) := by decide +kernel
theorem dX9_form_8 : decode cX9_form 8 = .ok (.getfield 129, 3) := by decide +kernel
theorem dX9_form_11 : decode cX9_form 11 = .ok (.invokevirtual 289, 3) := by decide +kernel
theorem dX9_form_14 : decode cX9_form 14 = .ok (.return_, 1) := by decide +kernel
noncomputable def f_X9_form (G : Int32 → Mm → Option (Unit × Mm)) (T : Mm) : Option (Unit × Mm) :=
  bd (f_X9_eject G T) fun _ T1 =>
  bd (f_X7_homeY 46 T1) fun _ T2 =>
  some ((), T2)
set_option maxRecDepth 100000 in
set_option maxHeartbeats 4000000 in
theorem s_X9_form {ad : Nat → Nat} {U T : Mm} {q : Unit × Mm} {D : Nat} {G : Int32 → Mm → Option (Unit × Mm)}  (hD : 40 ≤ D) (hG : ∀ (i : Int32) (T : Mm) (q : Unit × Mm), G i T = some q → Cr D yX9_goMacro cX9_goMacro 3 none [.ref (ad 23), .int i] ad true U T eV q) (h : f_X9_form G  T = some q) : Cr (D + 2) yX9_form cX9_form 1 none [.ref (ad 23)] ad true U T eV q := by
  refine cr_of (by decide) (Nat.le_of_ble_eq_true rfl) fun x S0 hn9 C M => ?_
  have C : CB x RX9 cX9_form := C
  refine Jr.eq (lv' := [(0, .ref (ad 23))]) (st' := []) rfl rfl ?_
  unfold f_X9_form at h
  refine r_aload_n C dX9_form_0 rfl 0 rfl ?_
  refine r_callVN C M h [] [] mlX9_240 mcX9_eject (fun q9 e9 => s_X9_eject hD (fun i9 T9 q9 e9 => hG i9 T9 q9 e9)   e9) kq_23 rfl (by omega) (by decide) rfl rfl (Nat.le_of_ble_eq_true rfl) dX9_form_1 (fun _ T1 h => ?_)
  refine r_aload_n C dX9_form_4 rfl 0 rfl ?_
  refine r_getp (f := 909) (j := 45) C flX9_57 dX9_form_5 kq_23 (by decide) rfl (fun W => pt_909 kq_23 W) ?_
  refine r_getp (f := 100) (j := 46) C flX9_129 dX9_form_8 kq_45 (by decide) rfl (fun W => pt_100 kq_45 W) ?_
  show Jr _ _ _ _ _ _ 11 _
  refine r_callVN C M h [] [] mlX9_289 mcX7_homeY (fun q9 e9 => s_X7_homeY 46 kq_46 e9) kq_46 rfl (by omega) (by decide) rfl rfl (Nat.le_of_ble_eq_true rfl) dX9_form_11 (fun _ T2 h => ?_)
  exact r_vret C M dX9_form_14 h
theorem dX9_line_0 : decode cX9_line 0 = .ok (.aload_n 0, 1) := by decide +kernel
theorem dX9_line_1 : decode cX9_line 1 = .ok (.getfield 57, 3) := by decide +kernel
theorem dX9_line_4 : decode cX9_line 4 = .ok (.getfield 129, 3) := by decide +kernel
theorem dX9_line_7 : decode cX9_line 7 = .ok (.astore_n 2, 1) := by decide +kernel
theorem dX9_line_8 : decode cX9_line 8 = .ok (.aload_n 2, 1) := by decide +kernel
theorem dX9_line_9 : decode cX9_line 9 = .ok (.getfield 138, 3) := by decide +kernel
theorem dX9_line_12 : decode cX9_line 12 = .ok (.iload_n 1, 1) := by decide +kernel
theorem dX9_line_13 : decode cX9_line 13 = .ok (.iadd, 1) := by decide +kernel
theorem dX9_line_14 : decode cX9_line 14 = .ok (.aload_n 0, 1) := by decide +kernel
theorem dX9_line_15 : decode cX9_line 15 = .ok (.getfield 57, 3) := by decide +kernel
theorem dX9_line_18 : decode cX9_line 18 = .ok (.getfield 280, 3) := by decide +kernel
theorem dX9_line_21 : decode cX9_line 21 = .ok (.ifCond .eq 10, 3) := by decide +kernel
theorem dX9_line_24 : decode cX9_line 24 = .ok (.aload_n 2, 1) := by decide +kernel
theorem dX9_line_25 : decode cX9_line 25 = .ok (.getfield 156, 3) := by decide +kernel
theorem dX9_line_28 : decode cX9_line 28 = .ok (.goto 7, 3) := by decide +kernel
theorem dX9_line_31 : decode cX9_line 31 = .ok (.aload_n 2, 1) := by decide +kernel
theorem dX9_line_32 : decode cX9_line 32 = .ok (.invokevirtual 283, 3) := by decide +kernel
theorem dX9_line_35 : decode cX9_line 35 = .ok (.if_icmp .le 10, 3) := by decide +kernel
theorem dX9_line_38 : decode cX9_line 38 = .ok (.aload_n 0, 1) := by decide +kernel
theorem dX9_line_39 : decode cX9_line 39 = .ok (.invokevirtual 259, 3) := by decide +kernel
theorem dX9_line_42 : decode cX9_line 42 = .ok (.goto 14, 3) := by decide +kernel
theorem dX9_line_45 : decode cX9_line 45 = .ok (.aload_n 2, 1) := by decide +kernel
theorem dX9_line_46 : decode cX9_line 46 = .ok (.aload_n 2, 1) := by decide +kernel
theorem dX9_line_47 : decode cX9_line 47 = .ok (.getfield 138, 3) := by decide +kernel
theorem dX9_line_50 : decode cX9_line 50 = .ok (.iload_n 1, 1) := by decide +kernel
theorem dX9_line_51 : decode cX9_line 51 = .ok (.iadd, 1) := by decide +kernel
theorem dX9_line_52 : decode cX9_line 52 = .ok (.i2l, 1) := by decide +kernel
theorem dX9_line_53 : decode cX9_line 53 = .ok (.invokevirtual 286, 3) := by decide +kernel
theorem dX9_line_56 : decode cX9_line 56 = .ok (.return_, 1) := by decide +kernel
noncomputable def f_X9_line_35 (G : Int32 → Mm → Option (Unit × Mm)) (a1 : Int32) (b0 : Int32) (b1 : Int32) (T : Mm) : Option (Unit × Mm) :=
  if b1 ≤ b0 then (bd (f_X7_moveY 46 ((((gI T 707 46) + a1)).toInt64) T) fun _ T1 =>
  some ((), T1))
  else (bd (f_X9_form G T) fun _ T2 =>
  some ((), T2))
set_option maxRecDepth 100000 in
set_option maxHeartbeats 4000000 in
theorem s_X9_line_35 {x : JX} {ad : Nat → Nat} {U : Mm} {S0 : Hp} {q : Unit × Mm} {D : Nat} {G : Int32 → Mm → Option (Unit × Mm)}  (hn9 : x_n x = 3) (C : CB x RX9 cX9_line) (M : CMr x (D + 3) none S0 ad true U eV q) (hD : 40 ≤ D) (hG : ∀ (i : Int32) (T : Mm) (q : Unit × Mm), G i T = some q → Cr D yX9_goMacro cX9_goMacro 3 none [.ref (ad 23), .int i] ad true U T eV q) (a1 : Int32) (b0 : Int32) (b1 : Int32) (T : Mm) (h : f_X9_line_35 G  a1 b0 b1 T = some q) : Jr x ad true U T [(0, .ref (ad 23)), (1, .int a1), (2, .ref (ad 46))] 35 [.int b0, .int b1] := by
  unfold f_X9_line_35 at h
  refine r_ic_le (tgt := 45) C dX9_line_35 (by decide) h (fun h => ?_) (fun h => ?_)
  · refine r_aload_n C dX9_line_45 rfl 2 rfl ?_
    refine r_aload_n C dX9_line_46 rfl 2 rfl ?_
    refine r_geti (f := 707) C flX9_138 dX9_line_47 kq_46 (by decide) (by decide) rfl ?_
    refine r_iload_n C dX9_line_50 rfl 1 rfl ?_
    refine r_iadd C dX9_line_51 rfl ?_
    show Jr _ _ _ _ _ _ 52 _
    refine r_i2l C dX9_line_52 rfl ?_
    refine r_callVN C M h [.long ((((gI T 707 46) + a1)).toInt64)] [] mlX9_286 mcX7_moveY (fun q9 e9 => s_X7_moveY 46 ((((gI T 707 46) + a1)).toInt64) kq_46 e9) kq_46 rfl (by omega) (by decide) rfl rfl (Nat.le_of_ble_eq_true rfl) dX9_line_53 (fun _ T1 h => ?_)
    exact r_vret C M dX9_line_56 h
  · refine r_aload_n C dX9_line_38 rfl 0 rfl ?_
    refine r_callVN C M h [] [] mlX9_259 mcX9_form (fun q9 e9 => s_X9_form hD (fun i9 T9 q9 e9 => hG i9 T9 q9 e9)   e9) kq_23 rfl (by omega) (by decide) rfl rfl (Nat.le_of_ble_eq_true rfl) dX9_line_39 (fun _ T2 h => ?_)
    refine r_goto (tgt := 56) C dX9_line_42 (by decide) ?_
    exact r_vret C M dX9_line_56 h
noncomputable def f_X9_line (G : Int32 → Mm → Option (Unit × Mm)) (p1 : Int32) (T : Mm) : Option (Unit × Mm) :=
  if (gI T 107 45) = 0 then (bd (f_X7_down 46 T) fun v1 T2 =>
  f_X9_line_35 G p1 v1 ((gI T 707 46) + p1) T2)
  else (f_X9_line_35 G p1 (gI T 705 46) ((gI T 707 46) + p1) T)
set_option maxRecDepth 100000 in
set_option maxHeartbeats 4000000 in
theorem s_X9_line {ad : Nat → Nat} {U T : Mm} {q : Unit × Mm} {D : Nat} {G : Int32 → Mm → Option (Unit × Mm)}  (hD : 40 ≤ D) (hG : ∀ (i : Int32) (T : Mm) (q : Unit × Mm), G i T = some q → Cr D yX9_goMacro cX9_goMacro 3 none [.ref (ad 23), .int i] ad true U T eV q) (p1 : Int32) (h : f_X9_line G p1 T = some q) : Cr (D + 3) yX9_line cX9_line 3 none [.ref (ad 23), .int p1] ad true U T eV q := by
  refine cr_of (by decide) (Nat.le_of_ble_eq_true rfl) fun x S0 hn9 C M => ?_
  have C : CB x RX9 cX9_line := C
  refine Jr.eq (lv' := [(0, .ref (ad 23)), (1, .int p1)]) (st' := []) rfl rfl ?_
  unfold f_X9_line at h
  refine r_aload_n C dX9_line_0 rfl 0 rfl ?_
  refine r_getp (f := 909) (j := 45) C flX9_57 dX9_line_1 kq_23 (by decide) rfl (fun W => pt_909 kq_23 W) ?_
  refine r_getp (f := 100) (j := 46) C flX9_129 dX9_line_4 kq_45 (by decide) rfl (fun W => pt_100 kq_45 W) ?_
  refine r_astore_n (lv' := [(2, .ref (ad 46)), (0, .ref (ad 23)), (1, .int p1)]) C dX9_line_7 rfl (by rw [hn9]; decide) rfl ?_
  refine r_aload_n C dX9_line_8 rfl 0 rfl ?_
  show Jr _ _ _ _ _ _ 9 _
  refine r_geti (f := 707) C flX9_138 dX9_line_9 kq_46 (by decide) (by decide) rfl ?_
  refine r_iload_n C dX9_line_12 rfl 2 rfl ?_
  refine r_iadd C dX9_line_13 rfl ?_
  refine r_aload_n C dX9_line_14 rfl 1 rfl ?_
  refine r_getp (f := 909) (j := 45) C flX9_57 dX9_line_15 kq_23 (by decide) rfl (fun W => pt_909 kq_23 W) ?_
  refine r_geti (f := 107) C flX9_280 dX9_line_18 kq_45 (by decide) (by decide) rfl ?_
  show Jr _ _ _ _ _ _ 21 _
  refine r_if_eq (tgt := 31) C dX9_line_21 (by decide) h (fun h => ?_) (fun h => ?_)
  · refine r_aload_n C dX9_line_31 rfl 0 rfl ?_
    refine r_callVI C M h [] [.int ((gI T 707 46) + p1)] mlX9_283 mcX7_down (fun q9 e9 => s_X7_down 46 kq_46 e9) kq_46 rfl (by omega) (by decide) rfl rfl (Nat.le_of_ble_eq_true rfl) dX9_line_32 (fun v1 T2 h => ?_)
    refine Jr.sub [1, 2, 0] (lv' := [(0, .ref (ad 23)), (1, .int p1), (2, .ref (ad 46))]) rfl ?_
    exact s_X9_line_35 hn9 C M hD hG  p1 v1 ((gI T 707 46) + p1) T2 h
  · refine r_aload_n C dX9_line_24 rfl 0 rfl ?_
    refine r_geti (f := 705) C flX9_156 dX9_line_25 kq_46 (by decide) (by decide) rfl ?_
    refine r_goto (tgt := 35) C dX9_line_28 (by decide) ?_
    refine Jr.sub [1, 2, 0] (lv' := [(0, .ref (ad 23)), (1, .int p1), (2, .ref (ad 46))]) rfl ?_
    exact s_X9_line_35 hn9 C M hD hG  p1 (gI T 705 46) ((gI T 707 46) + p1) T h
theorem dX9_carriageReturn_0 : decode cX9_carriageReturn 0 = .ok (.aload_n 0, 1) := by decide +kernel
theorem dX9_carriageReturn_1 : decode cX9_carriageReturn 1 = .ok (.getfield 57, 3) := by decide +kernel
theorem dX9_carriageReturn_4 : decode cX9_carriageReturn 4 = .ok (.getfield 129, 3) := by decide +kernel
theorem dX9_carriageReturn_7 : decode cX9_carriageReturn 7 = .ok (.aload_n 0, 1) := by decide +kernel
theorem dX9_carriageReturn_8 : decode cX9_carriageReturn 8 = .ok (.getfield 57, 3) := by decide +kernel
theorem dX9_carriageReturn_11 : decode cX9_carriageReturn 11 = .ok (.getfield 129, 3) := by decide +kernel
theorem dX9_carriageReturn_14 : decode cX9_carriageReturn 14 = .ok (.getfield 147, 3) := by decide +kernel
theorem dX9_carriageReturn_17 : decode cX9_carriageReturn 17 = .ok (.i2l, 1) := by decide +kernel
theorem dX9_carriageReturn_18 : decode cX9_carriageReturn 18 = .ok (.invokevirtual 246, 3) := by decide +kernel
theorem dX9_carriageReturn_21 : decode cX9_carriageReturn 21 = .ok (.return_, 1) := by decide +kernel
noncomputable def f_X9_carriageReturn (T : Mm) : Option (Unit × Mm) :=
  bd (f_X7_moveX 46 (((gI T 702 46)).toInt64) T) fun _ T1 =>
  some ((), T1)
set_option maxRecDepth 100000 in
set_option maxHeartbeats 4000000 in
theorem s_X9_carriageReturn {ad : Nat → Nat} {U T : Mm} {q : Unit × Mm}  (h : f_X9_carriageReturn  T = some q) : Cr 3 yX9_carriageReturn cX9_carriageReturn 1 none [.ref (ad 23)] ad true U T eV q := by
  refine cr_of (by decide) (Nat.le_of_ble_eq_true rfl) fun x S0 hn9 C M => ?_
  have C : CB x RX9 cX9_carriageReturn := C
  refine Jr.eq (lv' := [(0, .ref (ad 23))]) (st' := []) rfl rfl ?_
  unfold f_X9_carriageReturn at h
  refine r_aload_n C dX9_carriageReturn_0 rfl 0 rfl ?_
  refine r_getp (f := 909) (j := 45) C flX9_57 dX9_carriageReturn_1 kq_23 (by decide) rfl (fun W => pt_909 kq_23 W) ?_
  refine r_getp (f := 100) (j := 46) C flX9_129 dX9_carriageReturn_4 kq_45 (by decide) rfl (fun W => pt_100 kq_45 W) ?_
  refine r_aload_n C dX9_carriageReturn_7 rfl 0 rfl ?_
  refine r_getp (f := 909) (j := 45) C flX9_57 dX9_carriageReturn_8 kq_23 (by decide) rfl (fun W => pt_909 kq_23 W) ?_
  show Jr _ _ _ _ _ _ 11 _
  refine r_getp (f := 100) (j := 46) C flX9_129 dX9_carriageReturn_11 kq_45 (by decide) rfl (fun W => pt_100 kq_45 W) ?_
  refine r_geti (f := 702) C flX9_147 dX9_carriageReturn_14 kq_46 (by decide) (by decide) rfl ?_
  refine r_i2l C dX9_carriageReturn_17 rfl ?_
  refine r_callVN C M h [.long (((gI T 702 46)).toInt64)] [] mlX9_246 mcX7_moveX (fun q9 e9 => s_X7_moveX 46 (((gI T 702 46)).toInt64) kq_46 e9) kq_46 rfl (by decide) (by decide) rfl rfl (Nat.le_of_ble_eq_true rfl) dX9_carriageReturn_18 (fun _ T1 h => ?_)
  exact r_vret C M dX9_carriageReturn_21 h
theorem dX9_endWithReturn_0 : decode cX9_endWithReturn 0 = .ok (.aload_n 0, 1) := by decide +kernel
theorem dX9_endWithReturn_1 : decode cX9_endWithReturn 1 = .ok (.getfield 57, 3) := by decide +kernel
theorem dX9_endWithReturn_4 : decode cX9_endWithReturn 4 = .ok (.getfield 265, 3) := by decide +kernel
theorem dX9_endWithReturn_7 : decode cX9_endWithReturn 7 = .ok (.iconst 2, 1) := by decide +kernel
theorem dX9_endWithReturn_8 : decode cX9_endWithReturn 8 = .ok (.iand, 1) := by decide +kernel
theorem dX9_endWithReturn_9 : decode cX9_endWithReturn 9 = .ok (.ifCond .eq 7, 3) := by decide +kernel
theorem dX9_endWithReturn_12 : decode cX9_endWithReturn 12 = .ok (.aload_n 0, 1) := by decide +kernel
theorem dX9_endWithReturn_13 : decode cX9_endWithReturn 13 = .ok (.invokevirtual 262, 3) := by decide +kernel
theorem dX9_endWithReturn_16 : decode cX9_endWithReturn 16 = .ok (.return_, 1) := by decide +kernel
noncomputable def f_X9_endWithReturn (T : Mm) : Option (Unit × Mm) :=
  if ((gI T 108 45) &&& 2) = 0 then (some ((), T))
  else (bd (f_X9_carriageReturn T) fun _ T1 =>
  some ((), T1))
set_option maxRecDepth 100000 in
set_option maxHeartbeats 4000000 in
theorem s_X9_endWithReturn {ad : Nat → Nat} {U T : Mm} {q : Unit × Mm}  (h : f_X9_endWithReturn  T = some q) : Cr 4 yX9_endWithReturn cX9_endWithReturn 1 none [.ref (ad 23)] ad true U T eV q := by
  refine cr_of (by decide) (Nat.le_of_ble_eq_true rfl) fun x S0 hn9 C M => ?_
  have C : CB x RX9 cX9_endWithReturn := C
  refine Jr.eq (lv' := [(0, .ref (ad 23))]) (st' := []) rfl rfl ?_
  unfold f_X9_endWithReturn at h
  refine r_aload_n C dX9_endWithReturn_0 rfl 0 rfl ?_
  refine r_getp (f := 909) (j := 45) C flX9_57 dX9_endWithReturn_1 kq_23 (by decide) rfl (fun W => pt_909 kq_23 W) ?_
  refine r_geti (f := 108) C flX9_265 dX9_endWithReturn_4 kq_45 (by decide) (by decide) rfl ?_
  refine r_iconst (v := 2) C dX9_endWithReturn_7 (by decide) ?_
  refine r_iand C dX9_endWithReturn_8 rfl ?_
  show Jr _ _ _ _ _ _ 9 _
  refine r_if_eq (tgt := 16) C dX9_endWithReturn_9 (by decide) h (fun h => ?_) (fun h => ?_)
  · exact r_vret C M dX9_endWithReturn_16 h
  · refine r_aload_n C dX9_endWithReturn_12 rfl 0 rfl ?_
    refine r_callVN C M h [] [] mlX9_262 mcX9_carriageReturn (fun q9 e9 => s_X9_carriageReturn   e9) kq_23 rfl (by decide) (by decide) rfl rfl (Nat.le_of_ble_eq_true rfl) dX9_endWithReturn_13 (fun _ T1 h => ?_)
    exact r_vret C M dX9_endWithReturn_16 h
theorem dX1_wishes_0 : decode cX1_wishes 0 = .ok (.aload_n 0, 1) := by decide +kernel
theorem dX1_wishes_1 : decode cX1_wishes 1 = .ok (.getfield 57, 3) := by decide +kernel
theorem dX1_wishes_4 : decode cX1_wishes 4 = .ok (.ifCond .eq 10, 3) := by decide +kernel
theorem dX1_wishes_7 : decode cX1_wishes 7 = .ok (.aload_n 0, 1) := by decide +kernel
theorem dX1_wishes_8 : decode cX1_wishes 8 = .ok (.getfield 38, 3) := by decide +kernel
theorem dX1_wishes_11 : decode cX1_wishes 11 = .ok (.goto 7, 3) := by decide +kernel
theorem dX1_wishes_14 : decode cX1_wishes 14 = .ok (.aload_n 0, 1) := by decide +kernel
theorem dX1_wishes_15 : decode cX1_wishes 15 = .ok (.getfield 34, 3) := by decide +kernel
theorem dX1_wishes_18 : decode cX1_wishes 18 = .ok (.areturn, 1) := by decide +kernel
noncomputable def f_X1_wishes (p0 : Nat) (T : Mm) : Option (Nat × Mm) :=
  if (gI T 105 p0) = 0 then (some ((p0 + 7), T))
  else (some ((p0 + 8), T))
set_option maxRecDepth 100000 in
set_option maxHeartbeats 4000000 in
theorem s_X1_wishes {ad : Nat → Nat} {U T : Mm} {q : Nat × Mm}  (p0 : Nat) (hk0 : kS true p0 = 1) (h : f_X1_wishes p0 T = some q) : Cr 1 yX1_wishes cX1_wishes 1 (some (.array .int)) [.ref (ad p0)] ad true U T (eR ad) q := by
  refine cr_of (by decide) (Nat.le_of_ble_eq_true rfl) fun x S0 hn9 C M => ?_
  have C : CB x RX1 cX1_wishes := C
  refine Jr.eq (lv' := [(0, .ref (ad p0))]) (st' := []) rfl rfl ?_
  unfold f_X1_wishes at h
  refine r_aload_n C dX1_wishes_0 rfl 0 rfl ?_
  refine r_geti (f := 105) C flX1_57 dX1_wishes_1 hk0 (by decide) (by decide) rfl ?_
  refine r_if_eq (tgt := 14) C dX1_wishes_4 (by decide) h (fun h => ?_) (fun h => ?_)
  · refine r_aload_n C dX1_wishes_14 rfl 0 rfl ?_
    refine r_getp (f := 103) (j := (p0 + 7)) C flX1_34 dX1_wishes_15 hk0 (by decide) rfl (fun W => pt_103 hk0 W) ?_
    exact r_aret C M (Or.inr ⟨_, rfl⟩) dX1_wishes_18 h
  · refine r_aload_n C dX1_wishes_7 rfl 0 rfl ?_
    refine r_getp (f := 104) (j := (p0 + 8)) C flX1_38 dX1_wishes_8 hk0 (by decide) rfl (fun W => pt_104 hk0 W) ?_
    refine r_goto (tgt := 18) C dX1_wishes_11 (by decide) ?_
    exact r_aret C M (Or.inr ⟨_, rfl⟩) dX1_wishes_18 h
theorem dX2_has_0 : decode cX2_has 0 = .ok (.iload_n 1, 1) := by decide +kernel
theorem dX2_has_1 : decode cX2_has 1 = .ok (.bipush 16, 2) := by decide +kernel
theorem dX2_has_3 : decode cX2_has 3 = .ok (.if_icmp .eq 14, 3) := by decide +kernel
theorem dX2_has_6 : decode cX2_has 6 = .ok (.aload_n 0, 1) := by decide +kernel
theorem dX2_has_7 : decode cX2_has 7 = .ok (.getfield 14, 3) := by decide +kernel
theorem dX2_has_10 : decode cX2_has 10 = .ok (.iload_n 1, 1) := by decide +kernel
theorem dX2_has_11 : decode cX2_has 11 = .ok (.invokevirtual 58, 3) := by decide +kernel
theorem dX2_has_14 : decode cX2_has 14 = .ok (.ifCond .eq 7, 3) := by decide +kernel
theorem dX2_has_17 : decode cX2_has 17 = .ok (.iconst 1, 1) := by decide +kernel
theorem dX2_has_18 : decode cX2_has 18 = .ok (.goto 4, 3) := by decide +kernel
theorem dX2_has_21 : decode cX2_has 21 = .ok (.iconst 0, 1) := by decide +kernel
theorem dX2_has_22 : decode cX2_has 22 = .ok (.ireturn, 1) := by decide +kernel
noncomputable def f_X2_has (p1 : Int32) (T : Mm) : Option (Int32 × Mm) :=
  if p1 = 16 then (some (1, T))
  else (bd (f_X8_has 28 p1 T) fun v1 T2 =>
  if v1 = 0 then (some (0, T2))
  else (some (1, T2)))
set_option maxRecDepth 100000 in
set_option maxHeartbeats 4000000 in
theorem s_X2_has {ad : Nat → Nat} {U T : Mm} {q : Int32 × Mm}  (p1 : Int32) (h : f_X2_has p1 T = some q) : Cr 2 yX2_has cX2_has 2 (some .boolean) [.ref (ad 27), .int p1] ad true U T eI q := by
  refine cr_of (by decide) (Nat.le_of_ble_eq_true rfl) fun x S0 hn9 C M => ?_
  have C : CB x RX2 cX2_has := C
  refine Jr.eq (lv' := [(0, .ref (ad 27)), (1, .int p1)]) (st' := []) rfl rfl ?_
  unfold f_X2_has at h
  refine r_iload_n C dX2_has_0 rfl 1 rfl ?_
  refine r_bipush (v := 16) C dX2_has_1 (by decide) ?_
  refine r_ic_eq (tgt := 17) C dX2_has_3 (by decide) h (fun h => ?_) (fun h => ?_)
  · refine r_iconst (v := 1) C dX2_has_17 (by decide) ?_
    refine r_goto (tgt := 22) C dX2_has_18 (by decide) ?_
    exact r_zret C M dX2_has_22 (by decide) h
  · refine r_aload_n C dX2_has_6 rfl 0 rfl ?_
    refine r_getp (f := 200) (j := 28) C flX2_14 dX2_has_7 kq_27 (by decide) rfl (fun W => pt_200 kq_27 W) ?_
    refine r_iload_n C dX2_has_10 rfl 1 rfl ?_
    refine r_callVI C M h [.int p1] [] mlX2_58 mcX8_has (fun q9 e9 => s_X8_has 28 p1 kq_28 e9) kq_28 rfl (by decide) (by decide) rfl rfl (Nat.le_of_ble_eq_true rfl) dX2_has_11 (fun v1 T2 h => ?_)
    refine r_if_eq (tgt := 21) C dX2_has_14 (by decide) h (fun h => ?_) (fun h => ?_)
    · refine r_iconst (v := 0) C dX2_has_21 (by decide) ?_
      exact r_zret C M dX2_has_22 (by decide) h
    · refine r_iconst (v := 1) C dX2_has_17 (by decide) ?_
      refine r_goto (tgt := 22) C dX2_has_18 (by decide) ?_
      exact r_zret C M dX2_has_22 (by decide) h
theorem dX2_alike_0 : decode cX2_alike 0 = .ok (.iconst 0, 1) := by decide +kernel
theorem dX2_alike_1 : decode cX2_alike 1 = .ok (.istore 4, 2) := by decide +kernel
theorem dX2_alike_3 : decode cX2_alike 3 = .ok (.iconst 0, 1) := by decide +kernel
theorem dX2_alike_4 : decode cX2_alike 4 = .ok (.istore 5, 2) := by decide +kernel
theorem dX2_alike_6 : decode cX2_alike 6 = .ok (.iload 5, 2) := by decide +kernel
theorem dX2_alike_8 : decode cX2_alike 8 = .ok (.bipush 16, 2) := by decide +kernel
theorem dX2_alike_10 : decode cX2_alike 10 = .ok (.if_icmp .gt 74, 3) := by decide +kernel
theorem dX2_alike_13 : decode cX2_alike 13 = .ok (.iload 5, 2) := by decide +kernel
theorem dX2_alike_15 : decode cX2_alike 15 = .ok (.bipush 7, 2) := by decide +kernel
theorem dX2_alike_17 : decode cX2_alike 17 = .ok (.imul, 1) := by decide +kernel
theorem dX2_alike_18 : decode cX2_alike 18 = .ok (.iload_n 2, 1) := by decide +kernel
theorem dX2_alike_19 : decode cX2_alike 19 = .ok (.iadd, 1) := by decide +kernel
theorem dX2_alike_20 : decode cX2_alike 20 = .ok (.istore 6, 2) := by decide +kernel
theorem dX2_alike_22 : decode cX2_alike 22 = .ok (.iload_n 1, 1) := by decide +kernel
theorem dX2_alike_23 : decode cX2_alike 23 = .ok (.iload 5, 2) := by decide +kernel
theorem dX2_alike_25 : decode cX2_alike 25 = .ok (.ishr, 1) := by decide +kernel
theorem dX2_alike_26 : decode cX2_alike 26 = .ok (.iconst 1, 1) := by decide +kernel
theorem dX2_alike_27 : decode cX2_alike 27 = .ok (.iand, 1) := by decide +kernel
theorem dX2_alike_28 : decode cX2_alike 28 = .ok (.ifCond .eq 22, 3) := by decide +kernel
theorem dX2_alike_31 : decode cX2_alike 31 = .ok (.iload 6, 2) := by decide +kernel
theorem dX2_alike_33 : decode cX2_alike 33 = .ok (.ifCond .lt 17, 3) := by decide +kernel
theorem dX2_alike_36 : decode cX2_alike 36 = .ok (.iload 6, 2) := by decide +kernel
theorem dX2_alike_38 : decode cX2_alike 38 = .ok (.aload_n 0, 1) := by decide +kernel
theorem dX2_alike_39 : decode cX2_alike 39 = .ok (.getfield 18, 3) := by decide +kernel
theorem dX2_alike_42 : decode cX2_alike 42 = .ok (.arraylength, 1) := by decide +kernel
theorem dX2_alike_43 : decode cX2_alike 43 = .ok (.if_icmp .ge 7, 3) := by decide +kernel
theorem dX2_alike_46 : decode cX2_alike 46 = .ok (.iconst 1, 1) := by decide +kernel
theorem dX2_alike_47 : decode cX2_alike 47 = .ok (.goto 4, 3) := by decide +kernel
theorem dX2_alike_50 : decode cX2_alike 50 = .ok (.iconst 0, 1) := by decide +kernel
theorem dX2_alike_51 : decode cX2_alike 51 = .ok (.istore 7, 2) := by decide +kernel
theorem dX2_alike_53 : decode cX2_alike 53 = .ok (.iload 7, 2) := by decide +kernel
theorem dX2_alike_55 : decode cX2_alike 55 = .ok (.ifCond .eq 23, 3) := by decide +kernel
theorem dX2_alike_58 : decode cX2_alike 58 = .ok (.aload_n 0, 1) := by decide +kernel
theorem dX2_alike_59 : decode cX2_alike 59 = .ok (.getfield 18, 3) := by decide +kernel
theorem dX2_alike_62 : decode cX2_alike 62 = .ok (.iload 6, 2) := by decide +kernel
theorem dX2_alike_64 : decode cX2_alike 64 = .ok (.iaload, 1) := by decide +kernel
theorem dX2_alike_65 : decode cX2_alike 65 = .ok (.iload_n 3, 1) := by decide +kernel
theorem dX2_alike_66 : decode cX2_alike 66 = .ok (.if_icmp .ne 12, 3) := by decide +kernel
theorem dX2_alike_69 : decode cX2_alike 69 = .ok (.iload 4, 2) := by decide +kernel
theorem dX2_alike_71 : decode cX2_alike 71 = .ok (.iconst 1, 1) := by decide +kernel
theorem dX2_alike_72 : decode cX2_alike 72 = .ok (.iload 5, 2) := by decide +kernel
theorem dX2_alike_74 : decode cX2_alike 74 = .ok (.ishl, 1) := by decide +kernel
theorem dX2_alike_75 : decode cX2_alike 75 = .ok (.ior, 1) := by decide +kernel
theorem dX2_alike_76 : decode cX2_alike 76 = .ok (.istore 4, 2) := by decide +kernel
theorem dX2_alike_78 : decode cX2_alike 78 = .ok (.iinc 5 1, 3) := by decide +kernel
theorem dX2_alike_81 : decode cX2_alike 81 = .ok (.goto (-75), 3) := by decide +kernel
theorem dX2_alike_84 : decode cX2_alike 84 = .ok (.iload 4, 2) := by decide +kernel
theorem dX2_alike_86 : decode cX2_alike 86 = .ok (.ifCond .ne 7, 3) := by decide +kernel
theorem dX2_alike_89 : decode cX2_alike 89 = .ok (.iload_n 1, 1) := by decide +kernel
theorem dX2_alike_90 : decode cX2_alike 90 = .ok (.goto 5, 3) := by decide +kernel
theorem dX2_alike_93 : decode cX2_alike 93 = .ok (.iload 4, 2) := by decide +kernel
theorem dX2_alike_95 : decode cX2_alike 95 = .ok (.ireturn, 1) := by decide +kernel
noncomputable def f_X2_alike_51 (k6 : Int32 → Int32 → Int32 → Int32 → Int32 → Mm → Option (Int32 × Mm)) (a1 : Int32) (a2 : Int32) (a3 : Int32) (a4 : Int32) (a5 : Int32) (a6 : Int32) (b0 : Int32) (T : Mm) : Option (Int32 × Mm) :=
  if b0 = 0 then (k6 a1 a2 a3 a4 (a5 + 1) T)
  else (ix a6 119 fun j1 =>
  if (gA T 30 j1) = a3 then (lb ((a4 ||| ((1 : Int32) <<< (a5 &&& 31)))) fun v3 =>
  k6 a1 a2 a3 v3 (a5 + 1) T)
  else (k6 a1 a2 a3 a4 (a5 + 1) T))
set_option maxRecDepth 100000 in
set_option maxHeartbeats 4000000 in
theorem s_X2_alike_51 {x : JX} {ad : Nat → Nat} {U : Mm} {S0 : Hp} {q : Int32 × Mm}  {k6 : Int32 → Int32 → Int32 → Int32 → Int32 → Mm → Option (Int32 × Mm)} (hn9 : x_n x = 8) (C : CB x RX2 cX2_alike) (M : CMr x 1 (some .int) S0 ad true U eI q) (hk6 : ∀ (a1 : Int32) (a2 : Int32) (a3 : Int32) (a4 : Int32) (a5 : Int32) (T : Mm), k6 a1 a2 a3 a4 a5 T = some q → Jr x ad true U T [(0, .ref (ad 27)), (1, .int a1), (2, .int a2), (3, .int a3), (4, .int a4), (5, .int a5)] 6 []) (a1 : Int32) (a2 : Int32) (a3 : Int32) (a4 : Int32) (a5 : Int32) (a6 : Int32) (b0 : Int32) (T : Mm) (h : f_X2_alike_51 k6 a1 a2 a3 a4 a5 a6 b0 T = some q) : Jr x ad true U T [(0, .ref (ad 27)), (1, .int a1), (2, .int a2), (3, .int a3), (4, .int a4), (5, .int a5), (6, .int a6)] 51 [.int b0] := by
  unfold f_X2_alike_51 at h
  refine r_istore (lv' := [(7, .int b0), (0, .ref (ad 27)), (1, .int a1), (2, .int a2), (3, .int a3), (4, .int a4), (5, .int a5), (6, .int a6)]) C dX2_alike_51 (by rw [hn9]; decide) rfl ?_
  refine r_iload C dX2_alike_53 0 rfl ?_
  refine r_if_eq (tgt := 78) C dX2_alike_55 (by decide) h (fun h => ?_) (fun h => ?_)
  · refine r_iinc (q := 6) (v := (a5 + 1)) (lv' := [(5, .int (a5 + 1)), (7, .int b0), (0, .ref (ad 27)), (1, .int a1), (2, .int a2), (3, .int a3), (4, .int a4), (6, .int a6)]) C dX2_alike_78 rfl (by rw [show Int32.ofInt (1) = 1 by decide]) (by rw [hn9]; decide) rfl ?_
    refine r_goto (tgt := 6) C dX2_alike_81 (by decide) ?_
    refine Jr.sub [2, 3, 4, 5, 6, 0] (lv' := [(0, .ref (ad 27)), (1, .int a1), (2, .int a2), (3, .int a3), (4, .int a4), (5, .int (a5 + 1))]) rfl ?_
    exact hk6 a1 a2 a3 a4 (a5 + 1) T h
  · refine r_aload_n C dX2_alike_58 rfl 1 rfl ?_
    refine r_getp (f := 201) (j := 30) C flX2_18 dX2_alike_59 kq_27 (by decide) rfl (fun W => pt_201 kq_27 W) ?_
    refine r_iload C dX2_alike_62 7 rfl ?_
    refine r_iald (n := 119) C dX2_alike_64 kq_30 lq_30 h (fun j1 hj2 h => ?_)
    refine r_iload_n C dX2_alike_65 rfl 4 rfl ?_
    show Jr _ _ _ _ _ _ 66 _
    refine r_ic_ne (tgt := 78) C dX2_alike_66 (by decide) h (fun h => ?_) (fun h => ?_)
    · refine r_iinc (q := 6) (v := (a5 + 1)) (lv' := [(5, .int (a5 + 1)), (7, .int b0), (0, .ref (ad 27)), (1, .int a1), (2, .int a2), (3, .int a3), (4, .int a4), (6, .int a6)]) C dX2_alike_78 rfl (by rw [show Int32.ofInt (1) = 1 by decide]) (by rw [hn9]; decide) rfl ?_
      refine r_goto (tgt := 6) C dX2_alike_81 (by decide) ?_
      refine Jr.sub [2, 3, 4, 5, 6, 0] (lv' := [(0, .ref (ad 27)), (1, .int a1), (2, .int a2), (3, .int a3), (4, .int a4), (5, .int (a5 + 1))]) rfl ?_
      exact hk6 a1 a2 a3 a4 (a5 + 1) T h
    · refine r_iload C dX2_alike_69 5 rfl ?_
      refine r_iconst (v := 1) C dX2_alike_71 (by decide) ?_
      refine r_iload C dX2_alike_72 6 rfl ?_
      refine r_ishl C dX2_alike_74 rfl ?_
      refine r_ior C dX2_alike_75 rfl ?_
      show Jr _ _ _ _ _ _ 76 _
      refine r_lbI h (fun v3 h => ?_)
      refine r_istore (lv' := [(4, .int v3), (7, .int b0), (0, .ref (ad 27)), (1, .int a1), (2, .int a2), (3, .int a3), (5, .int a5), (6, .int a6)]) C dX2_alike_76 (by rw [hn9]; decide) rfl ?_
      refine r_iinc (q := 6) (v := (a5 + 1)) (lv' := [(5, .int (a5 + 1)), (4, .int v3), (7, .int b0), (0, .ref (ad 27)), (1, .int a1), (2, .int a2), (3, .int a3), (6, .int a6)]) C dX2_alike_78 rfl (by rw [show Int32.ofInt (1) = 1 by decide]) (by rw [hn9]; decide) rfl ?_
      refine r_goto (tgt := 6) C dX2_alike_81 (by decide) ?_
      refine Jr.sub [3, 4, 5, 6, 1, 0] (lv' := [(0, .ref (ad 27)), (1, .int a1), (2, .int a2), (3, .int a3), (4, .int v3), (5, .int (a5 + 1))]) rfl ?_
      exact hk6 a1 a2 a3 v3 (a5 + 1) T h
noncomputable def f_X2_alike_b6 (k6 : Int32 → Int32 → Int32 → Int32 → Int32 → Mm → Option (Int32 × Mm)) (a1 : Int32) (a2 : Int32) (a3 : Int32) (a4 : Int32) (a5 : Int32) (T : Mm) : Option (Int32 × Mm) :=
  if 16 < a5 then (if a4 = 0 then (some (a1, T))
  else (some (a4, T)))
  else (lb (((a5 * 7) + a2)) fun v1 =>
  if ((a1 >>> (a5 &&& 31)) &&& 1) = 0 then (f_X2_alike_51 k6 a1 a2 a3 a4 a5 v1 0 T)
  else (if v1 < 0 then (f_X2_alike_51 k6 a1 a2 a3 a4 a5 v1 0 T)
  else (if 119 ≤ v1 then (f_X2_alike_51 k6 a1 a2 a3 a4 a5 v1 0 T)
  else (f_X2_alike_51 k6 a1 a2 a3 a4 a5 v1 1 T))))
set_option maxRecDepth 100000 in
set_option maxHeartbeats 4000000 in
theorem s_X2_alike_b6 {x : JX} {ad : Nat → Nat} {U : Mm} {S0 : Hp} {q : Int32 × Mm}  {k6 : Int32 → Int32 → Int32 → Int32 → Int32 → Mm → Option (Int32 × Mm)} (hn9 : x_n x = 8) (C : CB x RX2 cX2_alike) (M : CMr x 1 (some .int) S0 ad true U eI q) (hk6 : ∀ (a1 : Int32) (a2 : Int32) (a3 : Int32) (a4 : Int32) (a5 : Int32) (T : Mm), k6 a1 a2 a3 a4 a5 T = some q → Jr x ad true U T [(0, .ref (ad 27)), (1, .int a1), (2, .int a2), (3, .int a3), (4, .int a4), (5, .int a5)] 6 []) (a1 : Int32) (a2 : Int32) (a3 : Int32) (a4 : Int32) (a5 : Int32) (T : Mm) (h : f_X2_alike_b6 k6 a1 a2 a3 a4 a5 T = some q) : Jr x ad true U T [(0, .ref (ad 27)), (1, .int a1), (2, .int a2), (3, .int a3), (4, .int a4), (5, .int a5)] 6 [] := by
  unfold f_X2_alike_b6 at h
  refine r_iload C dX2_alike_6 5 rfl ?_
  refine r_bipush (v := 16) C dX2_alike_8 (by decide) ?_
  refine r_ic_gt (tgt := 84) C dX2_alike_10 (by decide) h (fun h => ?_) (fun h => ?_)
  · refine r_iload C dX2_alike_84 4 rfl ?_
    refine r_if_ne (tgt := 93) C dX2_alike_86 (by decide) h (fun h => ?_) (fun h => ?_)
    · refine r_iload C dX2_alike_93 4 rfl ?_
      exact r_iret C M dX2_alike_95 h
    · refine r_iload_n C dX2_alike_89 rfl 1 rfl ?_
      refine r_goto (tgt := 95) C dX2_alike_90 (by decide) ?_
      exact r_iret C M dX2_alike_95 h
  · refine r_iload C dX2_alike_13 5 rfl ?_
    refine r_bipush (v := 7) C dX2_alike_15 (by decide) ?_
    refine r_imul C dX2_alike_17 rfl ?_
    refine r_iload_n C dX2_alike_18 rfl 2 rfl ?_
    refine r_iadd C dX2_alike_19 rfl ?_
    show Jr _ _ _ _ _ _ 20 _
    refine r_lbI h (fun v1 h => ?_)
    refine r_istore (lv' := [(6, .int v1), (0, .ref (ad 27)), (1, .int a1), (2, .int a2), (3, .int a3), (4, .int a4), (5, .int a5)]) C dX2_alike_20 (by rw [hn9]; decide) rfl ?_
    refine r_iload_n C dX2_alike_22 rfl 2 rfl ?_
    refine r_iload C dX2_alike_23 6 rfl ?_
    refine r_ishr C dX2_alike_25 rfl ?_
    refine r_iconst (v := 1) C dX2_alike_26 (by decide) ?_
    refine r_iand C dX2_alike_27 rfl ?_
    show Jr _ _ _ _ _ _ 28 _
    refine r_if_eq (tgt := 50) C dX2_alike_28 (by decide) h (fun h => ?_) (fun h => ?_)
    · refine r_iconst (v := 0) C dX2_alike_50 (by decide) ?_
      refine Jr.sub [1, 2, 3, 4, 5, 6, 0] (lv' := [(0, .ref (ad 27)), (1, .int a1), (2, .int a2), (3, .int a3), (4, .int a4), (5, .int a5), (6, .int v1)]) rfl ?_
      exact s_X2_alike_51 hn9 C M hk6 a1 a2 a3 a4 a5 v1 0 T h
    · refine r_iload C dX2_alike_31 0 rfl ?_
      refine r_if_lt (tgt := 50) C dX2_alike_33 (by decide) h (fun h => ?_) (fun h => ?_)
      · refine r_iconst (v := 0) C dX2_alike_50 (by decide) ?_
        refine Jr.sub [1, 2, 3, 4, 5, 6, 0] (lv' := [(0, .ref (ad 27)), (1, .int a1), (2, .int a2), (3, .int a3), (4, .int a4), (5, .int a5), (6, .int v1)]) rfl ?_
        exact s_X2_alike_51 hn9 C M hk6 a1 a2 a3 a4 a5 v1 0 T h
      · refine r_iload C dX2_alike_36 0 rfl ?_
        refine r_aload_n C dX2_alike_38 rfl 1 rfl ?_
        refine r_getp (f := 201) (j := 30) C flX2_18 dX2_alike_39 kq_27 (by decide) rfl (fun W => pt_201 kq_27 W) ?_
        refine r_alen (n := 0) (v := 119) C dX2_alike_42 kq_30 (by decide) (by decide) (congrArg Int32.ofNat lq_30) ?_
        refine r_ic_ge (tgt := 50) C dX2_alike_43 (by decide) h (fun h => ?_) (fun h => ?_)
        · refine r_iconst (v := 0) C dX2_alike_50 (by decide) ?_
          refine Jr.sub [1, 2, 3, 4, 5, 6, 0] (lv' := [(0, .ref (ad 27)), (1, .int a1), (2, .int a2), (3, .int a3), (4, .int a4), (5, .int a5), (6, .int v1)]) rfl ?_
          exact s_X2_alike_51 hn9 C M hk6 a1 a2 a3 a4 a5 v1 0 T h
        · refine r_iconst (v := 1) C dX2_alike_46 (by decide) ?_
          refine r_goto (tgt := 51) C dX2_alike_47 (by decide) ?_
          refine Jr.sub [1, 2, 3, 4, 5, 6, 0] (lv' := [(0, .ref (ad 27)), (1, .int a1), (2, .int a2), (3, .int a3), (4, .int a4), (5, .int a5), (6, .int v1)]) rfl ?_
          exact s_X2_alike_51 hn9 C M hk6 a1 a2 a3 a4 a5 v1 1 T h
noncomputable def f_X2_alike_l6 (n : Nat) : Int32 → Int32 → Int32 → Int32 → Int32 → Mm → Option (Int32 × Mm) := Nat.rec (fun _ _ _ _ _ _ => none) (fun _ ih => f_X2_alike_b6 ih) n
theorem s_X2_alike_l6 {x : JX} {ad : Nat → Nat} {U : Mm} {S0 : Hp} {q : Int32 × Mm}  (hn9 : x_n x = 8) (C : CB x RX2 cX2_alike) (M : CMr x 1 (some .int) S0 ad true U eI q) : ∀ (n : Nat), ∀ (a1 : Int32) (a2 : Int32) (a3 : Int32) (a4 : Int32) (a5 : Int32) (T : Mm), f_X2_alike_l6  n a1 a2 a3 a4 a5 T = some q → Jr x ad true U T [(0, .ref (ad 27)), (1, .int a1), (2, .int a2), (3, .int a3), (4, .int a4), (5, .int a5)] 6 [] := by
  intro n
  induction n with
  | zero => intro a1 a2 a3 a4 a5 T  h; exact absurd h (by intro h; cases h)
  | succ n ih => exact fun a1 a2 a3 a4 a5 T  h => s_X2_alike_b6 hn9 C M (ih) a1 a2 a3 a4 a5 T  h
noncomputable def f_X2_alike (p1 : Int32) (p2 : Int32) (p3 : Int32) (T : Mm) : Option (Int32 × Mm) :=
  f_X2_alike_l6 FU p1 p2 p3 0 0 T
set_option maxRecDepth 100000 in
set_option maxHeartbeats 4000000 in
theorem s_X2_alike {ad : Nat → Nat} {U T : Mm} {q : Int32 × Mm}  (p1 : Int32) (p2 : Int32) (p3 : Int32) (h : f_X2_alike p1 p2 p3 T = some q) : Cr 1 yX2_alike cX2_alike 8 (some .int) [.ref (ad 27), .int p1, .int p2, .int p3] ad true U T eI q := by
  refine cr_of (by decide) (Nat.le_of_ble_eq_true rfl) fun x S0 hn9 C M => ?_
  have C : CB x RX2 cX2_alike := C
  refine Jr.eq (lv' := [(0, .ref (ad 27)), (1, .int p1), (2, .int p2), (3, .int p3)]) (st' := []) rfl rfl ?_
  unfold f_X2_alike at h
  refine r_iconst (v := 0) C dX2_alike_0 (by decide) ?_
  refine r_istore (lv' := [(4, .int 0), (0, .ref (ad 27)), (1, .int p1), (2, .int p2), (3, .int p3)]) C dX2_alike_1 (by rw [hn9]; decide) rfl ?_
  refine r_iconst (v := 0) C dX2_alike_3 (by decide) ?_
  refine r_istore (lv' := [(5, .int 0), (4, .int 0), (0, .ref (ad 27)), (1, .int p1), (2, .int p2), (3, .int p3)]) C dX2_alike_4 (by rw [hn9]; decide) rfl ?_
  refine Jr.sub [2, 3, 4, 5, 1, 0] (lv' := [(0, .ref (ad 27)), (1, .int p1), (2, .int p2), (3, .int p3), (4, .int 0), (5, .int 0)]) rfl ?_
  exact s_X2_alike_l6 hn9 C M  FU p1 p2 p3 0 0 T h
theorem dX2_nearest_0 : decode cX2_nearest 0 = .ok (.aload_n 0, 1) := by decide +kernel
theorem dX2_nearest_1 : decode cX2_nearest 1 = .ok (.getfield 35, 3) := by decide +kernel
theorem dX2_nearest_4 : decode cX2_nearest 4 = .ok (.iload_n 2, 1) := by decide +kernel
theorem dX2_nearest_5 : decode cX2_nearest 5 = .ok (.iaload, 1) := by decide +kernel
theorem dX2_nearest_6 : decode cX2_nearest 6 = .ok (.istore_n 3, 1) := by decide +kernel
theorem dX2_nearest_7 : decode cX2_nearest 7 = .ok (.iconst 0, 1) := by decide +kernel
theorem dX2_nearest_8 : decode cX2_nearest 8 = .ok (.istore 4, 2) := by decide +kernel
theorem dX2_nearest_10 : decode cX2_nearest 10 = .ok (.iconst 0, 1) := by decide +kernel
theorem dX2_nearest_11 : decode cX2_nearest 11 = .ok (.istore 5, 2) := by decide +kernel
theorem dX2_nearest_13 : decode cX2_nearest 13 = .ok (.iconst 0, 1) := by decide +kernel
theorem dX2_nearest_14 : decode cX2_nearest 14 = .ok (.istore 6, 2) := by decide +kernel
theorem dX2_nearest_16 : decode cX2_nearest 16 = .ok (.iload 6, 2) := by decide +kernel
theorem dX2_nearest_18 : decode cX2_nearest 18 = .ok (.bipush 16, 2) := by decide +kernel
theorem dX2_nearest_20 : decode cX2_nearest 20 = .ok (.if_icmp .gt 97, 3) := by decide +kernel
theorem dX2_nearest_23 : decode cX2_nearest 23 = .ok (.iload 6, 2) := by decide +kernel
theorem dX2_nearest_25 : decode cX2_nearest 25 = .ok (.bipush 7, 2) := by decide +kernel
theorem dX2_nearest_27 : decode cX2_nearest 27 = .ok (.imul, 1) := by decide +kernel
theorem dX2_nearest_28 : decode cX2_nearest 28 = .ok (.iload_n 2, 1) := by decide +kernel
theorem dX2_nearest_29 : decode cX2_nearest 29 = .ok (.iadd, 1) := by decide +kernel
theorem dX2_nearest_30 : decode cX2_nearest 30 = .ok (.istore 7, 2) := by decide +kernel
theorem dX2_nearest_32 : decode cX2_nearest 32 = .ok (.iload_n 1, 1) := by decide +kernel
theorem dX2_nearest_33 : decode cX2_nearest 33 = .ok (.iload 6, 2) := by decide +kernel
theorem dX2_nearest_35 : decode cX2_nearest 35 = .ok (.ishr, 1) := by decide +kernel
theorem dX2_nearest_36 : decode cX2_nearest 36 = .ok (.iconst 1, 1) := by decide +kernel
theorem dX2_nearest_37 : decode cX2_nearest 37 = .ok (.iand, 1) := by decide +kernel
theorem dX2_nearest_38 : decode cX2_nearest 38 = .ok (.ifCond .eq 73, 3) := by decide +kernel
theorem dX2_nearest_41 : decode cX2_nearest 41 = .ok (.iload 7, 2) := by decide +kernel
theorem dX2_nearest_43 : decode cX2_nearest 43 = .ok (.ifCond .lt 68, 3) := by decide +kernel
theorem dX2_nearest_46 : decode cX2_nearest 46 = .ok (.iload 7, 2) := by decide +kernel
theorem dX2_nearest_48 : decode cX2_nearest 48 = .ok (.aload_n 0, 1) := by decide +kernel
theorem dX2_nearest_49 : decode cX2_nearest 49 = .ok (.getfield 18, 3) := by decide +kernel
theorem dX2_nearest_52 : decode cX2_nearest 52 = .ok (.arraylength, 1) := by decide +kernel
theorem dX2_nearest_53 : decode cX2_nearest 53 = .ok (.if_icmp .ge 58, 3) := by decide +kernel
theorem dX2_nearest_56 : decode cX2_nearest 56 = .ok (.aload_n 0, 1) := by decide +kernel
theorem dX2_nearest_57 : decode cX2_nearest 57 = .ok (.getfield 18, 3) := by decide +kernel
theorem dX2_nearest_60 : decode cX2_nearest 60 = .ok (.iload 7, 2) := by decide +kernel
theorem dX2_nearest_62 : decode cX2_nearest 62 = .ok (.iaload, 1) := by decide +kernel
theorem dX2_nearest_63 : decode cX2_nearest 63 = .ok (.istore 8, 2) := by decide +kernel
theorem dX2_nearest_65 : decode cX2_nearest 65 = .ok (.iload 4, 2) := by decide +kernel
theorem dX2_nearest_67 : decode cX2_nearest 67 = .ok (.iload_n 3, 1) := by decide +kernel
theorem dX2_nearest_68 : decode cX2_nearest 68 = .ok (.isub, 1) := by decide +kernel
theorem dX2_nearest_69 : decode cX2_nearest 69 = .ok (.invokestatic 124, 3) := by decide +kernel
theorem dX2_nearest_72 : decode cX2_nearest 72 = .ok (.iload 8, 2) := by decide +kernel
theorem dX2_nearest_74 : decode cX2_nearest 74 = .ok (.iload_n 3, 1) := by decide +kernel
theorem dX2_nearest_75 : decode cX2_nearest 75 = .ok (.isub, 1) := by decide +kernel
theorem dX2_nearest_76 : decode cX2_nearest 76 = .ok (.invokestatic 124, 3) := by decide +kernel
theorem dX2_nearest_79 : decode cX2_nearest 79 = .ok (.isub, 1) := by decide +kernel
theorem dX2_nearest_80 : decode cX2_nearest 80 = .ok (.istore 9, 2) := by decide +kernel
theorem dX2_nearest_82 : decode cX2_nearest 82 = .ok (.iload 5, 2) := by decide +kernel
theorem dX2_nearest_84 : decode cX2_nearest 84 = .ok (.ifCond .eq 20, 3) := by decide +kernel
theorem dX2_nearest_87 : decode cX2_nearest 87 = .ok (.iload 9, 2) := by decide +kernel
theorem dX2_nearest_89 : decode cX2_nearest 89 = .ok (.ifCond .gt 15, 3) := by decide +kernel
theorem dX2_nearest_92 : decode cX2_nearest 92 = .ok (.iload 9, 2) := by decide +kernel
theorem dX2_nearest_94 : decode cX2_nearest 94 = .ok (.ifCond .ne 17, 3) := by decide +kernel
theorem dX2_nearest_97 : decode cX2_nearest 97 = .ok (.iload 8, 2) := by decide +kernel
theorem dX2_nearest_99 : decode cX2_nearest 99 = .ok (.iload 4, 2) := by decide +kernel
theorem dX2_nearest_101 : decode cX2_nearest 101 = .ok (.if_icmp .le 10, 3) := by decide +kernel
theorem dX2_nearest_104 : decode cX2_nearest 104 = .ok (.iload 8, 2) := by decide +kernel
theorem dX2_nearest_106 : decode cX2_nearest 106 = .ok (.istore 4, 2) := by decide +kernel
theorem dX2_nearest_108 : decode cX2_nearest 108 = .ok (.iconst 1, 1) := by decide +kernel
theorem dX2_nearest_109 : decode cX2_nearest 109 = .ok (.istore 5, 2) := by decide +kernel
theorem dX2_nearest_111 : decode cX2_nearest 111 = .ok (.iinc 6 1, 3) := by decide +kernel
theorem dX2_nearest_114 : decode cX2_nearest 114 = .ok (.goto (-98), 3) := by decide +kernel
theorem dX2_nearest_117 : decode cX2_nearest 117 = .ok (.iload 4, 2) := by decide +kernel
theorem dX2_nearest_119 : decode cX2_nearest 119 = .ok (.ireturn, 1) := by decide +kernel
noncomputable def f_X2_nearest_b16 (k16 : Int32 → Int32 → Int32 → Int32 → Int32 → Int32 → Mm → Option (Int32 × Mm)) (a1 : Int32) (a2 : Int32) (a3 : Int32) (a4 : Int32) (a5 : Int32) (a6 : Int32) (T : Mm) : Option (Int32 × Mm) :=
  if 16 < a6 then (some (a4, T))
  else (lb (((a6 * 7) + a2)) fun v1 =>
  if ((a1 >>> (a6 &&& 31)) &&& 1) = 0 then (k16 a1 a2 a3 a4 a5 (a6 + 1) T)
  else (if v1 < 0 then (k16 a1 a2 a3 a4 a5 (a6 + 1) T)
  else (if 119 ≤ v1 then (k16 a1 a2 a3 a4 a5 (a6 + 1) T)
  else (ix v1 119 fun j2 =>
  lb ((gA T 30 j2)) fun v4 =>
  bd (f_J9_abs_0f7a4 (a4 - a3) T) fun v5 T6 =>
  bd (f_J9_abs_0f7a4 (v4 - a3) T6) fun v7 T8 =>
  lb ((v5 - v7)) fun v9 =>
  if a5 = 0 then (k16 a1 a2 a3 v4 1 (a6 + 1) T8)
  else (if 0 < v9 then (k16 a1 a2 a3 v4 1 (a6 + 1) T8)
  else (if v9 = 0 then (if v4 ≤ a4 then (k16 a1 a2 a3 a4 a5 (a6 + 1) T8)
  else (k16 a1 a2 a3 v4 1 (a6 + 1) T8))
  else (k16 a1 a2 a3 a4 a5 (a6 + 1) T8)))))))
set_option maxRecDepth 100000 in
set_option maxHeartbeats 4000000 in
theorem s_X2_nearest_b16 {x : JX} {ad : Nat → Nat} {U : Mm} {S0 : Hp} {q : Int32 × Mm}  {k16 : Int32 → Int32 → Int32 → Int32 → Int32 → Int32 → Mm → Option (Int32 × Mm)} (hn9 : x_n x = 10) (C : CB x RX2 cX2_nearest) (M : CMr x 2 (some .int) S0 ad true U eI q) (hk16 : ∀ (a1 : Int32) (a2 : Int32) (a3 : Int32) (a4 : Int32) (a5 : Int32) (a6 : Int32) (T : Mm), k16 a1 a2 a3 a4 a5 a6 T = some q → Jr x ad true U T [(0, .ref (ad 27)), (1, .int a1), (2, .int a2), (3, .int a3), (4, .int a4), (5, .int a5), (6, .int a6)] 16 []) (a1 : Int32) (a2 : Int32) (a3 : Int32) (a4 : Int32) (a5 : Int32) (a6 : Int32) (T : Mm) (h : f_X2_nearest_b16 k16 a1 a2 a3 a4 a5 a6 T = some q) : Jr x ad true U T [(0, .ref (ad 27)), (1, .int a1), (2, .int a2), (3, .int a3), (4, .int a4), (5, .int a5), (6, .int a6)] 16 [] := by
  unfold f_X2_nearest_b16 at h
  refine r_iload C dX2_nearest_16 6 rfl ?_
  refine r_bipush (v := 16) C dX2_nearest_18 (by decide) ?_
  refine r_ic_gt (tgt := 117) C dX2_nearest_20 (by decide) h (fun h => ?_) (fun h => ?_)
  · refine r_iload C dX2_nearest_117 4 rfl ?_
    exact r_iret C M dX2_nearest_119 h
  · refine r_iload C dX2_nearest_23 6 rfl ?_
    refine r_bipush (v := 7) C dX2_nearest_25 (by decide) ?_
    refine r_imul C dX2_nearest_27 rfl ?_
    refine r_iload_n C dX2_nearest_28 rfl 2 rfl ?_
    refine r_iadd C dX2_nearest_29 rfl ?_
    show Jr _ _ _ _ _ _ 30 _
    refine r_lbI h (fun v1 h => ?_)
    refine r_istore (lv' := [(7, .int v1), (0, .ref (ad 27)), (1, .int a1), (2, .int a2), (3, .int a3), (4, .int a4), (5, .int a5), (6, .int a6)]) C dX2_nearest_30 (by rw [hn9]; decide) rfl ?_
    refine r_iload_n C dX2_nearest_32 rfl 2 rfl ?_
    refine r_iload C dX2_nearest_33 7 rfl ?_
    refine r_ishr C dX2_nearest_35 rfl ?_
    refine r_iconst (v := 1) C dX2_nearest_36 (by decide) ?_
    refine r_iand C dX2_nearest_37 rfl ?_
    show Jr _ _ _ _ _ _ 38 _
    refine r_if_eq (tgt := 111) C dX2_nearest_38 (by decide) h (fun h => ?_) (fun h => ?_)
    · refine r_iinc (q := 7) (v := (a6 + 1)) (lv' := [(6, .int (a6 + 1)), (7, .int v1), (0, .ref (ad 27)), (1, .int a1), (2, .int a2), (3, .int a3), (4, .int a4), (5, .int a5)]) C dX2_nearest_111 rfl (by rw [show Int32.ofInt (1) = 1 by decide]) (by rw [hn9]; decide) rfl ?_
      refine r_goto (tgt := 16) C dX2_nearest_114 (by decide) ?_
      refine Jr.sub [2, 3, 4, 5, 6, 7, 0] (lv' := [(0, .ref (ad 27)), (1, .int a1), (2, .int a2), (3, .int a3), (4, .int a4), (5, .int a5), (6, .int (a6 + 1))]) rfl ?_
      exact hk16 a1 a2 a3 a4 a5 (a6 + 1) T h
    · refine r_iload C dX2_nearest_41 0 rfl ?_
      refine r_if_lt (tgt := 111) C dX2_nearest_43 (by decide) h (fun h => ?_) (fun h => ?_)
      · refine r_iinc (q := 7) (v := (a6 + 1)) (lv' := [(6, .int (a6 + 1)), (7, .int v1), (0, .ref (ad 27)), (1, .int a1), (2, .int a2), (3, .int a3), (4, .int a4), (5, .int a5)]) C dX2_nearest_111 rfl (by rw [show Int32.ofInt (1) = 1 by decide]) (by rw [hn9]; decide) rfl ?_
        refine r_goto (tgt := 16) C dX2_nearest_114 (by decide) ?_
        refine Jr.sub [2, 3, 4, 5, 6, 7, 0] (lv' := [(0, .ref (ad 27)), (1, .int a1), (2, .int a2), (3, .int a3), (4, .int a4), (5, .int a5), (6, .int (a6 + 1))]) rfl ?_
        exact hk16 a1 a2 a3 a4 a5 (a6 + 1) T h
      · refine r_iload C dX2_nearest_46 0 rfl ?_
        refine r_aload_n C dX2_nearest_48 rfl 1 rfl ?_
        refine r_getp (f := 201) (j := 30) C flX2_18 dX2_nearest_49 kq_27 (by decide) rfl (fun W => pt_201 kq_27 W) ?_
        refine r_alen (n := 0) (v := 119) C dX2_nearest_52 kq_30 (by decide) (by decide) (congrArg Int32.ofNat lq_30) ?_
        refine r_ic_ge (tgt := 111) C dX2_nearest_53 (by decide) h (fun h => ?_) (fun h => ?_)
        · refine r_iinc (q := 7) (v := (a6 + 1)) (lv' := [(6, .int (a6 + 1)), (7, .int v1), (0, .ref (ad 27)), (1, .int a1), (2, .int a2), (3, .int a3), (4, .int a4), (5, .int a5)]) C dX2_nearest_111 rfl (by rw [show Int32.ofInt (1) = 1 by decide]) (by rw [hn9]; decide) rfl ?_
          refine r_goto (tgt := 16) C dX2_nearest_114 (by decide) ?_
          refine Jr.sub [2, 3, 4, 5, 6, 7, 0] (lv' := [(0, .ref (ad 27)), (1, .int a1), (2, .int a2), (3, .int a3), (4, .int a4), (5, .int a5), (6, .int (a6 + 1))]) rfl ?_
          exact hk16 a1 a2 a3 a4 a5 (a6 + 1) T h
        · refine r_aload_n C dX2_nearest_56 rfl 1 rfl ?_
          refine r_getp (f := 201) (j := 30) C flX2_18 dX2_nearest_57 kq_27 (by decide) rfl (fun W => pt_201 kq_27 W) ?_
          refine r_iload C dX2_nearest_60 0 rfl ?_
          refine r_iald (n := 119) C dX2_nearest_62 kq_30 lq_30 h (fun j2 hj3 h => ?_)
          refine r_lbI h (fun v4 h => ?_)
          refine r_istore (lv' := [(8, .int v4), (7, .int v1), (0, .ref (ad 27)), (1, .int a1), (2, .int a2), (3, .int a3), (4, .int a4), (5, .int a5), (6, .int a6)]) C dX2_nearest_63 (by rw [hn9]; decide) rfl ?_
          show Jr _ _ _ _ _ _ 65 _
          refine r_iload C dX2_nearest_65 6 rfl ?_
          refine r_iload_n C dX2_nearest_67 rfl 5 rfl ?_
          refine r_isub C dX2_nearest_68 rfl ?_
          refine r_callSI C M h [.int (a4 - a3)] [] mlX2_124 mcJ9_abs_0f7a4 (fun q9 e9 => s_J9_abs_0f7a4 (a4 - a3)  e9) (by decide) (by decide) rfl rfl (Nat.le_of_ble_eq_true rfl) dX2_nearest_69 (fun v5 T6 h => ?_)
          refine r_iload C dX2_nearest_72 0 rfl ?_
          refine r_iload_n C dX2_nearest_74 rfl 5 rfl ?_
          show Jr _ _ _ _ _ _ 75 _
          refine r_isub C dX2_nearest_75 rfl ?_
          refine r_callSI C M h [.int (v4 - a3)] [.int v5] mlX2_124 mcJ9_abs_0f7a4 (fun q9 e9 => s_J9_abs_0f7a4 (v4 - a3)  e9) (by decide) (by decide) rfl rfl (Nat.le_of_ble_eq_true rfl) dX2_nearest_76 (fun v7 T8 h => ?_)
          refine r_isub C dX2_nearest_79 rfl ?_
          refine r_lbI h (fun v9 h => ?_)
          refine r_istore (lv' := [(9, .int v9), (8, .int v4), (7, .int v1), (0, .ref (ad 27)), (1, .int a1), (2, .int a2), (3, .int a3), (4, .int a4), (5, .int a5), (6, .int a6)]) C dX2_nearest_80 (by rw [hn9]; decide) rfl ?_
          refine r_iload C dX2_nearest_82 8 rfl ?_
          refine r_if_eq (tgt := 104) C dX2_nearest_84 (by decide) h (fun h => ?_) (fun h => ?_)
          · refine r_iload C dX2_nearest_104 1 rfl ?_
            refine r_istore (lv' := [(4, .int v4), (9, .int v9), (8, .int v4), (7, .int v1), (0, .ref (ad 27)), (1, .int a1), (2, .int a2), (3, .int a3), (5, .int a5), (6, .int a6)]) C dX2_nearest_106 (by rw [hn9]; decide) rfl ?_
            refine r_iconst (v := 1) C dX2_nearest_108 (by decide) ?_
            refine r_istore (lv' := [(5, .int 1), (4, .int v4), (9, .int v9), (8, .int v4), (7, .int v1), (0, .ref (ad 27)), (1, .int a1), (2, .int a2), (3, .int a3), (6, .int a6)]) C dX2_nearest_109 (by rw [hn9]; decide) rfl ?_
            refine r_iinc (q := 9) (v := (a6 + 1)) (lv' := [(6, .int (a6 + 1)), (5, .int 1), (4, .int v4), (9, .int v9), (8, .int v4), (7, .int v1), (0, .ref (ad 27)), (1, .int a1), (2, .int a2), (3, .int a3)]) C dX2_nearest_111 rfl (by rw [show Int32.ofInt (1) = 1 by decide]) (by rw [hn9]; decide) rfl ?_
            show Jr _ _ _ _ _ _ 114 _
            refine r_goto (tgt := 16) C dX2_nearest_114 (by decide) ?_
            refine Jr.sub [6, 7, 8, 9, 2, 1, 0] (lv' := [(0, .ref (ad 27)), (1, .int a1), (2, .int a2), (3, .int a3), (4, .int v4), (5, .int 1), (6, .int (a6 + 1))]) rfl ?_
            exact hk16 a1 a2 a3 v4 1 (a6 + 1) T8 h
          · refine r_iload C dX2_nearest_87 0 rfl ?_
            refine r_if_gt (tgt := 104) C dX2_nearest_89 (by decide) h (fun h => ?_) (fun h => ?_)
            · refine r_iload C dX2_nearest_104 1 rfl ?_
              refine r_istore (lv' := [(4, .int v4), (9, .int v9), (8, .int v4), (7, .int v1), (0, .ref (ad 27)), (1, .int a1), (2, .int a2), (3, .int a3), (5, .int a5), (6, .int a6)]) C dX2_nearest_106 (by rw [hn9]; decide) rfl ?_
              refine r_iconst (v := 1) C dX2_nearest_108 (by decide) ?_
              refine r_istore (lv' := [(5, .int 1), (4, .int v4), (9, .int v9), (8, .int v4), (7, .int v1), (0, .ref (ad 27)), (1, .int a1), (2, .int a2), (3, .int a3), (6, .int a6)]) C dX2_nearest_109 (by rw [hn9]; decide) rfl ?_
              refine r_iinc (q := 9) (v := (a6 + 1)) (lv' := [(6, .int (a6 + 1)), (5, .int 1), (4, .int v4), (9, .int v9), (8, .int v4), (7, .int v1), (0, .ref (ad 27)), (1, .int a1), (2, .int a2), (3, .int a3)]) C dX2_nearest_111 rfl (by rw [show Int32.ofInt (1) = 1 by decide]) (by rw [hn9]; decide) rfl ?_
              show Jr _ _ _ _ _ _ 114 _
              refine r_goto (tgt := 16) C dX2_nearest_114 (by decide) ?_
              refine Jr.sub [6, 7, 8, 9, 2, 1, 0] (lv' := [(0, .ref (ad 27)), (1, .int a1), (2, .int a2), (3, .int a3), (4, .int v4), (5, .int 1), (6, .int (a6 + 1))]) rfl ?_
              exact hk16 a1 a2 a3 v4 1 (a6 + 1) T8 h
            · refine r_iload C dX2_nearest_92 0 rfl ?_
              refine r_if_ne (tgt := 111) C dX2_nearest_94 (by decide) h (fun h => ?_) (fun h => ?_)
              · refine r_iinc (q := 9) (v := (a6 + 1)) (lv' := [(6, .int (a6 + 1)), (9, .int v9), (8, .int v4), (7, .int v1), (0, .ref (ad 27)), (1, .int a1), (2, .int a2), (3, .int a3), (4, .int a4), (5, .int a5)]) C dX2_nearest_111 rfl (by rw [show Int32.ofInt (1) = 1 by decide]) (by rw [hn9]; decide) rfl ?_
                refine r_goto (tgt := 16) C dX2_nearest_114 (by decide) ?_
                refine Jr.sub [4, 5, 6, 7, 8, 9, 0] (lv' := [(0, .ref (ad 27)), (1, .int a1), (2, .int a2), (3, .int a3), (4, .int a4), (5, .int a5), (6, .int (a6 + 1))]) rfl ?_
                exact hk16 a1 a2 a3 a4 a5 (a6 + 1) T8 h
              · refine r_iload C dX2_nearest_97 1 rfl ?_
                refine r_iload C dX2_nearest_99 7 rfl ?_
                refine r_ic_le (tgt := 111) C dX2_nearest_101 (by decide) h (fun h => ?_) (fun h => ?_)
                · refine r_iinc (q := 9) (v := (a6 + 1)) (lv' := [(6, .int (a6 + 1)), (9, .int v9), (8, .int v4), (7, .int v1), (0, .ref (ad 27)), (1, .int a1), (2, .int a2), (3, .int a3), (4, .int a4), (5, .int a5)]) C dX2_nearest_111 rfl (by rw [show Int32.ofInt (1) = 1 by decide]) (by rw [hn9]; decide) rfl ?_
                  refine r_goto (tgt := 16) C dX2_nearest_114 (by decide) ?_
                  refine Jr.sub [4, 5, 6, 7, 8, 9, 0] (lv' := [(0, .ref (ad 27)), (1, .int a1), (2, .int a2), (3, .int a3), (4, .int a4), (5, .int a5), (6, .int (a6 + 1))]) rfl ?_
                  exact hk16 a1 a2 a3 a4 a5 (a6 + 1) T8 h
                · refine r_iload C dX2_nearest_104 1 rfl ?_
                  refine r_istore (lv' := [(4, .int v4), (9, .int v9), (8, .int v4), (7, .int v1), (0, .ref (ad 27)), (1, .int a1), (2, .int a2), (3, .int a3), (5, .int a5), (6, .int a6)]) C dX2_nearest_106 (by rw [hn9]; decide) rfl ?_
                  refine r_iconst (v := 1) C dX2_nearest_108 (by decide) ?_
                  refine r_istore (lv' := [(5, .int 1), (4, .int v4), (9, .int v9), (8, .int v4), (7, .int v1), (0, .ref (ad 27)), (1, .int a1), (2, .int a2), (3, .int a3), (6, .int a6)]) C dX2_nearest_109 (by rw [hn9]; decide) rfl ?_
                  refine r_iinc (q := 9) (v := (a6 + 1)) (lv' := [(6, .int (a6 + 1)), (5, .int 1), (4, .int v4), (9, .int v9), (8, .int v4), (7, .int v1), (0, .ref (ad 27)), (1, .int a1), (2, .int a2), (3, .int a3)]) C dX2_nearest_111 rfl (by rw [show Int32.ofInt (1) = 1 by decide]) (by rw [hn9]; decide) rfl ?_
                  show Jr _ _ _ _ _ _ 114 _
                  refine r_goto (tgt := 16) C dX2_nearest_114 (by decide) ?_
                  refine Jr.sub [6, 7, 8, 9, 2, 1, 0] (lv' := [(0, .ref (ad 27)), (1, .int a1), (2, .int a2), (3, .int a3), (4, .int v4), (5, .int 1), (6, .int (a6 + 1))]) rfl ?_
                  exact hk16 a1 a2 a3 v4 1 (a6 + 1) T8 h
noncomputable def f_X2_nearest_l16 (n : Nat) : Int32 → Int32 → Int32 → Int32 → Int32 → Int32 → Mm → Option (Int32 × Mm) := Nat.rec (fun _ _ _ _ _ _ _ => none) (fun _ ih => f_X2_nearest_b16 ih) n
theorem s_X2_nearest_l16 {x : JX} {ad : Nat → Nat} {U : Mm} {S0 : Hp} {q : Int32 × Mm}  (hn9 : x_n x = 10) (C : CB x RX2 cX2_nearest) (M : CMr x 2 (some .int) S0 ad true U eI q) : ∀ (n : Nat), ∀ (a1 : Int32) (a2 : Int32) (a3 : Int32) (a4 : Int32) (a5 : Int32) (a6 : Int32) (T : Mm), f_X2_nearest_l16  n a1 a2 a3 a4 a5 a6 T = some q → Jr x ad true U T [(0, .ref (ad 27)), (1, .int a1), (2, .int a2), (3, .int a3), (4, .int a4), (5, .int a5), (6, .int a6)] 16 [] := by
  intro n
  induction n with
  | zero => intro a1 a2 a3 a4 a5 a6 T  h; exact absurd h (by intro h; cases h)
  | succ n ih => exact fun a1 a2 a3 a4 a5 a6 T  h => s_X2_nearest_b16 hn9 C M (ih) a1 a2 a3 a4 a5 a6 T  h
noncomputable def f_X2_nearest (p1 : Int32) (p2 : Int32) (T : Mm) : Option (Int32 × Mm) :=
  ix p2 8 fun j1 =>
  lb ((gA T 35 j1)) fun v3 =>
  f_X2_nearest_l16 FU p1 p2 v3 0 0 0 T
set_option maxRecDepth 100000 in
set_option maxHeartbeats 4000000 in
theorem s_X2_nearest {ad : Nat → Nat} {U T : Mm} {q : Int32 × Mm}  (p1 : Int32) (p2 : Int32) (h : f_X2_nearest p1 p2 T = some q) : Cr 2 yX2_nearest cX2_nearest 10 (some .int) [.ref (ad 27), .int p1, .int p2] ad true U T eI q := by
  refine cr_of (by decide) (Nat.le_of_ble_eq_true rfl) fun x S0 hn9 C M => ?_
  have C : CB x RX2 cX2_nearest := C
  refine Jr.eq (lv' := [(0, .ref (ad 27)), (1, .int p1), (2, .int p2)]) (st' := []) rfl rfl ?_
  unfold f_X2_nearest at h
  refine r_aload_n C dX2_nearest_0 rfl 0 rfl ?_
  refine r_getp (f := 207) (j := 35) C flX2_35 dX2_nearest_1 kq_27 (by decide) rfl (fun W => pt_207 kq_27 W) ?_
  refine r_iload_n C dX2_nearest_4 rfl 2 rfl ?_
  refine r_iald (n := 8) C dX2_nearest_5 kq_35 lq_35 h (fun j1 hj2 h => ?_)
  refine r_lbI h (fun v3 h => ?_)
  refine r_istore_n (lv' := [(3, .int v3), (0, .ref (ad 27)), (1, .int p1), (2, .int p2)]) C dX2_nearest_6 rfl (by rw [hn9]; decide) rfl ?_
  show Jr _ _ _ _ _ _ 7 _
  refine r_iconst (v := 0) C dX2_nearest_7 (by decide) ?_
  refine r_istore (lv' := [(4, .int 0), (3, .int v3), (0, .ref (ad 27)), (1, .int p1), (2, .int p2)]) C dX2_nearest_8 (by rw [hn9]; decide) rfl ?_
  refine r_iconst (v := 0) C dX2_nearest_10 (by decide) ?_
  refine r_istore (lv' := [(5, .int 0), (4, .int 0), (3, .int v3), (0, .ref (ad 27)), (1, .int p1), (2, .int p2)]) C dX2_nearest_11 (by rw [hn9]; decide) rfl ?_
  refine r_iconst (v := 0) C dX2_nearest_13 (by decide) ?_
  refine r_istore (lv' := [(6, .int 0), (5, .int 0), (4, .int 0), (3, .int v3), (0, .ref (ad 27)), (1, .int p1), (2, .int p2)]) C dX2_nearest_14 (by rw [hn9]; decide) rfl ?_
  refine Jr.sub [4, 5, 6, 3, 2, 1, 0] (lv' := [(0, .ref (ad 27)), (1, .int p1), (2, .int p2), (3, .int v3), (4, .int 0), (5, .int 0), (6, .int 0)]) rfl ?_
  exact s_X2_nearest_l16 hn9 C M  FU p1 p2 v3 0 0 0 T h
theorem dX2_choose_0 : decode cX2_choose 0 = .ok (.ldc 113, 2) := by decide +kernel
theorem dX2_choose_2 : decode cX2_choose 2 = .ok (.istore_n 1, 1) := by decide +kernel
theorem dX2_choose_3 : decode cX2_choose 3 = .ok (.iconst 0, 1) := by decide +kernel
theorem dX2_choose_4 : decode cX2_choose 4 = .ok (.istore_n 2, 1) := by decide +kernel
theorem dX2_choose_5 : decode cX2_choose 5 = .ok (.iload_n 2, 1) := by decide +kernel
theorem dX2_choose_6 : decode cX2_choose 6 = .ok (.bipush 16, 2) := by decide +kernel
theorem dX2_choose_8 : decode cX2_choose 8 = .ok (.if_icmp .ge 30, 3) := by decide +kernel
theorem dX2_choose_11 : decode cX2_choose 11 = .ok (.iload_n 1, 1) := by decide +kernel
theorem dX2_choose_12 : decode cX2_choose 12 = .ok (.aload_n 0, 1) := by decide +kernel
theorem dX2_choose_13 : decode cX2_choose 13 = .ok (.getfield 14, 3) := by decide +kernel
theorem dX2_choose_16 : decode cX2_choose 16 = .ok (.iload_n 2, 1) := by decide +kernel
theorem dX2_choose_17 : decode cX2_choose 17 = .ok (.invokevirtual 58, 3) := by decide +kernel
theorem dX2_choose_20 : decode cX2_choose 20 = .ok (.ifCond .eq 9, 3) := by decide +kernel
theorem dX2_choose_23 : decode cX2_choose 23 = .ok (.iconst 1, 1) := by decide +kernel
theorem dX2_choose_24 : decode cX2_choose 24 = .ok (.iload_n 2, 1) := by decide +kernel
theorem dX2_choose_25 : decode cX2_choose 25 = .ok (.ishl, 1) := by decide +kernel
theorem dX2_choose_26 : decode cX2_choose 26 = .ok (.goto 4, 3) := by decide +kernel
theorem dX2_choose_29 : decode cX2_choose 29 = .ok (.iconst 0, 1) := by decide +kernel
theorem dX2_choose_30 : decode cX2_choose 30 = .ok (.ior, 1) := by decide +kernel
theorem dX2_choose_31 : decode cX2_choose 31 = .ok (.istore_n 1, 1) := by decide +kernel
theorem dX2_choose_32 : decode cX2_choose 32 = .ok (.iinc 2 1, 3) := by decide +kernel
theorem dX2_choose_35 : decode cX2_choose 35 = .ok (.goto (-30), 3) := by decide +kernel
theorem dX2_choose_38 : decode cX2_choose 38 = .ok (.aload_n 0, 1) := by decide +kernel
theorem dX2_choose_39 : decode cX2_choose 39 = .ok (.iload_n 1, 1) := by decide +kernel
theorem dX2_choose_40 : decode cX2_choose 40 = .ok (.iconst 0, 1) := by decide +kernel
theorem dX2_choose_41 : decode cX2_choose 41 = .ok (.aload_n 0, 1) := by decide +kernel
theorem dX2_choose_42 : decode cX2_choose 42 = .ok (.getfield 35, 3) := by decide +kernel
theorem dX2_choose_45 : decode cX2_choose 45 = .ok (.iconst 0, 1) := by decide +kernel
theorem dX2_choose_46 : decode cX2_choose 46 = .ok (.iaload, 1) := by decide +kernel
theorem dX2_choose_47 : decode cX2_choose 47 = .ok (.invokevirtual 114, 3) := by decide +kernel
theorem dX2_choose_50 : decode cX2_choose 50 = .ok (.istore_n 1, 1) := by decide +kernel
theorem dX2_choose_51 : decode cX2_choose 51 = .ok (.aload_n 0, 1) := by decide +kernel
theorem dX2_choose_52 : decode cX2_choose 52 = .ok (.iload_n 1, 1) := by decide +kernel
theorem dX2_choose_53 : decode cX2_choose 53 = .ok (.iconst 1, 1) := by decide +kernel
theorem dX2_choose_54 : decode cX2_choose 54 = .ok (.aload_n 0, 1) := by decide +kernel
theorem dX2_choose_55 : decode cX2_choose 55 = .ok (.getfield 35, 3) := by decide +kernel
theorem dX2_choose_58 : decode cX2_choose 58 = .ok (.iconst 1, 1) := by decide +kernel
theorem dX2_choose_59 : decode cX2_choose 59 = .ok (.iaload, 1) := by decide +kernel
theorem dX2_choose_60 : decode cX2_choose 60 = .ok (.invokevirtual 114, 3) := by decide +kernel
theorem dX2_choose_63 : decode cX2_choose 63 = .ok (.istore_n 1, 1) := by decide +kernel
theorem dX2_choose_64 : decode cX2_choose 64 = .ok (.aload_n 0, 1) := by decide +kernel
theorem dX2_choose_65 : decode cX2_choose 65 = .ok (.getfield 35, 3) := by decide +kernel
theorem dX2_choose_68 : decode cX2_choose 68 = .ok (.iconst 1, 1) := by decide +kernel
theorem dX2_choose_69 : decode cX2_choose 69 = .ok (.iaload, 1) := by decide +kernel
theorem dX2_choose_70 : decode cX2_choose 70 = .ok (.ifCond .ne 16, 3) := by decide +kernel
theorem dX2_choose_73 : decode cX2_choose 73 = .ok (.aload_n 0, 1) := by decide +kernel
theorem dX2_choose_74 : decode cX2_choose 74 = .ok (.iload_n 1, 1) := by decide +kernel
theorem dX2_choose_75 : decode cX2_choose 75 = .ok (.iconst 2, 1) := by decide +kernel
theorem dX2_choose_76 : decode cX2_choose 76 = .ok (.aload_n 0, 1) := by decide +kernel
theorem dX2_choose_77 : decode cX2_choose 77 = .ok (.iload_n 1, 1) := by decide +kernel
theorem dX2_choose_78 : decode cX2_choose 78 = .ok (.iconst 2, 1) := by decide +kernel
theorem dX2_choose_79 : decode cX2_choose 79 = .ok (.invokevirtual 118, 3) := by decide +kernel
theorem dX2_choose_82 : decode cX2_choose 82 = .ok (.invokevirtual 114, 3) := by decide +kernel
theorem dX2_choose_85 : decode cX2_choose 85 = .ok (.istore_n 1, 1) := by decide +kernel
theorem dX2_choose_86 : decode cX2_choose 86 = .ok (.aload_n 0, 1) := by decide +kernel
theorem dX2_choose_87 : decode cX2_choose 87 = .ok (.iload_n 1, 1) := by decide +kernel
theorem dX2_choose_88 : decode cX2_choose 88 = .ok (.iconst 3, 1) := by decide +kernel
theorem dX2_choose_89 : decode cX2_choose 89 = .ok (.aload_n 0, 1) := by decide +kernel
theorem dX2_choose_90 : decode cX2_choose 90 = .ok (.iload_n 1, 1) := by decide +kernel
theorem dX2_choose_91 : decode cX2_choose 91 = .ok (.iconst 3, 1) := by decide +kernel
theorem dX2_choose_92 : decode cX2_choose 92 = .ok (.invokevirtual 118, 3) := by decide +kernel
theorem dX2_choose_95 : decode cX2_choose 95 = .ok (.invokevirtual 114, 3) := by decide +kernel
theorem dX2_choose_98 : decode cX2_choose 98 = .ok (.istore_n 1, 1) := by decide +kernel
theorem dX2_choose_99 : decode cX2_choose 99 = .ok (.aload_n 0, 1) := by decide +kernel
theorem dX2_choose_100 : decode cX2_choose 100 = .ok (.iload_n 1, 1) := by decide +kernel
theorem dX2_choose_101 : decode cX2_choose 101 = .ok (.iconst 4, 1) := by decide +kernel
theorem dX2_choose_102 : decode cX2_choose 102 = .ok (.aload_n 0, 1) := by decide +kernel
theorem dX2_choose_103 : decode cX2_choose 103 = .ok (.getfield 35, 3) := by decide +kernel
theorem dX2_choose_106 : decode cX2_choose 106 = .ok (.iconst 4, 1) := by decide +kernel
theorem dX2_choose_107 : decode cX2_choose 107 = .ok (.iaload, 1) := by decide +kernel
theorem dX2_choose_108 : decode cX2_choose 108 = .ok (.invokevirtual 114, 3) := by decide +kernel
theorem dX2_choose_111 : decode cX2_choose 111 = .ok (.istore_n 1, 1) := by decide +kernel
theorem dX2_choose_112 : decode cX2_choose 112 = .ok (.aload_n 0, 1) := by decide +kernel
theorem dX2_choose_113 : decode cX2_choose 113 = .ok (.iload_n 1, 1) := by decide +kernel
theorem dX2_choose_114 : decode cX2_choose 114 = .ok (.iconst 5, 1) := by decide +kernel
theorem dX2_choose_115 : decode cX2_choose 115 = .ok (.aload_n 0, 1) := by decide +kernel
theorem dX2_choose_116 : decode cX2_choose 116 = .ok (.iload_n 1, 1) := by decide +kernel
theorem dX2_choose_117 : decode cX2_choose 117 = .ok (.iconst 5, 1) := by decide +kernel
theorem dX2_choose_118 : decode cX2_choose 118 = .ok (.invokevirtual 118, 3) := by decide +kernel
theorem dX2_choose_121 : decode cX2_choose 121 = .ok (.invokevirtual 114, 3) := by decide +kernel
theorem dX2_choose_124 : decode cX2_choose 124 = .ok (.istore_n 1, 1) := by decide +kernel
theorem dX2_choose_125 : decode cX2_choose 125 = .ok (.aload_n 0, 1) := by decide +kernel
theorem dX2_choose_126 : decode cX2_choose 126 = .ok (.iload_n 1, 1) := by decide +kernel
theorem dX2_choose_127 : decode cX2_choose 127 = .ok (.bipush 6, 2) := by decide +kernel
theorem dX2_choose_129 : decode cX2_choose 129 = .ok (.aload_n 0, 1) := by decide +kernel
theorem dX2_choose_130 : decode cX2_choose 130 = .ok (.getfield 35, 3) := by decide +kernel
theorem dX2_choose_133 : decode cX2_choose 133 = .ok (.bipush 6, 2) := by decide +kernel
theorem dX2_choose_135 : decode cX2_choose 135 = .ok (.iaload, 1) := by decide +kernel
theorem dX2_choose_136 : decode cX2_choose 136 = .ok (.invokevirtual 114, 3) := by decide +kernel
theorem dX2_choose_139 : decode cX2_choose 139 = .ok (.istore_n 1, 1) := by decide +kernel
theorem dX2_choose_140 : decode cX2_choose 140 = .ok (.bipush 31, 2) := by decide +kernel
theorem dX2_choose_142 : decode cX2_choose 142 = .ok (.iload_n 1, 1) := by decide +kernel
theorem dX2_choose_143 : decode cX2_choose 143 = .ok (.iload_n 1, 1) := by decide +kernel
theorem dX2_choose_144 : decode cX2_choose 144 = .ok (.ineg, 1) := by decide +kernel
theorem dX2_choose_145 : decode cX2_choose 145 = .ok (.iand, 1) := by decide +kernel
theorem dX2_choose_146 : decode cX2_choose 146 = .ok (.invokestatic 121, 3) := by decide +kernel
theorem dX2_choose_149 : decode cX2_choose 149 = .ok (.isub, 1) := by decide +kernel
theorem dX2_choose_150 : decode cX2_choose 150 = .ok (.ireturn, 1) := by decide +kernel
noncomputable def f_X2_choose_86 (a1 : Int32) (T : Mm) : Option (Int32 × Mm) :=
  bd (f_X2_nearest a1 3 T) fun v1 T2 =>
  bd (f_X2_alike a1 3 v1 T2) fun v3 T4 =>
  bd (f_X2_alike v3 4 (gA T4 35 4) T4) fun v5 T6 =>
  bd (f_X2_nearest v5 5 T6) fun v7 T8 =>
  bd (f_X2_alike v5 5 v7 T8) fun v9 T10 =>
  bd (f_X2_alike v9 6 (gA T10 35 6) T10) fun v11 T12 =>
  bd (f_X11_zerosAhead (v11 &&& (-v11)) T12) fun v13 T14 =>
  some (((31 : Int32) - v13), T14)
set_option maxRecDepth 100000 in
set_option maxHeartbeats 4000000 in
theorem s_X2_choose_86 {x : JX} {ad : Nat → Nat} {U : Mm} {S0 : Hp} {q : Int32 × Mm}  (hn9 : x_n x = 3) (C : CB x RX2 cX2_choose) (M : CMr x 3 (some .int) S0 ad true U eI q) (a1 : Int32) (T : Mm) (h : f_X2_choose_86  a1 T = some q) : Jr x ad true U T [(0, .ref (ad 27)), (1, .int a1)] 86 [] := by
  unfold f_X2_choose_86 at h
  refine r_aload_n C dX2_choose_86 rfl 0 rfl ?_
  refine r_iload_n C dX2_choose_87 rfl 1 rfl ?_
  refine r_iconst (v := 3) C dX2_choose_88 (by decide) ?_
  refine r_aload_n C dX2_choose_89 rfl 0 rfl ?_
  refine r_iload_n C dX2_choose_90 rfl 1 rfl ?_
  show Jr _ _ _ _ _ _ 91 _
  refine r_iconst (v := 3) C dX2_choose_91 (by decide) ?_
  refine r_callVI C M h [.int a1, .int 3] [.int 3, .int a1, .ref (ad 27)] mlX2_118 mcX2_nearest (fun q9 e9 => s_X2_nearest a1 3  e9) kq_27 rfl (by decide) (by decide) rfl rfl (Nat.le_of_ble_eq_true rfl) dX2_choose_92 (fun v1 T2 h => ?_)
  refine r_callVI C M h [.int a1, .int 3, .int v1] [] mlX2_114 mcX2_alike (fun q9 e9 => s_X2_alike a1 3 v1  e9) kq_27 rfl (by decide) (by decide) rfl rfl (Nat.le_of_ble_eq_true rfl) dX2_choose_95 (fun v3 T4 h => ?_)
  refine r_istore_n (lv' := [(1, .int v3), (0, .ref (ad 27))]) C dX2_choose_98 rfl (by rw [hn9]; decide) rfl ?_
  refine r_aload_n C dX2_choose_99 rfl 1 rfl ?_
  refine r_iload_n C dX2_choose_100 rfl 0 rfl ?_
  show Jr _ _ _ _ _ _ 101 _
  refine r_iconst (v := 4) C dX2_choose_101 (by decide) ?_
  refine r_aload_n C dX2_choose_102 rfl 1 rfl ?_
  refine r_getp (f := 207) (j := 35) C flX2_35 dX2_choose_103 kq_27 (by decide) rfl (fun W => pt_207 kq_27 W) ?_
  refine r_iconst (v := 4) C dX2_choose_106 (by decide) ?_
  refine r_ialdc (n := 8) C 4 dX2_choose_107 kq_35 lq_35 (vp_lit (by decide)) (by decide) ?_
  refine r_callVI C M h [.int v3, .int 4, .int (gA T4 35 4)] [] mlX2_114 mcX2_alike (fun q9 e9 => s_X2_alike v3 4 (gA T4 35 4)  e9) kq_27 rfl (by decide) (by decide) rfl rfl (Nat.le_of_ble_eq_true rfl) dX2_choose_108 (fun v5 T6 h => ?_)
  show Jr _ _ _ _ _ _ 111 _
  refine r_istore_n (lv' := [(1, .int v5), (0, .ref (ad 27))]) C dX2_choose_111 rfl (by rw [hn9]; decide) rfl ?_
  refine r_aload_n C dX2_choose_112 rfl 1 rfl ?_
  refine r_iload_n C dX2_choose_113 rfl 0 rfl ?_
  refine r_iconst (v := 5) C dX2_choose_114 (by decide) ?_
  refine r_aload_n C dX2_choose_115 rfl 1 rfl ?_
  refine r_iload_n C dX2_choose_116 rfl 0 rfl ?_
  show Jr _ _ _ _ _ _ 117 _
  refine r_iconst (v := 5) C dX2_choose_117 (by decide) ?_
  refine r_callVI C M h [.int v5, .int 5] [.int 5, .int v5, .ref (ad 27)] mlX2_118 mcX2_nearest (fun q9 e9 => s_X2_nearest v5 5  e9) kq_27 rfl (by decide) (by decide) rfl rfl (Nat.le_of_ble_eq_true rfl) dX2_choose_118 (fun v7 T8 h => ?_)
  refine r_callVI C M h [.int v5, .int 5, .int v7] [] mlX2_114 mcX2_alike (fun q9 e9 => s_X2_alike v5 5 v7  e9) kq_27 rfl (by decide) (by decide) rfl rfl (Nat.le_of_ble_eq_true rfl) dX2_choose_121 (fun v9 T10 h => ?_)
  refine r_istore_n (lv' := [(1, .int v9), (0, .ref (ad 27))]) C dX2_choose_124 rfl (by rw [hn9]; decide) rfl ?_
  refine r_aload_n C dX2_choose_125 rfl 1 rfl ?_
  refine r_iload_n C dX2_choose_126 rfl 0 rfl ?_
  show Jr _ _ _ _ _ _ 127 _
  refine r_bipush (v := 6) C dX2_choose_127 (by decide) ?_
  refine r_aload_n C dX2_choose_129 rfl 1 rfl ?_
  refine r_getp (f := 207) (j := 35) C flX2_35 dX2_choose_130 kq_27 (by decide) rfl (fun W => pt_207 kq_27 W) ?_
  refine r_bipush (v := 6) C dX2_choose_133 (by decide) ?_
  refine r_ialdc (n := 8) C 6 dX2_choose_135 kq_35 lq_35 (vp_lit (by decide)) (by decide) ?_
  refine r_callVI C M h [.int v9, .int 6, .int (gA T10 35 6)] [] mlX2_114 mcX2_alike (fun q9 e9 => s_X2_alike v9 6 (gA T10 35 6)  e9) kq_27 rfl (by decide) (by decide) rfl rfl (Nat.le_of_ble_eq_true rfl) dX2_choose_136 (fun v11 T12 h => ?_)
  show Jr _ _ _ _ _ _ 139 _
  refine r_istore_n (lv' := [(1, .int v11), (0, .ref (ad 27))]) C dX2_choose_139 rfl (by rw [hn9]; decide) rfl ?_
  refine r_bipush (v := 31) C dX2_choose_140 (by decide) ?_
  refine r_iload_n C dX2_choose_142 rfl 0 rfl ?_
  refine r_iload_n C dX2_choose_143 rfl 0 rfl ?_
  refine r_ineg C dX2_choose_144 rfl ?_
  refine r_iand C dX2_choose_145 rfl ?_
  show Jr _ _ _ _ _ _ 146 _
  refine r_callSI C M h [.int (v11 &&& (-v11))] [.int 31] mlX2_121 mcX11_zerosAhead (fun q9 e9 => s_X11_zerosAhead (v11 &&& (-v11))  e9) (by decide) (by decide) rfl rfl (Nat.le_of_ble_eq_true rfl) dX2_choose_146 (fun v13 T14 h => ?_)
  refine r_isub C dX2_choose_149 rfl ?_
  exact r_iret C M dX2_choose_150 h
noncomputable def f_X2_choose_b5 (k5 : Int32 → Int32 → Mm → Option (Int32 × Mm)) (a1 : Int32) (a2 : Int32) (T : Mm) : Option (Int32 × Mm) :=
  if 16 ≤ a2 then (bd (f_X2_alike a1 0 (gA T 35 0) T) fun v1 T2 =>
  bd (f_X2_alike v1 1 (gA T2 35 1) T2) fun v3 T4 =>
  if (gA T4 35 1) = 0 then (bd (f_X2_nearest v3 2 T4) fun v5 T6 =>
  bd (f_X2_alike v3 2 v5 T6) fun v7 T8 =>
  f_X2_choose_86 v7 T8)
  else (f_X2_choose_86 v3 T4))
  else (bd (f_X8_has 28 a2 T) fun v9 T10 =>
  if v9 = 0 then (lb ((a1 ||| 0)) fun v11 =>
  k5 v11 (a2 + 1) T10)
  else (lb ((a1 ||| ((1 : Int32) <<< (a2 &&& 31)))) fun v12 =>
  k5 v12 (a2 + 1) T10))
set_option maxRecDepth 100000 in
set_option maxHeartbeats 4000000 in
theorem s_X2_choose_b5 {x : JX} {ad : Nat → Nat} {U : Mm} {S0 : Hp} {q : Int32 × Mm}  {k5 : Int32 → Int32 → Mm → Option (Int32 × Mm)} (hn9 : x_n x = 3) (C : CB x RX2 cX2_choose) (M : CMr x 3 (some .int) S0 ad true U eI q) (hk5 : ∀ (a1 : Int32) (a2 : Int32) (T : Mm), k5 a1 a2 T = some q → Jr x ad true U T [(0, .ref (ad 27)), (1, .int a1), (2, .int a2)] 5 []) (a1 : Int32) (a2 : Int32) (T : Mm) (h : f_X2_choose_b5 k5 a1 a2 T = some q) : Jr x ad true U T [(0, .ref (ad 27)), (1, .int a1), (2, .int a2)] 5 [] := by
  unfold f_X2_choose_b5 at h
  refine r_iload_n C dX2_choose_5 rfl 2 rfl ?_
  refine r_bipush (v := 16) C dX2_choose_6 (by decide) ?_
  refine r_ic_ge (tgt := 38) C dX2_choose_8 (by decide) h (fun h => ?_) (fun h => ?_)
  · refine r_aload_n C dX2_choose_38 rfl 0 rfl ?_
    refine r_iload_n C dX2_choose_39 rfl 1 rfl ?_
    refine r_iconst (v := 0) C dX2_choose_40 (by decide) ?_
    refine r_aload_n C dX2_choose_41 rfl 0 rfl ?_
    refine r_getp (f := 207) (j := 35) C flX2_35 dX2_choose_42 kq_27 (by decide) rfl (fun W => pt_207 kq_27 W) ?_
    show Jr _ _ _ _ _ _ 45 _
    refine r_iconst (v := 0) C dX2_choose_45 (by decide) ?_
    refine r_ialdc (n := 8) C 0 dX2_choose_46 kq_35 lq_35 (vp_lit (by decide)) (by decide) ?_
    refine r_callVI C M h [.int a1, .int 0, .int (gA T 35 0)] [] mlX2_114 mcX2_alike (fun q9 e9 => s_X2_alike a1 0 (gA T 35 0)  e9) kq_27 rfl (by decide) (by decide) rfl rfl (Nat.le_of_ble_eq_true rfl) dX2_choose_47 (fun v1 T2 h => ?_)
    refine r_istore_n (lv' := [(1, .int v1), (0, .ref (ad 27)), (2, .int a2)]) C dX2_choose_50 rfl (by rw [hn9]; decide) rfl ?_
    refine r_aload_n C dX2_choose_51 rfl 1 rfl ?_
    refine r_iload_n C dX2_choose_52 rfl 0 rfl ?_
    show Jr _ _ _ _ _ _ 53 _
    refine r_iconst (v := 1) C dX2_choose_53 (by decide) ?_
    refine r_aload_n C dX2_choose_54 rfl 1 rfl ?_
    refine r_getp (f := 207) (j := 35) C flX2_35 dX2_choose_55 kq_27 (by decide) rfl (fun W => pt_207 kq_27 W) ?_
    refine r_iconst (v := 1) C dX2_choose_58 (by decide) ?_
    refine r_ialdc (n := 8) C 1 dX2_choose_59 kq_35 lq_35 (vp_lit (by decide)) (by decide) ?_
    refine r_callVI C M h [.int v1, .int 1, .int (gA T2 35 1)] [] mlX2_114 mcX2_alike (fun q9 e9 => s_X2_alike v1 1 (gA T2 35 1)  e9) kq_27 rfl (by decide) (by decide) rfl rfl (Nat.le_of_ble_eq_true rfl) dX2_choose_60 (fun v3 T4 h => ?_)
    show Jr _ _ _ _ _ _ 63 _
    refine r_istore_n (lv' := [(1, .int v3), (0, .ref (ad 27)), (2, .int a2)]) C dX2_choose_63 rfl (by rw [hn9]; decide) rfl ?_
    refine r_aload_n C dX2_choose_64 rfl 1 rfl ?_
    refine r_getp (f := 207) (j := 35) C flX2_35 dX2_choose_65 kq_27 (by decide) rfl (fun W => pt_207 kq_27 W) ?_
    refine r_iconst (v := 1) C dX2_choose_68 (by decide) ?_
    refine r_ialdc (n := 8) C 1 dX2_choose_69 kq_35 lq_35 (vp_lit (by decide)) (by decide) ?_
    refine r_if_ne (tgt := 86) C dX2_choose_70 (by decide) h (fun h => ?_) (fun h => ?_)
    · refine Jr.sub [1, 0] (lv' := [(0, .ref (ad 27)), (1, .int v3)]) rfl ?_
      exact s_X2_choose_86 hn9 C M  v3 T4 h
    · refine r_aload_n C dX2_choose_73 rfl 1 rfl ?_
      refine r_iload_n C dX2_choose_74 rfl 0 rfl ?_
      refine r_iconst (v := 2) C dX2_choose_75 (by decide) ?_
      refine r_aload_n C dX2_choose_76 rfl 1 rfl ?_
      refine r_iload_n C dX2_choose_77 rfl 0 rfl ?_
      show Jr _ _ _ _ _ _ 78 _
      refine r_iconst (v := 2) C dX2_choose_78 (by decide) ?_
      refine r_callVI C M h [.int v3, .int 2] [.int 2, .int v3, .ref (ad 27)] mlX2_118 mcX2_nearest (fun q9 e9 => s_X2_nearest v3 2  e9) kq_27 rfl (by decide) (by decide) rfl rfl (Nat.le_of_ble_eq_true rfl) dX2_choose_79 (fun v5 T6 h => ?_)
      refine r_callVI C M h [.int v3, .int 2, .int v5] [] mlX2_114 mcX2_alike (fun q9 e9 => s_X2_alike v3 2 v5  e9) kq_27 rfl (by decide) (by decide) rfl rfl (Nat.le_of_ble_eq_true rfl) dX2_choose_82 (fun v7 T8 h => ?_)
      refine r_istore_n (lv' := [(1, .int v7), (0, .ref (ad 27)), (2, .int a2)]) C dX2_choose_85 rfl (by rw [hn9]; decide) rfl ?_
      refine Jr.sub [1, 0] (lv' := [(0, .ref (ad 27)), (1, .int v7)]) rfl ?_
      exact s_X2_choose_86 hn9 C M  v7 T8 h
  · refine r_iload_n C dX2_choose_11 rfl 1 rfl ?_
    refine r_aload_n C dX2_choose_12 rfl 0 rfl ?_
    refine r_getp (f := 200) (j := 28) C flX2_14 dX2_choose_13 kq_27 (by decide) rfl (fun W => pt_200 kq_27 W) ?_
    refine r_iload_n C dX2_choose_16 rfl 2 rfl ?_
    refine r_callVI C M h [.int a2] [.int a1] mlX2_58 mcX8_has (fun q9 e9 => s_X8_has 28 a2 kq_28 e9) kq_28 rfl (by decide) (by decide) rfl rfl (Nat.le_of_ble_eq_true rfl) dX2_choose_17 (fun v9 T10 h => ?_)
    show Jr _ _ _ _ _ _ 20 _
    refine r_if_eq (tgt := 29) C dX2_choose_20 (by decide) h (fun h => ?_) (fun h => ?_)
    · refine r_iconst (v := 0) C dX2_choose_29 (by decide) ?_
      refine r_ior C dX2_choose_30 rfl ?_
      refine r_lbI h (fun v11 h => ?_)
      refine r_istore_n (lv' := [(1, .int v11), (0, .ref (ad 27)), (2, .int a2)]) C dX2_choose_31 rfl (by rw [hn9]; decide) rfl ?_
      refine r_iinc (q := 2) (v := (a2 + 1)) (lv' := [(2, .int (a2 + 1)), (1, .int v11), (0, .ref (ad 27))]) C dX2_choose_32 rfl (by rw [show Int32.ofInt (1) = 1 by decide]) (by rw [hn9]; decide) rfl ?_
      refine r_goto (tgt := 5) C dX2_choose_35 (by decide) ?_
      refine Jr.sub [2, 1, 0] (lv' := [(0, .ref (ad 27)), (1, .int v11), (2, .int (a2 + 1))]) rfl ?_
      exact hk5 v11 (a2 + 1) T10 h
    · refine r_iconst (v := 1) C dX2_choose_23 (by decide) ?_
      refine r_iload_n C dX2_choose_24 rfl 2 rfl ?_
      refine r_ishl C dX2_choose_25 rfl ?_
      refine r_goto (tgt := 30) C dX2_choose_26 (by decide) ?_
      refine r_ior C dX2_choose_30 rfl ?_
      show Jr _ _ _ _ _ _ 31 _
      refine r_lbI h (fun v12 h => ?_)
      refine r_istore_n (lv' := [(1, .int v12), (0, .ref (ad 27)), (2, .int a2)]) C dX2_choose_31 rfl (by rw [hn9]; decide) rfl ?_
      refine r_iinc (q := 2) (v := (a2 + 1)) (lv' := [(2, .int (a2 + 1)), (1, .int v12), (0, .ref (ad 27))]) C dX2_choose_32 rfl (by rw [show Int32.ofInt (1) = 1 by decide]) (by rw [hn9]; decide) rfl ?_
      refine r_goto (tgt := 5) C dX2_choose_35 (by decide) ?_
      refine Jr.sub [2, 1, 0] (lv' := [(0, .ref (ad 27)), (1, .int v12), (2, .int (a2 + 1))]) rfl ?_
      exact hk5 v12 (a2 + 1) T10 h
noncomputable def f_X2_choose_l5 (n : Nat) : Int32 → Int32 → Mm → Option (Int32 × Mm) := Nat.rec (fun _ _ _ => none) (fun _ ih => f_X2_choose_b5 ih) n
theorem s_X2_choose_l5 {x : JX} {ad : Nat → Nat} {U : Mm} {S0 : Hp} {q : Int32 × Mm}  (hn9 : x_n x = 3) (C : CB x RX2 cX2_choose) (M : CMr x 3 (some .int) S0 ad true U eI q) : ∀ (n : Nat), ∀ (a1 : Int32) (a2 : Int32) (T : Mm), f_X2_choose_l5  n a1 a2 T = some q → Jr x ad true U T [(0, .ref (ad 27)), (1, .int a1), (2, .int a2)] 5 [] := by
  intro n
  induction n with
  | zero => intro a1 a2 T  h; exact absurd h (by intro h; cases h)
  | succ n ih => exact fun a1 a2 T  h => s_X2_choose_b5 hn9 C M (ih) a1 a2 T  h
noncomputable def f_X2_choose (T : Mm) : Option (Int32 × Mm) :=
  f_X2_choose_l5 FU 65536 0 T
set_option maxRecDepth 100000 in
set_option maxHeartbeats 4000000 in
theorem s_X2_choose {ad : Nat → Nat} {U T : Mm} {q : Int32 × Mm}  (h : f_X2_choose  T = some q) : Cr 3 yX2_choose cX2_choose 3 (some .int) [.ref (ad 27)] ad true U T eI q := by
  refine cr_of (by decide) (Nat.le_of_ble_eq_true rfl) fun x S0 hn9 C M => ?_
  have C : CB x RX2 cX2_choose := C
  refine Jr.eq (lv' := [(0, .ref (ad 27))]) (st' := []) rfl rfl ?_
  unfold f_X2_choose at h
  refine r_ldc (v := 65536) C dX2_choose_0 kcX2_113 ?_
  refine r_istore_n (lv' := [(1, .int 65536), (0, .ref (ad 27))]) C dX2_choose_2 rfl (by rw [hn9]; decide) rfl ?_
  refine r_iconst (v := 0) C dX2_choose_3 (by decide) ?_
  refine r_istore_n (lv' := [(2, .int 0), (1, .int 65536), (0, .ref (ad 27))]) C dX2_choose_4 rfl (by rw [hn9]; decide) rfl ?_
  refine Jr.sub [2, 1, 0] (lv' := [(0, .ref (ad 27)), (1, .int 65536), (2, .int 0)]) rfl ?_
  exact s_X2_choose_l5 hn9 C M  FU 65536 0 T h
theorem dX2_inUse_0 : decode cX2_inUse 0 = .ok (.aload_n 0, 1) := by decide +kernel
theorem dX2_inUse_1 : decode cX2_inUse 1 = .ok (.getfield 94, 3) := by decide +kernel
theorem dX2_inUse_4 : decode cX2_inUse 4 = .ok (.ifCond .eq 14, 3) := by decide +kernel
theorem dX2_inUse_7 : decode cX2_inUse 7 = .ok (.aload_n 1, 1) := by decide +kernel
theorem dX2_inUse_8 : decode cX2_inUse 8 = .ok (.arraylength, 1) := by decide +kernel
theorem dX2_inUse_9 : decode cX2_inUse 9 = .ok (.bipush 8, 2) := by decide +kernel
theorem dX2_inUse_11 : decode cX2_inUse 11 = .ok (.if_icmp .lt 7, 3) := by decide +kernel
theorem dX2_inUse_14 : decode cX2_inUse 14 = .ok (.iconst 1, 1) := by decide +kernel
theorem dX2_inUse_15 : decode cX2_inUse 15 = .ok (.goto 4, 3) := by decide +kernel
theorem dX2_inUse_18 : decode cX2_inUse 18 = .ok (.iconst 0, 1) := by decide +kernel
theorem dX2_inUse_19 : decode cX2_inUse 19 = .ok (.istore_n 2, 1) := by decide +kernel
theorem dX2_inUse_20 : decode cX2_inUse 20 = .ok (.iconst 0, 1) := by decide +kernel
theorem dX2_inUse_21 : decode cX2_inUse 21 = .ok (.istore_n 3, 1) := by decide +kernel
theorem dX2_inUse_22 : decode cX2_inUse 22 = .ok (.iload_n 2, 1) := by decide +kernel
theorem dX2_inUse_23 : decode cX2_inUse 23 = .ok (.ifCond .eq 33, 3) := by decide +kernel
theorem dX2_inUse_26 : decode cX2_inUse 26 = .ok (.iload_n 3, 1) := by decide +kernel
theorem dX2_inUse_27 : decode cX2_inUse 27 = .ok (.bipush 8, 2) := by decide +kernel
theorem dX2_inUse_29 : decode cX2_inUse 29 = .ok (.if_icmp .ge 27, 3) := by decide +kernel
theorem dX2_inUse_32 : decode cX2_inUse 32 = .ok (.aload_n 1, 1) := by decide +kernel
theorem dX2_inUse_33 : decode cX2_inUse 33 = .ok (.iload_n 3, 1) := by decide +kernel
theorem dX2_inUse_34 : decode cX2_inUse 34 = .ok (.iaload, 1) := by decide +kernel
theorem dX2_inUse_35 : decode cX2_inUse 35 = .ok (.aload_n 0, 1) := by decide +kernel
theorem dX2_inUse_36 : decode cX2_inUse 36 = .ok (.getfield 35, 3) := by decide +kernel
theorem dX2_inUse_39 : decode cX2_inUse 39 = .ok (.iload_n 3, 1) := by decide +kernel
theorem dX2_inUse_40 : decode cX2_inUse 40 = .ok (.iaload, 1) := by decide +kernel
theorem dX2_inUse_41 : decode cX2_inUse 41 = .ok (.if_icmp .ne 7, 3) := by decide +kernel
theorem dX2_inUse_44 : decode cX2_inUse 44 = .ok (.iconst 1, 1) := by decide +kernel
theorem dX2_inUse_45 : decode cX2_inUse 45 = .ok (.goto 4, 3) := by decide +kernel
theorem dX2_inUse_48 : decode cX2_inUse 48 = .ok (.iconst 0, 1) := by decide +kernel
theorem dX2_inUse_49 : decode cX2_inUse 49 = .ok (.istore_n 2, 1) := by decide +kernel
theorem dX2_inUse_50 : decode cX2_inUse 50 = .ok (.iinc 3 1, 3) := by decide +kernel
theorem dX2_inUse_53 : decode cX2_inUse 53 = .ok (.goto (-31), 3) := by decide +kernel
theorem dX2_inUse_56 : decode cX2_inUse 56 = .ok (.iload_n 2, 1) := by decide +kernel
theorem dX2_inUse_57 : decode cX2_inUse 57 = .ok (.ifCond .ne 59, 3) := by decide +kernel
theorem dX2_inUse_60 : decode cX2_inUse 60 = .ok (.aload_n 1, 1) := by decide +kernel
theorem dX2_inUse_61 : decode cX2_inUse 61 = .ok (.arraylength, 1) := by decide +kernel
theorem dX2_inUse_62 : decode cX2_inUse 62 = .ok (.bipush 8, 2) := by decide +kernel
theorem dX2_inUse_64 : decode cX2_inUse 64 = .ok (.if_icmp .lt 52, 3) := by decide +kernel
theorem dX2_inUse_67 : decode cX2_inUse 67 = .ok (.aload_n 1, 1) := by decide +kernel
theorem dX2_inUse_68 : decode cX2_inUse 68 = .ok (.iconst 0, 1) := by decide +kernel
theorem dX2_inUse_69 : decode cX2_inUse 69 = .ok (.aload_n 0, 1) := by decide +kernel
theorem dX2_inUse_70 : decode cX2_inUse 70 = .ok (.getfield 35, 3) := by decide +kernel
theorem dX2_inUse_73 : decode cX2_inUse 73 = .ok (.iconst 0, 1) := by decide +kernel
theorem dX2_inUse_74 : decode cX2_inUse 74 = .ok (.bipush 8, 2) := by decide +kernel
theorem dX2_inUse_76 : decode cX2_inUse 76 = .ok (.invokestatic 42, 3) := by decide +kernel
theorem dX2_inUse_79 : decode cX2_inUse 79 = .ok (.aload_n 0, 1) := by decide +kernel
theorem dX2_inUse_80 : decode cX2_inUse 80 = .ok (.aload_n 0, 1) := by decide +kernel
theorem dX2_inUse_81 : decode cX2_inUse 81 = .ok (.aload_n 0, 1) := by decide +kernel
theorem dX2_inUse_82 : decode cX2_inUse 82 = .ok (.getfield 35, 3) := by decide +kernel
theorem dX2_inUse_85 : decode cX2_inUse 85 = .ok (.bipush 7, 2) := by decide +kernel
theorem dX2_inUse_87 : decode cX2_inUse 87 = .ok (.iaload, 1) := by decide +kernel
theorem dX2_inUse_88 : decode cX2_inUse 88 = .ok (.invokevirtual 62, 3) := by decide +kernel
theorem dX2_inUse_91 : decode cX2_inUse 91 = .ok (.ifCond .eq 13, 3) := by decide +kernel
theorem dX2_inUse_94 : decode cX2_inUse 94 = .ok (.aload_n 0, 1) := by decide +kernel
theorem dX2_inUse_95 : decode cX2_inUse 95 = .ok (.getfield 35, 3) := by decide +kernel
theorem dX2_inUse_98 : decode cX2_inUse 98 = .ok (.bipush 7, 2) := by decide +kernel
theorem dX2_inUse_100 : decode cX2_inUse 100 = .ok (.iaload, 1) := by decide +kernel
theorem dX2_inUse_101 : decode cX2_inUse 101 = .ok (.goto 7, 3) := by decide +kernel
theorem dX2_inUse_104 : decode cX2_inUse 104 = .ok (.aload_n 0, 1) := by decide +kernel
theorem dX2_inUse_105 : decode cX2_inUse 105 = .ok (.invokevirtual 106, 3) := by decide +kernel
theorem dX2_inUse_108 : decode cX2_inUse 108 = .ok (.putfield 110, 3) := by decide +kernel
theorem dX2_inUse_111 : decode cX2_inUse 111 = .ok (.aload_n 0, 1) := by decide +kernel
theorem dX2_inUse_112 : decode cX2_inUse 112 = .ok (.iconst 1, 1) := by decide +kernel
theorem dX2_inUse_113 : decode cX2_inUse 113 = .ok (.putfield 94, 3) := by decide +kernel
theorem dX2_inUse_116 : decode cX2_inUse 116 = .ok (.aload_n 0, 1) := by decide +kernel
theorem dX2_inUse_117 : decode cX2_inUse 117 = .ok (.getfield 110, 3) := by decide +kernel
theorem dX2_inUse_120 : decode cX2_inUse 120 = .ok (.ireturn, 1) := by decide +kernel
noncomputable def f_X2_inUse_56 (a1 : Nat) (a2 : Int32) (T : Mm) : Option (Int32 × Mm) :=
  if a2 = 0 then (if (Int32.ofNat (LN a1)) < 8 then (some ((gI T 208 27), T))
  else (cp 0 0 8 (LN a1) 8 fun q1 q2 q3 => lb (vA T 35 (va_cpy (gA T a1) (gA T 35) q1 q2 q3)) fun T4 =>
  bd (f_X2_has (gA T4 35 7) T4) fun v5 T6 =>
  if v5 = 0 then (bd (f_X2_choose T6) fun v7 T8 =>
  lb (uI T8 208 27 v7) fun T9 =>
  lb (uI T9 209 27 1) fun T10 =>
  some ((gI T10 208 27), T10))
  else (lb (uI T6 208 27 (gA T6 35 7)) fun T11 =>
  lb (uI T11 209 27 1) fun T12 =>
  some ((gI T12 208 27), T12))))
  else (some ((gI T 208 27), T))
set_option maxRecDepth 100000 in
set_option maxHeartbeats 4000000 in
theorem s_X2_inUse_56 {x : JX} {ad : Nat → Nat} {U : Mm} {S0 : Hp} {q : Int32 × Mm}  (hn9 : x_n x = 4) (C : CB x RX2 cX2_inUse) (M : CMr x 4 (some .int) S0 ad true U eI q) (a1 : Nat) (a2 : Int32) (T : Mm) (ha1 : kS true a1 = 14) (h : f_X2_inUse_56  a1 a2 T = some q) : Jr x ad true U T [(0, .ref (ad 27)), (1, .ref (ad a1)), (2, .int a2)] 56 [] := by
  unfold f_X2_inUse_56 at h
  refine r_iload_n C dX2_inUse_56 rfl 2 rfl ?_
  refine r_if_ne (tgt := 116) C dX2_inUse_57 (by decide) h (fun h => ?_) (fun h => ?_)
  · refine r_aload_n C dX2_inUse_116 rfl 0 rfl ?_
    refine r_geti (f := 208) C flX2_110 dX2_inUse_117 kq_27 (by decide) (by decide) rfl ?_
    exact r_iret C M dX2_inUse_120 h
  · refine r_aload_n C dX2_inUse_60 rfl 1 rfl ?_
    refine r_alen (n := 0) C dX2_inUse_61 ha1 (by decide) (by decide) rfl ?_
    refine r_bipush (v := 8) C dX2_inUse_62 (by decide) ?_
    refine r_ic_lt (tgt := 116) C dX2_inUse_64 (by decide) h (fun h => ?_) (fun h => ?_)
    · refine r_aload_n C dX2_inUse_116 rfl 0 rfl ?_
      refine r_geti (f := 208) C flX2_110 dX2_inUse_117 kq_27 (by decide) (by decide) rfl ?_
      exact r_iret C M dX2_inUse_120 h
    · refine r_aload_n C dX2_inUse_67 rfl 1 rfl ?_
      refine r_iconst (v := 0) C dX2_inUse_68 (by decide) ?_
      refine r_aload_n C dX2_inUse_69 rfl 0 rfl ?_
      refine r_getp (f := 207) (j := 35) C flX2_35 dX2_inUse_70 kq_27 (by decide) rfl (fun W => pt_207 kq_27 W) ?_
      refine r_iconst (v := 0) C dX2_inUse_73 (by decide) ?_
      show Jr _ _ _ _ _ _ 74 _
      refine r_bipush (v := 8) C dX2_inUse_74 (by decide) ?_
      refine r_copy (n0 := (LN a1)) (n1 := 8) (kd := 14) (ty := .int) C M (by decide) mlX2_42 (by decide) ha1 rfl kq_35 lq_35 dX2_inUse_76 h (fun q1 q2 q3 T4 h => ?_)
      refine r_aload_n C dX2_inUse_79 rfl 0 rfl ?_
      refine r_aload_n C dX2_inUse_80 rfl 0 rfl ?_
      refine r_aload_n C dX2_inUse_81 rfl 0 rfl ?_
      refine r_getp (f := 207) (j := 35) C flX2_35 dX2_inUse_82 kq_27 (by decide) rfl (fun W => pt_207 kq_27 W) ?_
      show Jr _ _ _ _ _ _ 85 _
      refine r_bipush (v := 7) C dX2_inUse_85 (by decide) ?_
      refine r_ialdc (n := 8) C 7 dX2_inUse_87 kq_35 lq_35 (vp_lit (by decide)) (by decide) ?_
      refine r_callVI C M h [.int (gA T4 35 7)] [.ref (ad 27)] mlX2_62 mcX2_has (fun q9 e9 => s_X2_has (gA T4 35 7)  e9) kq_27 rfl (by decide) (by decide) rfl rfl (Nat.le_of_ble_eq_true rfl) dX2_inUse_88 (fun v5 T6 h => ?_)
      refine r_if_eq (tgt := 104) C dX2_inUse_91 (by decide) h (fun h => ?_) (fun h => ?_)
      · refine r_aload_n C dX2_inUse_104 rfl 0 rfl ?_
        refine r_callVI C M h [] [.ref (ad 27)] mlX2_106 mcX2_choose (fun q9 e9 => s_X2_choose   e9) kq_27 rfl (by decide) (by decide) rfl rfl (Nat.le_of_ble_eq_true rfl) dX2_inUse_105 (fun v7 T8 h => ?_)
        refine r_puti (f := 208) C flX2_110 (by decide) rfl rfl dX2_inUse_108 kq_27 rfl h (fun T9 h => ?_)
        refine r_aload_n C dX2_inUse_111 rfl 0 rfl ?_
        refine r_iconst (v := 1) C dX2_inUse_112 (by decide) ?_
        show Jr _ _ _ _ _ _ 113 _
        refine r_putz (f := 209) C flX2_94 (by decide) rfl rfl (by decide) dX2_inUse_113 kq_27 rfl h (fun T10 h => ?_)
        refine r_aload_n C dX2_inUse_116 rfl 0 rfl ?_
        refine r_geti (f := 208) C flX2_110 dX2_inUse_117 kq_27 (by decide) (by decide) rfl ?_
        exact r_iret C M dX2_inUse_120 h
      · refine r_aload_n C dX2_inUse_94 rfl 0 rfl ?_
        refine r_getp (f := 207) (j := 35) C flX2_35 dX2_inUse_95 kq_27 (by decide) rfl (fun W => pt_207 kq_27 W) ?_
        refine r_bipush (v := 7) C dX2_inUse_98 (by decide) ?_
        refine r_ialdc (n := 8) C 7 dX2_inUse_100 kq_35 lq_35 (vp_lit (by decide)) (by decide) ?_
        refine r_goto (tgt := 108) C dX2_inUse_101 (by decide) ?_
        show Jr _ _ _ _ _ _ 108 _
        refine r_puti (f := 208) C flX2_110 (by decide) rfl rfl dX2_inUse_108 kq_27 rfl h (fun T11 h => ?_)
        refine r_aload_n C dX2_inUse_111 rfl 0 rfl ?_
        refine r_iconst (v := 1) C dX2_inUse_112 (by decide) ?_
        refine r_putz (f := 209) C flX2_94 (by decide) rfl rfl (by decide) dX2_inUse_113 kq_27 rfl h (fun T12 h => ?_)
        refine r_aload_n C dX2_inUse_116 rfl 0 rfl ?_
        refine r_geti (f := 208) C flX2_110 dX2_inUse_117 kq_27 (by decide) (by decide) rfl ?_
        show Jr _ _ _ _ _ _ 120 _
        exact r_iret C M dX2_inUse_120 h
noncomputable def f_X2_inUse_b22 (k22 : Nat → Int32 → Int32 → Mm → Option (Int32 × Mm)) (a1 : Nat) (a2 : Int32) (a3 : Int32) (T : Mm) : Option (Int32 × Mm) :=
  if a2 = 0 then (f_X2_inUse_56 a1 a2 T)
  else (if 8 ≤ a3 then (f_X2_inUse_56 a1 a2 T)
  else (ix a3 (LN a1) fun j1 =>
  ix a3 8 fun j3 =>
  if (gA T a1 j1) = (gA T 35 j3) then (k22 a1 1 (a3 + 1) T)
  else (k22 a1 0 (a3 + 1) T)))
set_option maxRecDepth 100000 in
set_option maxHeartbeats 4000000 in
theorem s_X2_inUse_b22 {x : JX} {ad : Nat → Nat} {U : Mm} {S0 : Hp} {q : Int32 × Mm}  {k22 : Nat → Int32 → Int32 → Mm → Option (Int32 × Mm)} (hn9 : x_n x = 4) (C : CB x RX2 cX2_inUse) (M : CMr x 4 (some .int) S0 ad true U eI q) (hk22 : ∀ (a1 : Nat) (a2 : Int32) (a3 : Int32) (T : Mm) (_ : kS true a1 = 14), k22 a1 a2 a3 T = some q → Jr x ad true U T [(0, .ref (ad 27)), (1, .ref (ad a1)), (2, .int a2), (3, .int a3)] 22 []) (a1 : Nat) (a2 : Int32) (a3 : Int32) (T : Mm) (ha1 : kS true a1 = 14) (h : f_X2_inUse_b22 k22 a1 a2 a3 T = some q) : Jr x ad true U T [(0, .ref (ad 27)), (1, .ref (ad a1)), (2, .int a2), (3, .int a3)] 22 [] := by
  unfold f_X2_inUse_b22 at h
  refine r_iload_n C dX2_inUse_22 rfl 2 rfl ?_
  refine r_if_eq (tgt := 56) C dX2_inUse_23 (by decide) h (fun h => ?_) (fun h => ?_)
  · refine Jr.sub [0, 1, 2] (lv' := [(0, .ref (ad 27)), (1, .ref (ad a1)), (2, .int a2)]) rfl ?_
    exact s_X2_inUse_56 hn9 C M  a1 a2 T ha1 h
  · refine r_iload_n C dX2_inUse_26 rfl 3 rfl ?_
    refine r_bipush (v := 8) C dX2_inUse_27 (by decide) ?_
    refine r_ic_ge (tgt := 56) C dX2_inUse_29 (by decide) h (fun h => ?_) (fun h => ?_)
    · refine Jr.sub [0, 1, 2] (lv' := [(0, .ref (ad 27)), (1, .ref (ad a1)), (2, .int a2)]) rfl ?_
      exact s_X2_inUse_56 hn9 C M  a1 a2 T ha1 h
    · refine r_aload_n C dX2_inUse_32 rfl 1 rfl ?_
      refine r_iload_n C dX2_inUse_33 rfl 3 rfl ?_
      refine r_iald (n := (LN a1)) C dX2_inUse_34 ha1 rfl h (fun j1 hj2 h => ?_)
      refine r_aload_n C dX2_inUse_35 rfl 0 rfl ?_
      refine r_getp (f := 207) (j := 35) C flX2_35 dX2_inUse_36 kq_27 (by decide) rfl (fun W => pt_207 kq_27 W) ?_
      show Jr _ _ _ _ _ _ 39 _
      refine r_iload_n C dX2_inUse_39 rfl 3 rfl ?_
      refine r_iald (n := 8) C dX2_inUse_40 kq_35 lq_35 h (fun j3 hj4 h => ?_)
      refine r_ic_ne (tgt := 48) C dX2_inUse_41 (by decide) h (fun h => ?_) (fun h => ?_)
      · refine r_iconst (v := 0) C dX2_inUse_48 (by decide) ?_
        refine r_istore_n (lv' := [(2, .int 0), (0, .ref (ad 27)), (1, .ref (ad a1)), (3, .int a3)]) C dX2_inUse_49 rfl (by rw [hn9]; decide) rfl ?_
        refine r_iinc (q := 3) (v := (a3 + 1)) (lv' := [(3, .int (a3 + 1)), (2, .int 0), (0, .ref (ad 27)), (1, .ref (ad a1))]) C dX2_inUse_50 rfl (by rw [show Int32.ofInt (1) = 1 by decide]) (by rw [hn9]; decide) rfl ?_
        refine r_goto (tgt := 22) C dX2_inUse_53 (by decide) ?_
        refine Jr.sub [2, 3, 1, 0] (lv' := [(0, .ref (ad 27)), (1, .ref (ad a1)), (2, .int 0), (3, .int (a3 + 1))]) rfl ?_
        exact hk22 a1 0 (a3 + 1) T ha1 h
      · refine r_iconst (v := 1) C dX2_inUse_44 (by decide) ?_
        refine r_goto (tgt := 49) C dX2_inUse_45 (by decide) ?_
        refine r_istore_n (lv' := [(2, .int 1), (0, .ref (ad 27)), (1, .ref (ad a1)), (3, .int a3)]) C dX2_inUse_49 rfl (by rw [hn9]; decide) rfl ?_
        refine r_iinc (q := 3) (v := (a3 + 1)) (lv' := [(3, .int (a3 + 1)), (2, .int 1), (0, .ref (ad 27)), (1, .ref (ad a1))]) C dX2_inUse_50 rfl (by rw [show Int32.ofInt (1) = 1 by decide]) (by rw [hn9]; decide) rfl ?_
        refine r_goto (tgt := 22) C dX2_inUse_53 (by decide) ?_
        refine Jr.sub [2, 3, 1, 0] (lv' := [(0, .ref (ad 27)), (1, .ref (ad a1)), (2, .int 1), (3, .int (a3 + 1))]) rfl ?_
        exact hk22 a1 1 (a3 + 1) T ha1 h
noncomputable def f_X2_inUse_l22 (n : Nat) : Nat → Int32 → Int32 → Mm → Option (Int32 × Mm) := Nat.rec (fun _ _ _ _ => none) (fun _ ih => f_X2_inUse_b22 ih) n
theorem s_X2_inUse_l22 {x : JX} {ad : Nat → Nat} {U : Mm} {S0 : Hp} {q : Int32 × Mm}  (hn9 : x_n x = 4) (C : CB x RX2 cX2_inUse) (M : CMr x 4 (some .int) S0 ad true U eI q) : ∀ (n : Nat), ∀ (a1 : Nat) (a2 : Int32) (a3 : Int32) (T : Mm) (_ : kS true a1 = 14), f_X2_inUse_l22  n a1 a2 a3 T = some q → Jr x ad true U T [(0, .ref (ad 27)), (1, .ref (ad a1)), (2, .int a2), (3, .int a3)] 22 [] := by
  intro n
  induction n with
  | zero => intro a1 a2 a3 T _ h; exact absurd h (by intro h; cases h)
  | succ n ih => exact fun a1 a2 a3 T ha1 h => s_X2_inUse_b22 hn9 C M (ih) a1 a2 a3 T ha1 h
noncomputable def f_X2_inUse (p1 : Nat) (T : Mm) : Option (Int32 × Mm) :=
  if (gI T 209 27) = 0 then (f_X2_inUse_l22 FU p1 0 0 T)
  else (if (Int32.ofNat (LN p1)) < 8 then (f_X2_inUse_l22 FU p1 0 0 T)
  else (f_X2_inUse_l22 FU p1 1 0 T))
set_option maxRecDepth 100000 in
set_option maxHeartbeats 4000000 in
theorem s_X2_inUse {ad : Nat → Nat} {U T : Mm} {q : Int32 × Mm}  (p1 : Nat) (hk1 : kS true p1 = 14) (h : f_X2_inUse p1 T = some q) : Cr 4 yX2_inUse cX2_inUse 4 (some .int) [.ref (ad 27), .ref (ad p1)] ad true U T eI q := by
  refine cr_of (by decide) (Nat.le_of_ble_eq_true rfl) fun x S0 hn9 C M => ?_
  have C : CB x RX2 cX2_inUse := C
  refine Jr.eq (lv' := [(0, .ref (ad 27)), (1, .ref (ad p1))]) (st' := []) rfl rfl ?_
  unfold f_X2_inUse at h
  refine r_aload_n C dX2_inUse_0 rfl 0 rfl ?_
  refine r_geti (f := 209) C flX2_94 dX2_inUse_1 kq_27 (by decide) (by decide) rfl ?_
  refine r_if_eq (tgt := 18) C dX2_inUse_4 (by decide) h (fun h => ?_) (fun h => ?_)
  · refine r_iconst (v := 0) C dX2_inUse_18 (by decide) ?_
    refine r_istore_n (lv' := [(2, .int 0), (0, .ref (ad 27)), (1, .ref (ad p1))]) C dX2_inUse_19 rfl (by rw [hn9]; decide) rfl ?_
    refine r_iconst (v := 0) C dX2_inUse_20 (by decide) ?_
    refine r_istore_n (lv' := [(3, .int 0), (2, .int 0), (0, .ref (ad 27)), (1, .ref (ad p1))]) C dX2_inUse_21 rfl (by rw [hn9]; decide) rfl ?_
    refine Jr.sub [2, 3, 1, 0] (lv' := [(0, .ref (ad 27)), (1, .ref (ad p1)), (2, .int 0), (3, .int 0)]) rfl ?_
    exact s_X2_inUse_l22 hn9 C M  FU p1 0 0 T hk1 h
  · refine r_aload_n C dX2_inUse_7 rfl 1 rfl ?_
    refine r_alen (n := 0) C dX2_inUse_8 hk1 (by decide) (by decide) rfl ?_
    refine r_bipush (v := 8) C dX2_inUse_9 (by decide) ?_
    refine r_ic_lt (tgt := 18) C dX2_inUse_11 (by decide) h (fun h => ?_) (fun h => ?_)
    · refine r_iconst (v := 0) C dX2_inUse_18 (by decide) ?_
      refine r_istore_n (lv' := [(2, .int 0), (0, .ref (ad 27)), (1, .ref (ad p1))]) C dX2_inUse_19 rfl (by rw [hn9]; decide) rfl ?_
      refine r_iconst (v := 0) C dX2_inUse_20 (by decide) ?_
      refine r_istore_n (lv' := [(3, .int 0), (2, .int 0), (0, .ref (ad 27)), (1, .ref (ad p1))]) C dX2_inUse_21 rfl (by rw [hn9]; decide) rfl ?_
      refine Jr.sub [2, 3, 1, 0] (lv' := [(0, .ref (ad 27)), (1, .ref (ad p1)), (2, .int 0), (3, .int 0)]) rfl ?_
      exact s_X2_inUse_l22 hn9 C M  FU p1 0 0 T hk1 h
    · refine r_iconst (v := 1) C dX2_inUse_14 (by decide) ?_
      refine r_goto (tgt := 19) C dX2_inUse_15 (by decide) ?_
      refine r_istore_n (lv' := [(2, .int 1), (0, .ref (ad 27)), (1, .ref (ad p1))]) C dX2_inUse_19 rfl (by rw [hn9]; decide) rfl ?_
      refine r_iconst (v := 0) C dX2_inUse_20 (by decide) ?_
      refine r_istore_n (lv' := [(3, .int 0), (2, .int 1), (0, .ref (ad 27)), (1, .ref (ad p1))]) C dX2_inUse_21 rfl (by rw [hn9]; decide) rfl ?_
      refine Jr.sub [2, 3, 1, 0] (lv' := [(0, .ref (ad 27)), (1, .ref (ad p1)), (2, .int 1), (3, .int 0)]) rfl ?_
      exact s_X2_inUse_l22 hn9 C M  FU p1 1 0 T hk1 h
theorem dX2_number_0 : decode cX2_number 0 = .ok (.iload_n 1, 1) := by decide +kernel
theorem dX2_number_1 : decode cX2_number 1 = .ok (.bipush 7, 2) := by decide +kernel
theorem dX2_number_3 : decode cX2_number 3 = .ok (.imul, 1) := by decide +kernel
theorem dX2_number_4 : decode cX2_number 4 = .ok (.iload_n 2, 1) := by decide +kernel
theorem dX2_number_5 : decode cX2_number 5 = .ok (.iadd, 1) := by decide +kernel
theorem dX2_number_6 : decode cX2_number 6 = .ok (.istore_n 3, 1) := by decide +kernel
theorem dX2_number_7 : decode cX2_number 7 = .ok (.iload_n 3, 1) := by decide +kernel
theorem dX2_number_8 : decode cX2_number 8 = .ok (.ifCond .lt 21, 3) := by decide +kernel
theorem dX2_number_11 : decode cX2_number 11 = .ok (.iload_n 3, 1) := by decide +kernel
theorem dX2_number_12 : decode cX2_number 12 = .ok (.aload_n 0, 1) := by decide +kernel
theorem dX2_number_13 : decode cX2_number 13 = .ok (.getfield 18, 3) := by decide +kernel
theorem dX2_number_16 : decode cX2_number 16 = .ok (.arraylength, 1) := by decide +kernel
theorem dX2_number_17 : decode cX2_number 17 = .ok (.if_icmp .ge 12, 3) := by decide +kernel
theorem dX2_number_20 : decode cX2_number 20 = .ok (.aload_n 0, 1) := by decide +kernel
theorem dX2_number_21 : decode cX2_number 21 = .ok (.getfield 18, 3) := by decide +kernel
theorem dX2_number_24 : decode cX2_number 24 = .ok (.iload_n 3, 1) := by decide +kernel
theorem dX2_number_25 : decode cX2_number 25 = .ok (.iaload, 1) := by decide +kernel
theorem dX2_number_26 : decode cX2_number 26 = .ok (.goto 4, 3) := by decide +kernel
theorem dX2_number_29 : decode cX2_number 29 = .ok (.iconst 0, 1) := by decide +kernel
theorem dX2_number_30 : decode cX2_number 30 = .ok (.ireturn, 1) := by decide +kernel
noncomputable def f_X2_number (p1 : Int32) (p2 : Int32) (T : Mm) : Option (Int32 × Mm) :=
  lb (((p1 * 7) + p2)) fun v1 =>
  if v1 < 0 then (some (0, T))
  else (if 119 ≤ v1 then (some (0, T))
  else (ix v1 119 fun j2 =>
  some ((gA T 30 j2), T)))
set_option maxRecDepth 100000 in
set_option maxHeartbeats 4000000 in
theorem s_X2_number {ad : Nat → Nat} {U T : Mm} {q : Int32 × Mm}  (p1 : Int32) (p2 : Int32) (h : f_X2_number p1 p2 T = some q) : Cr 1 yX2_number cX2_number 4 (some .int) [.ref (ad 27), .int p1, .int p2] ad true U T eI q := by
  refine cr_of (by decide) (Nat.le_of_ble_eq_true rfl) fun x S0 hn9 C M => ?_
  have C : CB x RX2 cX2_number := C
  refine Jr.eq (lv' := [(0, .ref (ad 27)), (1, .int p1), (2, .int p2)]) (st' := []) rfl rfl ?_
  unfold f_X2_number at h
  refine r_iload_n C dX2_number_0 rfl 1 rfl ?_
  refine r_bipush (v := 7) C dX2_number_1 (by decide) ?_
  refine r_imul C dX2_number_3 rfl ?_
  refine r_iload_n C dX2_number_4 rfl 2 rfl ?_
  refine r_iadd C dX2_number_5 rfl ?_
  show Jr _ _ _ _ _ _ 6 _
  refine r_lbI h (fun v1 h => ?_)
  refine r_istore_n (lv' := [(3, .int v1), (0, .ref (ad 27)), (1, .int p1), (2, .int p2)]) C dX2_number_6 rfl (by rw [hn9]; decide) rfl ?_
  refine r_iload_n C dX2_number_7 rfl 0 rfl ?_
  refine r_if_lt (tgt := 29) C dX2_number_8 (by decide) h (fun h => ?_) (fun h => ?_)
  · refine r_iconst (v := 0) C dX2_number_29 (by decide) ?_
    exact r_iret C M dX2_number_30 h
  · refine r_iload_n C dX2_number_11 rfl 0 rfl ?_
    refine r_aload_n C dX2_number_12 rfl 1 rfl ?_
    refine r_getp (f := 201) (j := 30) C flX2_18 dX2_number_13 kq_27 (by decide) rfl (fun W => pt_201 kq_27 W) ?_
    refine r_alen (n := 0) (v := 119) C dX2_number_16 kq_30 (by decide) (by decide) (congrArg Int32.ofNat lq_30) ?_
    refine r_ic_ge (tgt := 29) C dX2_number_17 (by decide) h (fun h => ?_) (fun h => ?_)
    · refine r_iconst (v := 0) C dX2_number_29 (by decide) ?_
      exact r_iret C M dX2_number_30 h
    · refine r_aload_n C dX2_number_20 rfl 1 rfl ?_
      refine r_getp (f := 201) (j := 30) C flX2_18 dX2_number_21 kq_27 (by decide) rfl (fun W => pt_201 kq_27 W) ?_
      refine r_iload_n C dX2_number_24 rfl 0 rfl ?_
      refine r_iald (n := 119) C dX2_number_25 kq_30 lq_30 h (fun j2 hj3 h => ?_)
      refine r_goto (tgt := 30) C dX2_number_26 (by decide) ?_
      show Jr _ _ _ _ _ _ 30 _
      exact r_iret C M dX2_number_30 h
theorem dX9_followPitch_0 : decode cX9_followPitch 0 = .ok (.aload_n 0, 1) := by decide +kernel
theorem dX9_followPitch_1 : decode cX9_followPitch 1 = .ok (.getfield 57, 3) := by decide +kernel
theorem dX9_followPitch_4 : decode cX9_followPitch 4 = .ok (.getfield 129, 3) := by decide +kernel
theorem dX9_followPitch_7 : decode cX9_followPitch 7 = .ok (.aload_n 0, 1) := by decide +kernel
theorem dX9_followPitch_8 : decode cX9_followPitch 8 = .ok (.getfield 21, 3) := by decide +kernel
theorem dX9_followPitch_11 : decode cX9_followPitch 11 = .ok (.aload_n 0, 1) := by decide +kernel
theorem dX9_followPitch_12 : decode cX9_followPitch 12 = .ok (.getfield 21, 3) := by decide +kernel
theorem dX9_followPitch_15 : decode cX9_followPitch 15 = .ok (.aload_n 0, 1) := by decide +kernel
theorem dX9_followPitch_16 : decode cX9_followPitch 16 = .ok (.getfield 57, 3) := by decide +kernel
theorem dX9_followPitch_19 : decode cX9_followPitch 19 = .ok (.invokevirtual 159, 3) := by decide +kernel
theorem dX9_followPitch_22 : decode cX9_followPitch 22 = .ok (.invokevirtual 163, 3) := by decide +kernel
theorem dX9_followPitch_25 : decode cX9_followPitch 25 = .ok (.iconst 2, 1) := by decide +kernel
theorem dX9_followPitch_26 : decode cX9_followPitch 26 = .ok (.invokevirtual 292, 3) := by decide +kernel
theorem dX9_followPitch_29 : decode cX9_followPitch 29 = .ok (.putfield 141, 3) := by decide +kernel
theorem dX9_followPitch_32 : decode cX9_followPitch 32 = .ok (.return_, 1) := by decide +kernel
noncomputable def f_X9_followPitch (T : Mm) : Option (Unit × Mm) :=
  bd (f_X1_wishes 45 T) fun v1 T2 =>
  gd (kS true v1 = 14) <|
  bd (f_X2_inUse v1 T2) fun v4 T5 =>
  bd (f_X2_number v4 2 T5) fun v6 T7 =>
  lb (uI T7 709 46 v6) fun T8 =>
  some ((), T8)
set_option maxRecDepth 100000 in
set_option maxHeartbeats 4000000 in
theorem s_X9_followPitch {ad : Nat → Nat} {U T : Mm} {q : Unit × Mm}  (h : f_X9_followPitch  T = some q) : Cr 5 yX9_followPitch cX9_followPitch 1 none [.ref (ad 23)] ad true U T eV q := by
  refine cr_of (by decide) (Nat.le_of_ble_eq_true rfl) fun x S0 hn9 C M => ?_
  have C : CB x RX9 cX9_followPitch := C
  refine Jr.eq (lv' := [(0, .ref (ad 23))]) (st' := []) rfl rfl ?_
  unfold f_X9_followPitch at h
  refine r_aload_n C dX9_followPitch_0 rfl 0 rfl ?_
  refine r_getp (f := 909) (j := 45) C flX9_57 dX9_followPitch_1 kq_23 (by decide) rfl (fun W => pt_909 kq_23 W) ?_
  refine r_getp (f := 100) (j := 46) C flX9_129 dX9_followPitch_4 kq_45 (by decide) rfl (fun W => pt_100 kq_45 W) ?_
  refine r_aload_n C dX9_followPitch_7 rfl 0 rfl ?_
  refine r_getp (f := 902) (j := 27) C flX9_21 dX9_followPitch_8 kq_23 (by decide) rfl (fun W => pt_902 kq_23 W) ?_
  show Jr _ _ _ _ _ _ 11 _
  refine r_aload_n C dX9_followPitch_11 rfl 0 rfl ?_
  refine r_getp (f := 902) (j := 27) C flX9_21 dX9_followPitch_12 kq_23 (by decide) rfl (fun W => pt_902 kq_23 W) ?_
  refine r_aload_n C dX9_followPitch_15 rfl 0 rfl ?_
  refine r_getp (f := 909) (j := 45) C flX9_57 dX9_followPitch_16 kq_23 (by decide) rfl (fun W => pt_909 kq_23 W) ?_
  refine r_callVR C M h [] [.ref (ad 27), .ref (ad 27), .ref (ad 46)] mlX9_159 mcX1_wishes (fun q9 e9 => s_X1_wishes 45 kq_45 e9) kq_45 rfl (by decide) (by decide) rfl rfl (Nat.le_of_ble_eq_true rfl) dX9_followPitch_19 (fun v1 T2 h => ?_)
  refine r_gd h (fun hk3 h => ?_)
  refine r_callVI C M h [.ref (ad v1)] [.ref (ad 27), .ref (ad 46)] mlX9_163 mcX2_inUse (fun q9 e9 => s_X2_inUse v1 hk3 e9) kq_27 rfl (by decide) (by decide) rfl rfl (Nat.le_of_ble_eq_true rfl) dX9_followPitch_22 (fun v4 T5 h => ?_)
  show Jr _ _ _ _ _ _ 25 _
  refine r_iconst (v := 2) C dX9_followPitch_25 (by decide) ?_
  refine r_callVI C M h [.int v4, .int 2] [.ref (ad 46)] mlX9_292 mcX2_number (fun q9 e9 => s_X2_number v4 2  e9) kq_27 rfl (by decide) (by decide) rfl rfl (Nat.le_of_ble_eq_true rfl) dX9_followPitch_26 (fun v6 T7 h => ?_)
  refine r_puti (f := 709) C flX9_141 (by decide) rfl rfl dX9_followPitch_29 kq_46 rfl h (fun T8 h => ?_)
  exact r_vret C M dX9_followPitch_32 h
theorem dX8_isTemporary_0 : decode cX8_isTemporary 0 = .ok (.aload_n 0, 1) := by decide +kernel
theorem dX8_isTemporary_1 : decode cX8_isTemporary 1 = .ok (.iload_n 1, 1) := by decide +kernel
theorem dX8_isTemporary_2 : decode cX8_isTemporary 2 = .ok (.invokevirtual 13, 3) := by decide +kernel
theorem dX8_isTemporary_5 : decode cX8_isTemporary 5 = .ok (.ifCond .eq 17, 3) := by decide +kernel
theorem dX8_isTemporary_8 : decode cX8_isTemporary 8 = .ok (.aload_n 0, 1) := by decide +kernel
theorem dX8_isTemporary_9 : decode cX8_isTemporary 9 = .ok (.getfield 9, 3) := by decide +kernel
theorem dX8_isTemporary_12 : decode cX8_isTemporary 12 = .ok (.iload_n 1, 1) := by decide +kernel
theorem dX8_isTemporary_13 : decode cX8_isTemporary 13 = .ok (.iaload, 1) := by decide +kernel
theorem dX8_isTemporary_14 : decode cX8_isTemporary 14 = .ok (.iconst 1, 1) := by decide +kernel
theorem dX8_isTemporary_15 : decode cX8_isTemporary 15 = .ok (.if_icmp .ne 7, 3) := by decide +kernel
theorem dX8_isTemporary_18 : decode cX8_isTemporary 18 = .ok (.iconst 1, 1) := by decide +kernel
theorem dX8_isTemporary_19 : decode cX8_isTemporary 19 = .ok (.goto 4, 3) := by decide +kernel
theorem dX8_isTemporary_22 : decode cX8_isTemporary 22 = .ok (.iconst 0, 1) := by decide +kernel
theorem dX8_isTemporary_23 : decode cX8_isTemporary 23 = .ok (.ireturn, 1) := by decide +kernel
noncomputable def f_X8_isTemporary (p0 : Nat) (p1 : Int32) (T : Mm) : Option (Int32 × Mm) :=
  bd (f_X8_has p0 p1 T) fun v1 T2 =>
  if v1 = 0 then (some (0, T2))
  else (ix p1 16 fun j3 =>
  if (gA T2 (p0 + 1) j3) = 1 then (some (1, T2))
  else (some (0, T2)))
set_option maxRecDepth 100000 in
set_option maxHeartbeats 4000000 in
theorem s_X8_isTemporary {ad : Nat → Nat} {U T : Mm} {q : Int32 × Mm}  (p0 : Nat) (p1 : Int32) (hk0 : kS true p0 = 8) (h : f_X8_isTemporary p0 p1 T = some q) : Cr 2 yX8_isTemporary cX8_isTemporary 2 (some .boolean) [.ref (ad p0), .int p1] ad true U T eI q := by
  refine cr_of (by decide) (Nat.le_of_ble_eq_true rfl) fun x S0 hn9 C M => ?_
  have C : CB x RX8 cX8_isTemporary := C
  refine Jr.eq (lv' := [(0, .ref (ad p0)), (1, .int p1)]) (st' := []) rfl rfl ?_
  unfold f_X8_isTemporary at h
  refine r_aload_n C dX8_isTemporary_0 rfl 0 rfl ?_
  refine r_iload_n C dX8_isTemporary_1 rfl 1 rfl ?_
  refine r_callVI C M h [.int p1] [] mlX8_13 mcX8_has (fun q9 e9 => s_X8_has p0 p1 hk0 e9) hk0 rfl (by decide) (by decide) rfl rfl (Nat.le_of_ble_eq_true rfl) dX8_isTemporary_2 (fun v1 T2 h => ?_)
  refine r_if_eq (tgt := 22) C dX8_isTemporary_5 (by decide) h (fun h => ?_) (fun h => ?_)
  · refine r_iconst (v := 0) C dX8_isTemporary_22 (by decide) ?_
    exact r_zret C M dX8_isTemporary_23 (by decide) h
  · refine r_aload_n C dX8_isTemporary_8 rfl 0 rfl ?_
    refine r_getp (f := 800) (j := (p0 + 1)) C flX8_9 dX8_isTemporary_9 hk0 (by decide) rfl (fun W => pt_800 hk0 W) ?_
    refine r_iload_n C dX8_isTemporary_12 rfl 1 rfl ?_
    refine r_iald (n := 16) C dX8_isTemporary_13 (pk_800 hk0) (pl_800 hk0) h (fun j3 hj4 h => ?_)
    refine r_iconst (v := 1) C dX8_isTemporary_14 (by decide) ?_
    show Jr _ _ _ _ _ _ 15 _
    refine r_ic_ne (tgt := 22) C dX8_isTemporary_15 (by decide) h (fun h => ?_) (fun h => ?_)
    · refine r_iconst (v := 0) C dX8_isTemporary_22 (by decide) ?_
      exact r_zret C M dX8_isTemporary_23 (by decide) h
    · refine r_iconst (v := 1) C dX8_isTemporary_18 (by decide) ?_
      refine r_goto (tgt := 23) C dX8_isTemporary_19 (by decide) ?_
      exact r_zret C M dX8_isTemporary_23 (by decide) h
theorem dX2_removeGlyph_0 : decode cX2_removeGlyph 0 = .ok (.iload_n 1, 1) := by decide +kernel
theorem dX2_removeGlyph_1 : decode cX2_removeGlyph 1 = .ok (.sipush 256, 3) := by decide +kernel
theorem dX2_removeGlyph_4 : decode cX2_removeGlyph 4 = .ok (.imul, 1) := by decide +kernel
theorem dX2_removeGlyph_5 : decode cX2_removeGlyph 5 = .ok (.iload_n 2, 1) := by decide +kernel
theorem dX2_removeGlyph_6 : decode cX2_removeGlyph 6 = .ok (.iadd, 1) := by decide +kernel
theorem dX2_removeGlyph_7 : decode cX2_removeGlyph 7 = .ok (.istore_n 3, 1) := by decide +kernel
theorem dX2_removeGlyph_8 : decode cX2_removeGlyph 8 = .ok (.iload_n 1, 1) := by decide +kernel
theorem dX2_removeGlyph_9 : decode cX2_removeGlyph 9 = .ok (.ifCond .lt 22, 3) := by decide +kernel
theorem dX2_removeGlyph_12 : decode cX2_removeGlyph 12 = .ok (.iload_n 1, 1) := by decide +kernel
theorem dX2_removeGlyph_13 : decode cX2_removeGlyph 13 = .ok (.bipush 16, 2) := by decide +kernel
theorem dX2_removeGlyph_15 : decode cX2_removeGlyph 15 = .ok (.if_icmp .ge 16, 3) := by decide +kernel
theorem dX2_removeGlyph_18 : decode cX2_removeGlyph 18 = .ok (.iload_n 3, 1) := by decide +kernel
theorem dX2_removeGlyph_19 : decode cX2_removeGlyph 19 = .ok (.ifCond .lt 12, 3) := by decide +kernel
theorem dX2_removeGlyph_22 : decode cX2_removeGlyph 22 = .ok (.iload_n 3, 1) := by decide +kernel
theorem dX2_removeGlyph_23 : decode cX2_removeGlyph 23 = .ok (.aload_n 0, 1) := by decide +kernel
theorem dX2_removeGlyph_24 : decode cX2_removeGlyph 24 = .ok (.getfield 22, 3) := by decide +kernel
theorem dX2_removeGlyph_27 : decode cX2_removeGlyph 27 = .ok (.arraylength, 1) := by decide +kernel
theorem dX2_removeGlyph_28 : decode cX2_removeGlyph 28 = .ok (.if_icmp .lt 4, 3) := by decide +kernel
theorem dX2_removeGlyph_31 : decode cX2_removeGlyph 31 = .ok (.return_, 1) := by decide +kernel
theorem dX2_removeGlyph_32 : decode cX2_removeGlyph 32 = .ok (.aload_n 0, 1) := by decide +kernel
theorem dX2_removeGlyph_33 : decode cX2_removeGlyph 33 = .ok (.getfield 22, 3) := by decide +kernel
theorem dX2_removeGlyph_36 : decode cX2_removeGlyph 36 = .ok (.iload_n 3, 1) := by decide +kernel
theorem dX2_removeGlyph_37 : decode cX2_removeGlyph 37 = .ok (.iaload, 1) := by decide +kernel
theorem dX2_removeGlyph_38 : decode cX2_removeGlyph 38 = .ok (.iconst 1, 1) := by decide +kernel
theorem dX2_removeGlyph_39 : decode cX2_removeGlyph 39 = .ok (.isub, 1) := by decide +kernel
theorem dX2_removeGlyph_40 : decode cX2_removeGlyph 40 = .ok (.istore 4, 2) := by decide +kernel
theorem dX2_removeGlyph_42 : decode cX2_removeGlyph 42 = .ok (.iload 4, 2) := by decide +kernel
theorem dX2_removeGlyph_44 : decode cX2_removeGlyph 44 = .ok (.ifCond .lt 38, 3) := by decide +kernel
theorem dX2_removeGlyph_47 : decode cX2_removeGlyph 47 = .ok (.iload 4, 2) := by decide +kernel
theorem dX2_removeGlyph_49 : decode cX2_removeGlyph 49 = .ok (.aload_n 0, 1) := by decide +kernel
theorem dX2_removeGlyph_50 : decode cX2_removeGlyph 50 = .ok (.getfield 25, 3) := by decide +kernel
theorem dX2_removeGlyph_53 : decode cX2_removeGlyph 53 = .ok (.arraylength, 1) := by decide +kernel
theorem dX2_removeGlyph_54 : decode cX2_removeGlyph 54 = .ok (.if_icmp .ge 28, 3) := by decide +kernel
theorem dX2_removeGlyph_57 : decode cX2_removeGlyph 57 = .ok (.aload_n 0, 1) := by decide +kernel
theorem dX2_removeGlyph_58 : decode cX2_removeGlyph 58 = .ok (.getfield 25, 3) := by decide +kernel
theorem dX2_removeGlyph_61 : decode cX2_removeGlyph 61 = .ok (.iload 4, 2) := by decide +kernel
theorem dX2_removeGlyph_63 : decode cX2_removeGlyph 63 = .ok (.iconst 0, 1) := by decide +kernel
theorem dX2_removeGlyph_64 : decode cX2_removeGlyph 64 = .ok (.bastore, 1) := by decide +kernel
theorem dX2_removeGlyph_65 : decode cX2_removeGlyph 65 = .ok (.aload_n 0, 1) := by decide +kernel
theorem dX2_removeGlyph_66 : decode cX2_removeGlyph 66 = .ok (.dup, 1) := by decide +kernel
theorem dX2_removeGlyph_67 : decode cX2_removeGlyph 67 = .ok (.getfield 91, 3) := by decide +kernel
theorem dX2_removeGlyph_70 : decode cX2_removeGlyph 70 = .ok (.iconst 1, 1) := by decide +kernel
theorem dX2_removeGlyph_71 : decode cX2_removeGlyph 71 = .ok (.isub, 1) := by decide +kernel
theorem dX2_removeGlyph_72 : decode cX2_removeGlyph 72 = .ok (.putfield 91, 3) := by decide +kernel
theorem dX2_removeGlyph_75 : decode cX2_removeGlyph 75 = .ok (.aload_n 0, 1) := by decide +kernel
theorem dX2_removeGlyph_76 : decode cX2_removeGlyph 76 = .ok (.getfield 22, 3) := by decide +kernel
theorem dX2_removeGlyph_79 : decode cX2_removeGlyph 79 = .ok (.iload_n 3, 1) := by decide +kernel
theorem dX2_removeGlyph_80 : decode cX2_removeGlyph 80 = .ok (.iconst 0, 1) := by decide +kernel
theorem dX2_removeGlyph_81 : decode cX2_removeGlyph 81 = .ok (.iastore, 1) := by decide +kernel
theorem dX2_removeGlyph_82 : decode cX2_removeGlyph 82 = .ok (.return_, 1) := by decide +kernel
noncomputable def f_X2_removeGlyph (p1 : Int32) (p2 : Int32) (T : Mm) : Option (Unit × Mm) :=
  lb (((p1 * 256) + p2)) fun v1 =>
  if p1 < 0 then (some ((), T))
  else (if 16 ≤ p1 then (some ((), T))
  else (if v1 < 0 then (some ((), T))
  else (if v1 < 4352 then (ix v1 4352 fun j2 =>
  lb (((gA T 31 j2) - 1)) fun v4 =>
  if v4 < 0 then (some ((), T))
  else (if 400 ≤ v4 then (some ((), T))
  else (ix v4 400 fun j5 => lb (uA T 32 j5 (0)) fun T7 =>
  lb (uI T7 206 27 ((gI T7 206 27) - 1)) fun T8 =>
  ix v1 4352 fun j9 => lb (uA T8 31 j9 (0)) fun T11 =>
  some ((), T11))))
  else (some ((), T)))))
set_option maxRecDepth 100000 in
set_option maxHeartbeats 4000000 in
theorem s_X2_removeGlyph {ad : Nat → Nat} {U T : Mm} {q : Unit × Mm}  (p1 : Int32) (p2 : Int32) (h : f_X2_removeGlyph p1 p2 T = some q) : Cr 1 yX2_removeGlyph cX2_removeGlyph 5 none [.ref (ad 27), .int p1, .int p2] ad true U T eV q := by
  refine cr_of (by decide) (Nat.le_of_ble_eq_true rfl) fun x S0 hn9 C M => ?_
  have C : CB x RX2 cX2_removeGlyph := C
  refine Jr.eq (lv' := [(0, .ref (ad 27)), (1, .int p1), (2, .int p2)]) (st' := []) rfl rfl ?_
  unfold f_X2_removeGlyph at h
  refine r_iload_n C dX2_removeGlyph_0 rfl 1 rfl ?_
  refine r_sipush (v := 256) C dX2_removeGlyph_1 (by decide) ?_
  refine r_imul C dX2_removeGlyph_4 rfl ?_
  refine r_iload_n C dX2_removeGlyph_5 rfl 2 rfl ?_
  refine r_iadd C dX2_removeGlyph_6 rfl ?_
  show Jr _ _ _ _ _ _ 7 _
  refine r_lbI h (fun v1 h => ?_)
  refine r_istore_n (lv' := [(3, .int v1), (0, .ref (ad 27)), (1, .int p1), (2, .int p2)]) C dX2_removeGlyph_7 rfl (by rw [hn9]; decide) rfl ?_
  refine r_iload_n C dX2_removeGlyph_8 rfl 2 rfl ?_
  refine r_if_lt (tgt := 31) C dX2_removeGlyph_9 (by decide) h (fun h => ?_) (fun h => ?_)
  · exact r_vret C M dX2_removeGlyph_31 h
  · refine r_iload_n C dX2_removeGlyph_12 rfl 2 rfl ?_
    refine r_bipush (v := 16) C dX2_removeGlyph_13 (by decide) ?_
    refine r_ic_ge (tgt := 31) C dX2_removeGlyph_15 (by decide) h (fun h => ?_) (fun h => ?_)
    · exact r_vret C M dX2_removeGlyph_31 h
    · refine r_iload_n C dX2_removeGlyph_18 rfl 0 rfl ?_
      refine r_if_lt (tgt := 31) C dX2_removeGlyph_19 (by decide) h (fun h => ?_) (fun h => ?_)
      · exact r_vret C M dX2_removeGlyph_31 h
      · refine r_iload_n C dX2_removeGlyph_22 rfl 0 rfl ?_
        refine r_aload_n C dX2_removeGlyph_23 rfl 1 rfl ?_
        refine r_getp (f := 202) (j := 31) C flX2_22 dX2_removeGlyph_24 kq_27 (by decide) rfl (fun W => pt_202 kq_27 W) ?_
        refine r_alen (n := 0) (v := 4352) C dX2_removeGlyph_27 kq_31 (by decide) (by decide) (congrArg Int32.ofNat lq_31) ?_
        refine r_ic_lt (tgt := 32) C dX2_removeGlyph_28 (by decide) h (fun h => ?_) (fun h => ?_)
        · refine r_aload_n C dX2_removeGlyph_32 rfl 1 rfl ?_
          refine r_getp (f := 202) (j := 31) C flX2_22 dX2_removeGlyph_33 kq_27 (by decide) rfl (fun W => pt_202 kq_27 W) ?_
          refine r_iload_n C dX2_removeGlyph_36 rfl 0 rfl ?_
          refine r_iald (n := 4352) C dX2_removeGlyph_37 kq_31 lq_31 h (fun j2 hj3 h => ?_)
          refine r_iconst (v := 1) C dX2_removeGlyph_38 (by decide) ?_
          show Jr _ _ _ _ _ _ 39 _
          refine r_isub C dX2_removeGlyph_39 rfl ?_
          refine r_lbI h (fun v4 h => ?_)
          refine r_istore (lv' := [(4, .int v4), (3, .int v1), (0, .ref (ad 27)), (1, .int p1), (2, .int p2)]) C dX2_removeGlyph_40 (by rw [hn9]; decide) rfl ?_
          refine r_iload C dX2_removeGlyph_42 0 rfl ?_
          refine r_if_lt (tgt := 82) C dX2_removeGlyph_44 (by decide) h (fun h => ?_) (fun h => ?_)
          · exact r_vret C M dX2_removeGlyph_82 h
          · refine r_iload C dX2_removeGlyph_47 0 rfl ?_
            refine r_aload_n C dX2_removeGlyph_49 rfl 2 rfl ?_
            refine r_getp (f := 203) (j := 32) C flX2_25 dX2_removeGlyph_50 kq_27 (by decide) rfl (fun W => pt_203 kq_27 W) ?_
            refine r_alen (n := 0) (v := 400) C dX2_removeGlyph_53 kq_32 (by decide) (by decide) (congrArg Int32.ofNat lq_32) ?_
            refine r_ic_ge (tgt := 82) C dX2_removeGlyph_54 (by decide) h (fun h => ?_) (fun h => ?_)
            · exact r_vret C M dX2_removeGlyph_82 h
            · refine r_aload_n C dX2_removeGlyph_57 rfl 2 rfl ?_
              refine r_getp (f := 203) (j := 32) C flX2_25 dX2_removeGlyph_58 kq_27 (by decide) rfl (fun W => pt_203 kq_27 W) ?_
              refine r_iload C dX2_removeGlyph_61 0 rfl ?_
              refine r_iconst (v := 0) C dX2_removeGlyph_63 (by decide) ?_
              refine r_zast (n := 400) C dX2_removeGlyph_64 kq_32 lq_32 (by decide) h (fun j5 T7 hj6 h => ?_)
              show Jr _ _ _ _ _ _ 65 _
              refine r_aload_n C dX2_removeGlyph_65 rfl 2 rfl ?_
              refine r_dup C dX2_removeGlyph_66 rfl ?_
              refine r_geti (f := 206) C flX2_91 dX2_removeGlyph_67 kq_27 (by decide) (by decide) rfl ?_
              refine r_iconst (v := 1) C dX2_removeGlyph_70 (by decide) ?_
              refine r_isub C dX2_removeGlyph_71 rfl ?_
              refine r_puti (f := 206) C flX2_91 (by decide) rfl rfl dX2_removeGlyph_72 kq_27 rfl h (fun T8 h => ?_)
              show Jr _ _ _ _ _ _ 75 _
              refine r_aload_n C dX2_removeGlyph_75 rfl 2 rfl ?_
              refine r_getp (f := 202) (j := 31) C flX2_22 dX2_removeGlyph_76 kq_27 (by decide) rfl (fun W => pt_202 kq_27 W) ?_
              refine r_iload_n C dX2_removeGlyph_79 rfl 1 rfl ?_
              refine r_iconst (v := 0) C dX2_removeGlyph_80 (by decide) ?_
              refine r_iast (n := 4352) C dX2_removeGlyph_81 kq_31 lq_31 h (fun j9 T11 hj10 h => ?_)
              exact r_vret C M dX2_removeGlyph_82 h
        · exact r_vret C M dX2_removeGlyph_31 h
theorem dX8_remove_0 : decode cX8_remove 0 = .ok (.iload_n 1, 1) := by decide +kernel
theorem dX8_remove_1 : decode cX8_remove 1 = .ok (.ifCond .lt 16, 3) := by decide +kernel
theorem dX8_remove_4 : decode cX8_remove 4 = .ok (.iload_n 1, 1) := by decide +kernel
theorem dX8_remove_5 : decode cX8_remove 5 = .ok (.bipush 16, 2) := by decide +kernel
theorem dX8_remove_7 : decode cX8_remove 7 = .ok (.if_icmp .ge 10, 3) := by decide +kernel
theorem dX8_remove_10 : decode cX8_remove 10 = .ok (.aload_n 0, 1) := by decide +kernel
theorem dX8_remove_11 : decode cX8_remove 11 = .ok (.getfield 9, 3) := by decide +kernel
theorem dX8_remove_14 : decode cX8_remove 14 = .ok (.iload_n 1, 1) := by decide +kernel
theorem dX8_remove_15 : decode cX8_remove 15 = .ok (.iconst 0, 1) := by decide +kernel
theorem dX8_remove_16 : decode cX8_remove 16 = .ok (.iastore, 1) := by decide +kernel
theorem dX8_remove_17 : decode cX8_remove 17 = .ok (.return_, 1) := by decide +kernel
noncomputable def f_X8_remove (p0 : Nat) (p1 : Int32) (T : Mm) : Option (Unit × Mm) :=
  if p1 < 0 then (some ((), T))
  else (if 16 ≤ p1 then (some ((), T))
  else (ix p1 16 fun j1 => lb (uA T (p0 + 1) j1 (0)) fun T3 =>
  some ((), T3)))
set_option maxRecDepth 100000 in
set_option maxHeartbeats 4000000 in
theorem s_X8_remove {ad : Nat → Nat} {U T : Mm} {q : Unit × Mm}  (p0 : Nat) (p1 : Int32) (hk0 : kS true p0 = 8) (h : f_X8_remove p0 p1 T = some q) : Cr 1 yX8_remove cX8_remove 2 none [.ref (ad p0), .int p1] ad true U T eV q := by
  refine cr_of (by decide) (Nat.le_of_ble_eq_true rfl) fun x S0 hn9 C M => ?_
  have C : CB x RX8 cX8_remove := C
  refine Jr.eq (lv' := [(0, .ref (ad p0)), (1, .int p1)]) (st' := []) rfl rfl ?_
  unfold f_X8_remove at h
  refine r_iload_n C dX8_remove_0 rfl 1 rfl ?_
  refine r_if_lt (tgt := 17) C dX8_remove_1 (by decide) h (fun h => ?_) (fun h => ?_)
  · exact r_vret C M dX8_remove_17 h
  · refine r_iload_n C dX8_remove_4 rfl 1 rfl ?_
    refine r_bipush (v := 16) C dX8_remove_5 (by decide) ?_
    refine r_ic_ge (tgt := 17) C dX8_remove_7 (by decide) h (fun h => ?_) (fun h => ?_)
    · exact r_vret C M dX8_remove_17 h
    · refine r_aload_n C dX8_remove_10 rfl 0 rfl ?_
      refine r_getp (f := 800) (j := (p0 + 1)) C flX8_9 dX8_remove_11 hk0 (by decide) rfl (fun W => pt_800 hk0 W) ?_
      refine r_iload_n C dX8_remove_14 rfl 1 rfl ?_
      refine r_iconst (v := 0) C dX8_remove_15 (by decide) ?_
      refine r_iast (n := 16) C dX8_remove_16 (pk_800 hk0) (pl_800 hk0) h (fun j1 T3 hj2 h => ?_)
      show Jr _ _ _ _ _ _ 17 _
      exact r_vret C M dX8_remove_17 h
theorem dX2_remove_0 : decode cX2_remove 0 = .ok (.aload_n 0, 1) := by decide +kernel
theorem dX2_remove_1 : decode cX2_remove 1 = .ok (.iconst 0, 1) := by decide +kernel
theorem dX2_remove_2 : decode cX2_remove 2 = .ok (.putfield 94, 3) := by decide +kernel
theorem dX2_remove_5 : decode cX2_remove 5 = .ok (.aload_n 0, 1) := by decide +kernel
theorem dX2_remove_6 : decode cX2_remove 6 = .ok (.getfield 14, 3) := by decide +kernel
theorem dX2_remove_9 : decode cX2_remove 9 = .ok (.iload_n 1, 1) := by decide +kernel
theorem dX2_remove_10 : decode cX2_remove 10 = .ok (.invokevirtual 58, 3) := by decide +kernel
theorem dX2_remove_13 : decode cX2_remove 13 = .ok (.ifCond .eq 32, 3) := by decide +kernel
theorem dX2_remove_16 : decode cX2_remove 16 = .ok (.iconst 0, 1) := by decide +kernel
theorem dX2_remove_17 : decode cX2_remove 17 = .ok (.istore_n 2, 1) := by decide +kernel
theorem dX2_remove_18 : decode cX2_remove 18 = .ok (.iload_n 2, 1) := by decide +kernel
theorem dX2_remove_19 : decode cX2_remove 19 = .ok (.sipush 256, 3) := by decide +kernel
theorem dX2_remove_22 : decode cX2_remove 22 = .ok (.if_icmp .ge 15, 3) := by decide +kernel
theorem dX2_remove_25 : decode cX2_remove 25 = .ok (.aload_n 0, 1) := by decide +kernel
theorem dX2_remove_26 : decode cX2_remove 26 = .ok (.iload_n 1, 1) := by decide +kernel
theorem dX2_remove_27 : decode cX2_remove 27 = .ok (.iload_n 2, 1) := by decide +kernel
theorem dX2_remove_28 : decode cX2_remove 28 = .ok (.invokevirtual 98, 3) := by decide +kernel
theorem dX2_remove_31 : decode cX2_remove 31 = .ok (.iinc 2 1, 3) := by decide +kernel
theorem dX2_remove_34 : decode cX2_remove 34 = .ok (.goto (-16), 3) := by decide +kernel
theorem dX2_remove_37 : decode cX2_remove 37 = .ok (.aload_n 0, 1) := by decide +kernel
theorem dX2_remove_38 : decode cX2_remove 38 = .ok (.getfield 14, 3) := by decide +kernel
theorem dX2_remove_41 : decode cX2_remove 41 = .ok (.iload_n 1, 1) := by decide +kernel
theorem dX2_remove_42 : decode cX2_remove 42 = .ok (.invokevirtual 102, 3) := by decide +kernel
theorem dX2_remove_45 : decode cX2_remove 45 = .ok (.return_, 1) := by decide +kernel
noncomputable def f_X2_remove_b18 (k18 : Int32 → Int32 → Mm → Option (Unit × Mm)) (a1 : Int32) (a2 : Int32) (T : Mm) : Option (Unit × Mm) :=
  if 256 ≤ a2 then (bd (f_X8_remove 28 a1 T) fun _ T1 =>
  some ((), T1))
  else (bd (f_X2_removeGlyph a1 a2 T) fun _ T2 =>
  k18 a1 (a2 + 1) T2)
set_option maxRecDepth 100000 in
set_option maxHeartbeats 4000000 in
theorem s_X2_remove_b18 {x : JX} {ad : Nat → Nat} {U : Mm} {S0 : Hp} {q : Unit × Mm}  {k18 : Int32 → Int32 → Mm → Option (Unit × Mm)} (hn9 : x_n x = 3) (C : CB x RX2 cX2_remove) (M : CMr x 2 none S0 ad true U eV q) (hk18 : ∀ (a1 : Int32) (a2 : Int32) (T : Mm), k18 a1 a2 T = some q → Jr x ad true U T [(0, .ref (ad 27)), (1, .int a1), (2, .int a2)] 18 []) (a1 : Int32) (a2 : Int32) (T : Mm) (h : f_X2_remove_b18 k18 a1 a2 T = some q) : Jr x ad true U T [(0, .ref (ad 27)), (1, .int a1), (2, .int a2)] 18 [] := by
  unfold f_X2_remove_b18 at h
  refine r_iload_n C dX2_remove_18 rfl 2 rfl ?_
  refine r_sipush (v := 256) C dX2_remove_19 (by decide) ?_
  refine r_ic_ge (tgt := 37) C dX2_remove_22 (by decide) h (fun h => ?_) (fun h => ?_)
  · refine r_aload_n C dX2_remove_37 rfl 0 rfl ?_
    refine r_getp (f := 200) (j := 28) C flX2_14 dX2_remove_38 kq_27 (by decide) rfl (fun W => pt_200 kq_27 W) ?_
    refine r_iload_n C dX2_remove_41 rfl 1 rfl ?_
    refine r_callVN C M h [.int a1] [] mlX2_102 mcX8_remove (fun q9 e9 => s_X8_remove 28 a1 kq_28 e9) kq_28 rfl (by decide) (by decide) rfl rfl (Nat.le_of_ble_eq_true rfl) dX2_remove_42 (fun _ T1 h => ?_)
    exact r_vret C M dX2_remove_45 h
  · refine r_aload_n C dX2_remove_25 rfl 0 rfl ?_
    refine r_iload_n C dX2_remove_26 rfl 1 rfl ?_
    refine r_iload_n C dX2_remove_27 rfl 2 rfl ?_
    refine r_callVN C M h [.int a1, .int a2] [] mlX2_98 mcX2_removeGlyph (fun q9 e9 => s_X2_removeGlyph a1 a2  e9) kq_27 rfl (by decide) (by decide) rfl rfl (Nat.le_of_ble_eq_true rfl) dX2_remove_28 (fun _ T2 h => ?_)
    refine r_iinc (q := 2) (v := (a2 + 1)) (lv' := [(2, .int (a2 + 1)), (0, .ref (ad 27)), (1, .int a1)]) C dX2_remove_31 rfl (by rw [show Int32.ofInt (1) = 1 by decide]) (by rw [hn9]; decide) rfl ?_
    show Jr _ _ _ _ _ _ 34 _
    refine r_goto (tgt := 18) C dX2_remove_34 (by decide) ?_
    refine Jr.sub [1, 2, 0] (lv' := [(0, .ref (ad 27)), (1, .int a1), (2, .int (a2 + 1))]) rfl ?_
    exact hk18 a1 (a2 + 1) T2 h
noncomputable def f_X2_remove_l18 (n : Nat) : Int32 → Int32 → Mm → Option (Unit × Mm) := Nat.rec (fun _ _ _ => none) (fun _ ih => f_X2_remove_b18 ih) n
theorem s_X2_remove_l18 {x : JX} {ad : Nat → Nat} {U : Mm} {S0 : Hp} {q : Unit × Mm}  (hn9 : x_n x = 3) (C : CB x RX2 cX2_remove) (M : CMr x 2 none S0 ad true U eV q) : ∀ (n : Nat), ∀ (a1 : Int32) (a2 : Int32) (T : Mm), f_X2_remove_l18  n a1 a2 T = some q → Jr x ad true U T [(0, .ref (ad 27)), (1, .int a1), (2, .int a2)] 18 [] := by
  intro n
  induction n with
  | zero => intro a1 a2 T  h; exact absurd h (by intro h; cases h)
  | succ n ih => exact fun a1 a2 T  h => s_X2_remove_b18 hn9 C M (ih) a1 a2 T  h
noncomputable def f_X2_remove (p1 : Int32) (T : Mm) : Option (Unit × Mm) :=
  lb (uI T 209 27 0) fun T1 =>
  bd (f_X8_has 28 p1 T1) fun v2 T3 =>
  if v2 = 0 then (some ((), T3))
  else (f_X2_remove_l18 FU p1 0 T3)
set_option maxRecDepth 100000 in
set_option maxHeartbeats 4000000 in
theorem s_X2_remove {ad : Nat → Nat} {U T : Mm} {q : Unit × Mm}  (p1 : Int32) (h : f_X2_remove p1 T = some q) : Cr 2 yX2_remove cX2_remove 3 none [.ref (ad 27), .int p1] ad true U T eV q := by
  refine cr_of (by decide) (Nat.le_of_ble_eq_true rfl) fun x S0 hn9 C M => ?_
  have C : CB x RX2 cX2_remove := C
  refine Jr.eq (lv' := [(0, .ref (ad 27)), (1, .int p1)]) (st' := []) rfl rfl ?_
  unfold f_X2_remove at h
  refine r_aload_n C dX2_remove_0 rfl 0 rfl ?_
  refine r_iconst (v := 0) C dX2_remove_1 (by decide) ?_
  refine r_putz (f := 209) C flX2_94 (by decide) rfl rfl (by decide) dX2_remove_2 kq_27 rfl h (fun T1 h => ?_)
  refine r_aload_n C dX2_remove_5 rfl 0 rfl ?_
  refine r_getp (f := 200) (j := 28) C flX2_14 dX2_remove_6 kq_27 (by decide) rfl (fun W => pt_200 kq_27 W) ?_
  show Jr _ _ _ _ _ _ 9 _
  refine r_iload_n C dX2_remove_9 rfl 1 rfl ?_
  refine r_callVI C M h [.int p1] [] mlX2_58 mcX8_has (fun q9 e9 => s_X8_has 28 p1 kq_28 e9) kq_28 rfl (by decide) (by decide) rfl rfl (Nat.le_of_ble_eq_true rfl) dX2_remove_10 (fun v2 T3 h => ?_)
  refine r_if_eq (tgt := 45) C dX2_remove_13 (by decide) h (fun h => ?_) (fun h => ?_)
  · exact r_vret C M dX2_remove_45 h
  · refine r_iconst (v := 0) C dX2_remove_16 (by decide) ?_
    refine r_istore_n (lv' := [(2, .int 0), (0, .ref (ad 27)), (1, .int p1)]) C dX2_remove_17 rfl (by rw [hn9]; decide) rfl ?_
    refine Jr.sub [1, 2, 0] (lv' := [(0, .ref (ad 27)), (1, .int p1), (2, .int 0)]) rfl ?_
    exact s_X2_remove_l18 hn9 C M  FU p1 0 T3 h
theorem dX2_removeMany_0 : decode cX2_removeMany 0 = .ok (.iconst 0, 1) := by decide +kernel
theorem dX2_removeMany_1 : decode cX2_removeMany 1 = .ok (.istore_n 2, 1) := by decide +kernel
theorem dX2_removeMany_2 : decode cX2_removeMany 2 = .ok (.iload_n 2, 1) := by decide +kernel
theorem dX2_removeMany_3 : decode cX2_removeMany 3 = .ok (.bipush 16, 2) := by decide +kernel
theorem dX2_removeMany_5 : decode cX2_removeMany 5 = .ok (.if_icmp .ge 29, 3) := by decide +kernel
theorem dX2_removeMany_8 : decode cX2_removeMany 8 = .ok (.iload_n 1, 1) := by decide +kernel
theorem dX2_removeMany_9 : decode cX2_removeMany 9 = .ok (.ifCond .eq 14, 3) := by decide +kernel
theorem dX2_removeMany_12 : decode cX2_removeMany 12 = .ok (.aload_n 0, 1) := by decide +kernel
theorem dX2_removeMany_13 : decode cX2_removeMany 13 = .ok (.getfield 14, 3) := by decide +kernel
theorem dX2_removeMany_16 : decode cX2_removeMany 16 = .ok (.iload_n 2, 1) := by decide +kernel
theorem dX2_removeMany_17 : decode cX2_removeMany 17 = .ok (.invokevirtual 103, 3) := by decide +kernel
theorem dX2_removeMany_20 : decode cX2_removeMany 20 = .ok (.ifCond .eq 8, 3) := by decide +kernel
theorem dX2_removeMany_23 : decode cX2_removeMany 23 = .ok (.aload_n 0, 1) := by decide +kernel
theorem dX2_removeMany_24 : decode cX2_removeMany 24 = .ok (.iload_n 2, 1) := by decide +kernel
theorem dX2_removeMany_25 : decode cX2_removeMany 25 = .ok (.invokevirtual 73, 3) := by decide +kernel
theorem dX2_removeMany_28 : decode cX2_removeMany 28 = .ok (.iinc 2 1, 3) := by decide +kernel
theorem dX2_removeMany_31 : decode cX2_removeMany 31 = .ok (.goto (-29), 3) := by decide +kernel
theorem dX2_removeMany_34 : decode cX2_removeMany 34 = .ok (.return_, 1) := by decide +kernel
noncomputable def f_X2_removeMany_b2 (k2 : Int32 → Int32 → Mm → Option (Unit × Mm)) (a1 : Int32) (a2 : Int32) (T : Mm) : Option (Unit × Mm) :=
  if 16 ≤ a2 then (some ((), T))
  else (if a1 = 0 then (bd (f_X2_remove a2 T) fun _ T1 =>
  k2 a1 (a2 + 1) T1)
  else (bd (f_X8_isTemporary 28 a2 T) fun v2 T3 =>
  if v2 = 0 then (k2 a1 (a2 + 1) T3)
  else (bd (f_X2_remove a2 T3) fun _ T4 =>
  k2 a1 (a2 + 1) T4)))
set_option maxRecDepth 100000 in
set_option maxHeartbeats 4000000 in
theorem s_X2_removeMany_b2 {x : JX} {ad : Nat → Nat} {U : Mm} {S0 : Hp} {q : Unit × Mm}  {k2 : Int32 → Int32 → Mm → Option (Unit × Mm)} (hn9 : x_n x = 3) (C : CB x RX2 cX2_removeMany) (M : CMr x 3 none S0 ad true U eV q) (hk2 : ∀ (a1 : Int32) (a2 : Int32) (T : Mm), k2 a1 a2 T = some q → Jr x ad true U T [(0, .ref (ad 27)), (1, .int a1), (2, .int a2)] 2 []) (a1 : Int32) (a2 : Int32) (T : Mm) (h : f_X2_removeMany_b2 k2 a1 a2 T = some q) : Jr x ad true U T [(0, .ref (ad 27)), (1, .int a1), (2, .int a2)] 2 [] := by
  unfold f_X2_removeMany_b2 at h
  refine r_iload_n C dX2_removeMany_2 rfl 2 rfl ?_
  refine r_bipush (v := 16) C dX2_removeMany_3 (by decide) ?_
  refine r_ic_ge (tgt := 34) C dX2_removeMany_5 (by decide) h (fun h => ?_) (fun h => ?_)
  · exact r_vret C M dX2_removeMany_34 h
  · refine r_iload_n C dX2_removeMany_8 rfl 1 rfl ?_
    refine r_if_eq (tgt := 23) C dX2_removeMany_9 (by decide) h (fun h => ?_) (fun h => ?_)
    · refine r_aload_n C dX2_removeMany_23 rfl 0 rfl ?_
      refine r_iload_n C dX2_removeMany_24 rfl 2 rfl ?_
      refine r_callVN C M h [.int a2] [] mlX2_73 mcX2_remove (fun q9 e9 => s_X2_remove a2  e9) kq_27 rfl (by decide) (by decide) rfl rfl (Nat.le_of_ble_eq_true rfl) dX2_removeMany_25 (fun _ T1 h => ?_)
      refine r_iinc (q := 2) (v := (a2 + 1)) (lv' := [(2, .int (a2 + 1)), (0, .ref (ad 27)), (1, .int a1)]) C dX2_removeMany_28 rfl (by rw [show Int32.ofInt (1) = 1 by decide]) (by rw [hn9]; decide) rfl ?_
      refine r_goto (tgt := 2) C dX2_removeMany_31 (by decide) ?_
      refine Jr.sub [1, 2, 0] (lv' := [(0, .ref (ad 27)), (1, .int a1), (2, .int (a2 + 1))]) rfl ?_
      exact hk2 a1 (a2 + 1) T1 h
    · refine r_aload_n C dX2_removeMany_12 rfl 0 rfl ?_
      refine r_getp (f := 200) (j := 28) C flX2_14 dX2_removeMany_13 kq_27 (by decide) rfl (fun W => pt_200 kq_27 W) ?_
      refine r_iload_n C dX2_removeMany_16 rfl 2 rfl ?_
      refine r_callVI C M h [.int a2] [] mlX2_103 mcX8_isTemporary (fun q9 e9 => s_X8_isTemporary 28 a2 kq_28 e9) kq_28 rfl (by decide) (by decide) rfl rfl (Nat.le_of_ble_eq_true rfl) dX2_removeMany_17 (fun v2 T3 h => ?_)
      refine r_if_eq (tgt := 28) C dX2_removeMany_20 (by decide) h (fun h => ?_) (fun h => ?_)
      · refine r_iinc (q := 2) (v := (a2 + 1)) (lv' := [(2, .int (a2 + 1)), (0, .ref (ad 27)), (1, .int a1)]) C dX2_removeMany_28 rfl (by rw [show Int32.ofInt (1) = 1 by decide]) (by rw [hn9]; decide) rfl ?_
        refine r_goto (tgt := 2) C dX2_removeMany_31 (by decide) ?_
        refine Jr.sub [1, 2, 0] (lv' := [(0, .ref (ad 27)), (1, .int a1), (2, .int (a2 + 1))]) rfl ?_
        exact hk2 a1 (a2 + 1) T3 h
      · refine r_aload_n C dX2_removeMany_23 rfl 0 rfl ?_
        refine r_iload_n C dX2_removeMany_24 rfl 2 rfl ?_
        refine r_callVN C M h [.int a2] [] mlX2_73 mcX2_remove (fun q9 e9 => s_X2_remove a2  e9) kq_27 rfl (by decide) (by decide) rfl rfl (Nat.le_of_ble_eq_true rfl) dX2_removeMany_25 (fun _ T4 h => ?_)
        refine r_iinc (q := 2) (v := (a2 + 1)) (lv' := [(2, .int (a2 + 1)), (0, .ref (ad 27)), (1, .int a1)]) C dX2_removeMany_28 rfl (by rw [show Int32.ofInt (1) = 1 by decide]) (by rw [hn9]; decide) rfl ?_
        refine r_goto (tgt := 2) C dX2_removeMany_31 (by decide) ?_
        refine Jr.sub [1, 2, 0] (lv' := [(0, .ref (ad 27)), (1, .int a1), (2, .int (a2 + 1))]) rfl ?_
        exact hk2 a1 (a2 + 1) T4 h
noncomputable def f_X2_removeMany_l2 (n : Nat) : Int32 → Int32 → Mm → Option (Unit × Mm) := Nat.rec (fun _ _ _ => none) (fun _ ih => f_X2_removeMany_b2 ih) n
theorem s_X2_removeMany_l2 {x : JX} {ad : Nat → Nat} {U : Mm} {S0 : Hp} {q : Unit × Mm}  (hn9 : x_n x = 3) (C : CB x RX2 cX2_removeMany) (M : CMr x 3 none S0 ad true U eV q) : ∀ (n : Nat), ∀ (a1 : Int32) (a2 : Int32) (T : Mm), f_X2_removeMany_l2  n a1 a2 T = some q → Jr x ad true U T [(0, .ref (ad 27)), (1, .int a1), (2, .int a2)] 2 [] := by
  intro n
  induction n with
  | zero => intro a1 a2 T  h; exact absurd h (by intro h; cases h)
  | succ n ih => exact fun a1 a2 T  h => s_X2_removeMany_b2 hn9 C M (ih) a1 a2 T  h
noncomputable def f_X2_removeMany (p1 : Int32) (T : Mm) : Option (Unit × Mm) :=
  f_X2_removeMany_l2 FU p1 0 T
set_option maxRecDepth 100000 in
set_option maxHeartbeats 4000000 in
theorem s_X2_removeMany {ad : Nat → Nat} {U T : Mm} {q : Unit × Mm}  (p1 : Int32) (h : f_X2_removeMany p1 T = some q) : Cr 3 yX2_removeMany cX2_removeMany 3 none [.ref (ad 27), .int p1] ad true U T eV q := by
  refine cr_of (by decide) (Nat.le_of_ble_eq_true rfl) fun x S0 hn9 C M => ?_
  have C : CB x RX2 cX2_removeMany := C
  refine Jr.eq (lv' := [(0, .ref (ad 27)), (1, .int p1)]) (st' := []) rfl rfl ?_
  unfold f_X2_removeMany at h
  refine r_iconst (v := 0) C dX2_removeMany_0 (by decide) ?_
  refine r_istore_n (lv' := [(2, .int 0), (0, .ref (ad 27)), (1, .int p1)]) C dX2_removeMany_1 rfl (by rw [hn9]; decide) rfl ?_
  refine Jr.sub [1, 2, 0] (lv' := [(0, .ref (ad 27)), (1, .int p1), (2, .int 0)]) rfl ?_
  exact s_X2_removeMany_l2 hn9 C M  FU p1 0 T h
theorem dX8_removeMany_0 : decode cX8_removeMany 0 = .ok (.iconst 0, 1) := by decide +kernel
theorem dX8_removeMany_1 : decode cX8_removeMany 1 = .ok (.istore_n 2, 1) := by decide +kernel
theorem dX8_removeMany_2 : decode cX8_removeMany 2 = .ok (.iload_n 2, 1) := by decide +kernel
theorem dX8_removeMany_3 : decode cX8_removeMany 3 = .ok (.bipush 16, 2) := by decide +kernel
theorem dX8_removeMany_5 : decode cX8_removeMany 5 = .ok (.if_icmp .ge 30, 3) := by decide +kernel
theorem dX8_removeMany_8 : decode cX8_removeMany 8 = .ok (.iload_n 1, 1) := by decide +kernel
theorem dX8_removeMany_9 : decode cX8_removeMany 9 = .ok (.ifCond .eq 13, 3) := by decide +kernel
theorem dX8_removeMany_12 : decode cX8_removeMany 12 = .ok (.aload_n 0, 1) := by decide +kernel
theorem dX8_removeMany_13 : decode cX8_removeMany 13 = .ok (.getfield 9, 3) := by decide +kernel
theorem dX8_removeMany_16 : decode cX8_removeMany 16 = .ok (.iload_n 2, 1) := by decide +kernel
theorem dX8_removeMany_17 : decode cX8_removeMany 17 = .ok (.iaload, 1) := by decide +kernel
theorem dX8_removeMany_18 : decode cX8_removeMany 18 = .ok (.iconst 1, 1) := by decide +kernel
theorem dX8_removeMany_19 : decode cX8_removeMany 19 = .ok (.if_icmp .ne 10, 3) := by decide +kernel
theorem dX8_removeMany_22 : decode cX8_removeMany 22 = .ok (.aload_n 0, 1) := by decide +kernel
theorem dX8_removeMany_23 : decode cX8_removeMany 23 = .ok (.getfield 9, 3) := by decide +kernel
theorem dX8_removeMany_26 : decode cX8_removeMany 26 = .ok (.iload_n 2, 1) := by decide +kernel
theorem dX8_removeMany_27 : decode cX8_removeMany 27 = .ok (.iconst 0, 1) := by decide +kernel
theorem dX8_removeMany_28 : decode cX8_removeMany 28 = .ok (.iastore, 1) := by decide +kernel
theorem dX8_removeMany_29 : decode cX8_removeMany 29 = .ok (.iinc 2 1, 3) := by decide +kernel
theorem dX8_removeMany_32 : decode cX8_removeMany 32 = .ok (.goto (-30), 3) := by decide +kernel
theorem dX8_removeMany_35 : decode cX8_removeMany 35 = .ok (.return_, 1) := by decide +kernel
noncomputable def f_X8_removeMany_b2 (k2 : Nat → Int32 → Int32 → Mm → Option (Unit × Mm)) (a0 : Nat) (a1 : Int32) (a2 : Int32) (T : Mm) : Option (Unit × Mm) :=
  if 16 ≤ a2 then (some ((), T))
  else (if a1 = 0 then (ix a2 16 fun j1 => lb (uA T (a0 + 1) j1 (0)) fun T3 =>
  k2 a0 a1 (a2 + 1) T3)
  else (ix a2 16 fun j4 =>
  if (gA T (a0 + 1) j4) = 1 then (ix a2 16 fun j6 => lb (uA T (a0 + 1) j6 (0)) fun T8 =>
  k2 a0 a1 (a2 + 1) T8)
  else (k2 a0 a1 (a2 + 1) T)))
set_option maxRecDepth 100000 in
set_option maxHeartbeats 4000000 in
theorem s_X8_removeMany_b2 {x : JX} {ad : Nat → Nat} {U : Mm} {S0 : Hp} {q : Unit × Mm}  {k2 : Nat → Int32 → Int32 → Mm → Option (Unit × Mm)} (hn9 : x_n x = 3) (C : CB x RX8 cX8_removeMany) (M : CMr x 1 none S0 ad true U eV q) (hk2 : ∀ (a0 : Nat) (a1 : Int32) (a2 : Int32) (T : Mm) (_ : kS true a0 = 8), k2 a0 a1 a2 T = some q → Jr x ad true U T [(0, .ref (ad a0)), (1, .int a1), (2, .int a2)] 2 []) (a0 : Nat) (a1 : Int32) (a2 : Int32) (T : Mm) (ha0 : kS true a0 = 8) (h : f_X8_removeMany_b2 k2 a0 a1 a2 T = some q) : Jr x ad true U T [(0, .ref (ad a0)), (1, .int a1), (2, .int a2)] 2 [] := by
  unfold f_X8_removeMany_b2 at h
  refine r_iload_n C dX8_removeMany_2 rfl 2 rfl ?_
  refine r_bipush (v := 16) C dX8_removeMany_3 (by decide) ?_
  refine r_ic_ge (tgt := 35) C dX8_removeMany_5 (by decide) h (fun h => ?_) (fun h => ?_)
  · exact r_vret C M dX8_removeMany_35 h
  · refine r_iload_n C dX8_removeMany_8 rfl 1 rfl ?_
    refine r_if_eq (tgt := 22) C dX8_removeMany_9 (by decide) h (fun h => ?_) (fun h => ?_)
    · refine r_aload_n C dX8_removeMany_22 rfl 0 rfl ?_
      refine r_getp (f := 800) (j := (a0 + 1)) C flX8_9 dX8_removeMany_23 ha0 (by decide) rfl (fun W => pt_800 ha0 W) ?_
      refine r_iload_n C dX8_removeMany_26 rfl 2 rfl ?_
      refine r_iconst (v := 0) C dX8_removeMany_27 (by decide) ?_
      refine r_iast (n := 16) C dX8_removeMany_28 (pk_800 ha0) (pl_800 ha0) h (fun j1 T3 hj2 h => ?_)
      show Jr _ _ _ _ _ _ 29 _
      refine r_iinc (q := 2) (v := (a2 + 1)) (lv' := [(2, .int (a2 + 1)), (0, .ref (ad a0)), (1, .int a1)]) C dX8_removeMany_29 rfl (by rw [show Int32.ofInt (1) = 1 by decide]) (by rw [hn9]; decide) rfl ?_
      refine r_goto (tgt := 2) C dX8_removeMany_32 (by decide) ?_
      refine Jr.sub [1, 2, 0] (lv' := [(0, .ref (ad a0)), (1, .int a1), (2, .int (a2 + 1))]) rfl ?_
      exact hk2 a0 a1 (a2 + 1) T3 ha0 h
    · refine r_aload_n C dX8_removeMany_12 rfl 0 rfl ?_
      refine r_getp (f := 800) (j := (a0 + 1)) C flX8_9 dX8_removeMany_13 ha0 (by decide) rfl (fun W => pt_800 ha0 W) ?_
      refine r_iload_n C dX8_removeMany_16 rfl 2 rfl ?_
      refine r_iald (n := 16) C dX8_removeMany_17 (pk_800 ha0) (pl_800 ha0) h (fun j4 hj5 h => ?_)
      refine r_iconst (v := 1) C dX8_removeMany_18 (by decide) ?_
      show Jr _ _ _ _ _ _ 19 _
      refine r_ic_ne (tgt := 29) C dX8_removeMany_19 (by decide) h (fun h => ?_) (fun h => ?_)
      · refine r_iinc (q := 2) (v := (a2 + 1)) (lv' := [(2, .int (a2 + 1)), (0, .ref (ad a0)), (1, .int a1)]) C dX8_removeMany_29 rfl (by rw [show Int32.ofInt (1) = 1 by decide]) (by rw [hn9]; decide) rfl ?_
        refine r_goto (tgt := 2) C dX8_removeMany_32 (by decide) ?_
        refine Jr.sub [1, 2, 0] (lv' := [(0, .ref (ad a0)), (1, .int a1), (2, .int (a2 + 1))]) rfl ?_
        exact hk2 a0 a1 (a2 + 1) T ha0 h
      · refine r_aload_n C dX8_removeMany_22 rfl 0 rfl ?_
        refine r_getp (f := 800) (j := (a0 + 1)) C flX8_9 dX8_removeMany_23 ha0 (by decide) rfl (fun W => pt_800 ha0 W) ?_
        refine r_iload_n C dX8_removeMany_26 rfl 2 rfl ?_
        refine r_iconst (v := 0) C dX8_removeMany_27 (by decide) ?_
        refine r_iast (n := 16) C dX8_removeMany_28 (pk_800 ha0) (pl_800 ha0) h (fun j6 T8 hj7 h => ?_)
        show Jr _ _ _ _ _ _ 29 _
        refine r_iinc (q := 2) (v := (a2 + 1)) (lv' := [(2, .int (a2 + 1)), (0, .ref (ad a0)), (1, .int a1)]) C dX8_removeMany_29 rfl (by rw [show Int32.ofInt (1) = 1 by decide]) (by rw [hn9]; decide) rfl ?_
        refine r_goto (tgt := 2) C dX8_removeMany_32 (by decide) ?_
        refine Jr.sub [1, 2, 0] (lv' := [(0, .ref (ad a0)), (1, .int a1), (2, .int (a2 + 1))]) rfl ?_
        exact hk2 a0 a1 (a2 + 1) T8 ha0 h
noncomputable def f_X8_removeMany_l2 (n : Nat) : Nat → Int32 → Int32 → Mm → Option (Unit × Mm) := Nat.rec (fun _ _ _ _ => none) (fun _ ih => f_X8_removeMany_b2 ih) n
theorem s_X8_removeMany_l2 {x : JX} {ad : Nat → Nat} {U : Mm} {S0 : Hp} {q : Unit × Mm}  (hn9 : x_n x = 3) (C : CB x RX8 cX8_removeMany) (M : CMr x 1 none S0 ad true U eV q) : ∀ (n : Nat), ∀ (a0 : Nat) (a1 : Int32) (a2 : Int32) (T : Mm) (_ : kS true a0 = 8), f_X8_removeMany_l2  n a0 a1 a2 T = some q → Jr x ad true U T [(0, .ref (ad a0)), (1, .int a1), (2, .int a2)] 2 [] := by
  intro n
  induction n with
  | zero => intro a0 a1 a2 T _ h; exact absurd h (by intro h; cases h)
  | succ n ih => exact fun a0 a1 a2 T ha0 h => s_X8_removeMany_b2 hn9 C M (ih) a0 a1 a2 T ha0 h
noncomputable def f_X8_removeMany (p0 : Nat) (p1 : Int32) (T : Mm) : Option (Unit × Mm) :=
  f_X8_removeMany_l2 FU p0 p1 0 T
set_option maxRecDepth 100000 in
set_option maxHeartbeats 4000000 in
theorem s_X8_removeMany {ad : Nat → Nat} {U T : Mm} {q : Unit × Mm}  (p0 : Nat) (p1 : Int32) (hk0 : kS true p0 = 8) (h : f_X8_removeMany p0 p1 T = some q) : Cr 1 yX8_removeMany cX8_removeMany 3 none [.ref (ad p0), .int p1] ad true U T eV q := by
  refine cr_of (by decide) (Nat.le_of_ble_eq_true rfl) fun x S0 hn9 C M => ?_
  have C : CB x RX8 cX8_removeMany := C
  refine Jr.eq (lv' := [(0, .ref (ad p0)), (1, .int p1)]) (st' := []) rfl rfl ?_
  unfold f_X8_removeMany at h
  refine r_iconst (v := 0) C dX8_removeMany_0 (by decide) ?_
  refine r_istore_n (lv' := [(2, .int 0), (0, .ref (ad p0)), (1, .int p1)]) C dX8_removeMany_1 rfl (by rw [hn9]; decide) rfl ?_
  refine Jr.sub [1, 2, 0] (lv' := [(0, .ref (ad p0)), (1, .int p1), (2, .int 0)]) rfl ?_
  exact s_X8_removeMany_l2 hn9 C M  FU p0 p1 0 T hk0 h
theorem dX9_dropTemporary_0 : decode cX9_dropTemporary 0 = .ok (.aload_n 0, 1) := by decide +kernel
theorem dX9_dropTemporary_1 : decode cX9_dropTemporary 1 = .ok (.getfield 21, 3) := by decide +kernel
theorem dX9_dropTemporary_4 : decode cX9_dropTemporary 4 = .ok (.iconst 1, 1) := by decide +kernel
theorem dX9_dropTemporary_5 : decode cX9_dropTemporary 5 = .ok (.invokevirtual 196, 3) := by decide +kernel
theorem dX9_dropTemporary_8 : decode cX9_dropTemporary 8 = .ok (.aload_n 0, 1) := by decide +kernel
theorem dX9_dropTemporary_9 : decode cX9_dropTemporary 9 = .ok (.getfield 28, 3) := by decide +kernel
theorem dX9_dropTemporary_12 : decode cX9_dropTemporary 12 = .ok (.iconst 1, 1) := by decide +kernel
theorem dX9_dropTemporary_13 : decode cX9_dropTemporary 13 = .ok (.invokevirtual 200, 3) := by decide +kernel
theorem dX9_dropTemporary_16 : decode cX9_dropTemporary 16 = .ok (.aload_n 0, 1) := by decide +kernel
theorem dX9_dropTemporary_17 : decode cX9_dropTemporary 17 = .ok (.getfield 43, 3) := by decide +kernel
theorem dX9_dropTemporary_20 : decode cX9_dropTemporary 20 = .ok (.iconst 1, 1) := by decide +kernel
theorem dX9_dropTemporary_21 : decode cX9_dropTemporary 21 = .ok (.invokevirtual 200, 3) := by decide +kernel
theorem dX9_dropTemporary_24 : decode cX9_dropTemporary 24 = .ok (.return_, 1) := by decide +kernel
noncomputable def f_X9_dropTemporary (T : Mm) : Option (Unit × Mm) :=
  bd (f_X2_removeMany 1 T) fun _ T1 =>
  bd (f_X8_removeMany 36 1 T1) fun _ T2 =>
  bd (f_X8_removeMany 41 1 T2) fun _ T3 =>
  some ((), T3)
set_option maxRecDepth 100000 in
set_option maxHeartbeats 4000000 in
theorem s_X9_dropTemporary {ad : Nat → Nat} {U T : Mm} {q : Unit × Mm}  (h : f_X9_dropTemporary  T = some q) : Cr 4 yX9_dropTemporary cX9_dropTemporary 1 none [.ref (ad 23)] ad true U T eV q := by
  refine cr_of (by decide) (Nat.le_of_ble_eq_true rfl) fun x S0 hn9 C M => ?_
  have C : CB x RX9 cX9_dropTemporary := C
  refine Jr.eq (lv' := [(0, .ref (ad 23))]) (st' := []) rfl rfl ?_
  unfold f_X9_dropTemporary at h
  refine r_aload_n C dX9_dropTemporary_0 rfl 0 rfl ?_
  refine r_getp (f := 902) (j := 27) C flX9_21 dX9_dropTemporary_1 kq_23 (by decide) rfl (fun W => pt_902 kq_23 W) ?_
  refine r_iconst (v := 1) C dX9_dropTemporary_4 (by decide) ?_
  refine r_callVN C M h [.int 1] [] mlX9_196 mcX2_removeMany (fun q9 e9 => s_X2_removeMany 1  e9) kq_27 rfl (by decide) (by decide) rfl rfl (Nat.le_of_ble_eq_true rfl) dX9_dropTemporary_5 (fun _ T1 h => ?_)
  refine r_aload_n C dX9_dropTemporary_8 rfl 0 rfl ?_
  show Jr _ _ _ _ _ _ 9 _
  refine r_getp (f := 903) (j := 36) C flX9_28 dX9_dropTemporary_9 kq_23 (by decide) rfl (fun W => pt_903 kq_23 W) ?_
  refine r_iconst (v := 1) C dX9_dropTemporary_12 (by decide) ?_
  refine r_callVN C M h [.int 1] [] mlX9_200 mcX8_removeMany (fun q9 e9 => s_X8_removeMany 36 1 kq_36 e9) kq_36 rfl (by decide) (by decide) rfl rfl (Nat.le_of_ble_eq_true rfl) dX9_dropTemporary_13 (fun _ T2 h => ?_)
  refine r_aload_n C dX9_dropTemporary_16 rfl 0 rfl ?_
  refine r_getp (f := 906) (j := 41) C flX9_43 dX9_dropTemporary_17 kq_23 (by decide) rfl (fun W => pt_906 kq_23 W) ?_
  refine r_iconst (v := 1) C dX9_dropTemporary_20 (by decide) ?_
  show Jr _ _ _ _ _ _ 21 _
  refine r_callVN C M h [.int 1] [] mlX9_200 mcX8_removeMany (fun q9 e9 => s_X8_removeMany 41 1 kq_41 e9) kq_41 rfl (by decide) (by decide) rfl rfl (Nat.le_of_ble_eq_true rfl) dX9_dropTemporary_21 (fun _ T3 h => ?_)
  exact r_vret C M dX9_dropTemporary_24 h
theorem dX9_reset_0 : decode cX9_reset 0 = .ok (.aload_n 0, 1) := by decide +kernel
theorem dX9_reset_1 : decode cX9_reset 1 = .ok (.invokevirtual 240, 3) := by decide +kernel
theorem dX9_reset_4 : decode cX9_reset 4 = .ok (.aload_n 0, 1) := by decide +kernel
theorem dX9_reset_5 : decode cX9_reset 5 = .ok (.getfield 57, 3) := by decide +kernel
theorem dX9_reset_8 : decode cX9_reset 8 = .ok (.iconst 1, 1) := by decide +kernel
theorem dX9_reset_9 : decode cX9_reset 9 = .ok (.iconst 0, 1) := by decide +kernel
theorem dX9_reset_10 : decode cX9_reset 10 = .ok (.invokevirtual 101, 3) := by decide +kernel
theorem dX9_reset_13 : decode cX9_reset 13 = .ok (.aload_n 0, 1) := by decide +kernel
theorem dX9_reset_14 : decode cX9_reset 14 = .ok (.invokevirtual 308, 3) := by decide +kernel
theorem dX9_reset_17 : decode cX9_reset 17 = .ok (.return_, 1) := by decide +kernel
noncomputable def f_X9_reset (G : Int32 → Mm → Option (Unit × Mm)) (T : Mm) : Option (Unit × Mm) :=
  bd (f_X9_eject G T) fun _ T1 =>
  bd (f_X1_reset 45 1 0 T1) fun _ T2 =>
  bd (f_X9_dropTemporary T2) fun _ T3 =>
  some ((), T3)
set_option maxRecDepth 100000 in
set_option maxHeartbeats 4000000 in
theorem s_X9_reset {ad : Nat → Nat} {U T : Mm} {q : Unit × Mm} {D : Nat} {G : Int32 → Mm → Option (Unit × Mm)}  (hD : 40 ≤ D) (hG : ∀ (i : Int32) (T : Mm) (q : Unit × Mm), G i T = some q → Cr D yX9_goMacro cX9_goMacro 3 none [.ref (ad 23), .int i] ad true U T eV q) (h : f_X9_reset G  T = some q) : Cr (D + 2) yX9_reset cX9_reset 1 none [.ref (ad 23)] ad true U T eV q := by
  refine cr_of (by decide) (Nat.le_of_ble_eq_true rfl) fun x S0 hn9 C M => ?_
  have C : CB x RX9 cX9_reset := C
  refine Jr.eq (lv' := [(0, .ref (ad 23))]) (st' := []) rfl rfl ?_
  unfold f_X9_reset at h
  refine r_aload_n C dX9_reset_0 rfl 0 rfl ?_
  refine r_callVN C M h [] [] mlX9_240 mcX9_eject (fun q9 e9 => s_X9_eject hD (fun i9 T9 q9 e9 => hG i9 T9 q9 e9)   e9) kq_23 rfl (by omega) (by decide) rfl rfl (Nat.le_of_ble_eq_true rfl) dX9_reset_1 (fun _ T1 h => ?_)
  refine r_aload_n C dX9_reset_4 rfl 0 rfl ?_
  refine r_getp (f := 909) (j := 45) C flX9_57 dX9_reset_5 kq_23 (by decide) rfl (fun W => pt_909 kq_23 W) ?_
  refine r_iconst (v := 1) C dX9_reset_8 (by decide) ?_
  show Jr _ _ _ _ _ _ 9 _
  refine r_iconst (v := 0) C dX9_reset_9 (by decide) ?_
  refine r_callVN C M h [.int 1, .int 0] [] mlX9_101 mcX1_reset (fun q9 e9 => s_X1_reset 45 1 0 kq_45 e9) kq_45 rfl (by omega) (by decide) rfl rfl (Nat.le_of_ble_eq_true rfl) dX9_reset_10 (fun _ T2 h => ?_)
  refine r_aload_n C dX9_reset_13 rfl 0 rfl ?_
  refine r_callVN C M h [] [] mlX9_308 mcX9_dropTemporary (fun q9 e9 => s_X9_dropTemporary   e9) kq_23 rfl (by omega) (by decide) rfl rfl (Nat.le_of_ble_eq_true rfl) dX9_reset_14 (fun _ T3 h => ?_)
  exact r_vret C M dX9_reset_17 h
theorem dX9_passEach_0 : decode cX9_passEach 0 = .ok (.iconst 1, 1) := by decide +kernel
theorem dX9_passEach_1 : decode cX9_passEach 1 = .ok (.istore_n 2, 1) := by decide +kernel
theorem dX9_passEach_2 : decode cX9_passEach 2 = .ok (.iconst 0, 1) := by decide +kernel
theorem dX9_passEach_3 : decode cX9_passEach 3 = .ok (.istore_n 3, 1) := by decide +kernel
theorem dX9_passEach_4 : decode cX9_passEach 4 = .ok (.iload_n 3, 1) := by decide +kernel
theorem dX9_passEach_5 : decode cX9_passEach 5 = .ok (.iload_n 1, 1) := by decide +kernel
theorem dX9_passEach_6 : decode cX9_passEach 6 = .ok (.if_icmp .ge 19, 3) := by decide +kernel
theorem dX9_passEach_9 : decode cX9_passEach 9 = .ok (.iload_n 2, 1) := by decide +kernel
theorem dX9_passEach_10 : decode cX9_passEach 10 = .ok (.ifCond .eq 15, 3) := by decide +kernel
theorem dX9_passEach_13 : decode cX9_passEach 13 = .ok (.aload_n 0, 1) := by decide +kernel
theorem dX9_passEach_14 : decode cX9_passEach 14 = .ok (.iconst 1, 1) := by decide +kernel
theorem dX9_passEach_15 : decode cX9_passEach 15 = .ok (.invokevirtual 204, 3) := by decide +kernel
theorem dX9_passEach_18 : decode cX9_passEach 18 = .ok (.istore_n 2, 1) := by decide +kernel
theorem dX9_passEach_19 : decode cX9_passEach 19 = .ok (.iinc 3 1, 3) := by decide +kernel
theorem dX9_passEach_22 : decode cX9_passEach 22 = .ok (.goto (-18), 3) := by decide +kernel
theorem dX9_passEach_25 : decode cX9_passEach 25 = .ok (.iload_n 2, 1) := by decide +kernel
theorem dX9_passEach_26 : decode cX9_passEach 26 = .ok (.ireturn, 1) := by decide +kernel
noncomputable def f_X9_passEach_b4 (k4 : Int32 → Int32 → Int32 → Mm → Option (Int32 × Mm)) (a1 : Int32) (a2 : Int32) (a3 : Int32) (T : Mm) : Option (Int32 × Mm) :=
  if a1 ≤ a3 then (gd (a2 = 0 ∨ a2 = 1) <|
  some (a2, T))
  else (if a2 = 0 then (gd (a2 = 0 ∨ a2 = 1) <|
  some (a2, T))
  else (bd (f_X9_pass 1 T) fun v3 T4 =>
  k4 a1 v3 (a3 + 1) T4))
set_option maxRecDepth 100000 in
set_option maxHeartbeats 4000000 in
theorem s_X9_passEach_b4 {x : JX} {ad : Nat → Nat} {U : Mm} {S0 : Hp} {q : Int32 × Mm}  {k4 : Int32 → Int32 → Int32 → Mm → Option (Int32 × Mm)} (hn9 : x_n x = 4) (C : CB x RX9 cX9_passEach) (M : CMr x 3 (some .boolean) S0 ad true U eI q) (hk4 : ∀ (a1 : Int32) (a2 : Int32) (a3 : Int32) (T : Mm), k4 a1 a2 a3 T = some q → Jr x ad true U T [(0, .ref (ad 23)), (1, .int a1), (2, .int a2), (3, .int a3)] 4 []) (a1 : Int32) (a2 : Int32) (a3 : Int32) (T : Mm) (h : f_X9_passEach_b4 k4 a1 a2 a3 T = some q) : Jr x ad true U T [(0, .ref (ad 23)), (1, .int a1), (2, .int a2), (3, .int a3)] 4 [] := by
  unfold f_X9_passEach_b4 at h
  refine r_iload_n C dX9_passEach_4 rfl 3 rfl ?_
  refine r_iload_n C dX9_passEach_5 rfl 1 rfl ?_
  refine r_ic_ge (tgt := 25) C dX9_passEach_6 (by decide) h (fun h => ?_) (fun h => ?_)
  · refine r_iload_n C dX9_passEach_25 rfl 2 rfl ?_
    refine r_gd h (fun hz1 h => ?_)
    exact r_zret C M dX9_passEach_26 hz1 h
  · refine r_iload_n C dX9_passEach_9 rfl 2 rfl ?_
    refine r_if_eq (tgt := 25) C dX9_passEach_10 (by decide) h (fun h => ?_) (fun h => ?_)
    · refine r_iload_n C dX9_passEach_25 rfl 2 rfl ?_
      refine r_gd h (fun hz2 h => ?_)
      exact r_zret C M dX9_passEach_26 hz2 h
    · refine r_aload_n C dX9_passEach_13 rfl 0 rfl ?_
      refine r_iconst (v := 1) C dX9_passEach_14 (by decide) ?_
      refine r_callVI C M h [.int 1] [] mlX9_204 mcX9_pass (fun q9 e9 => s_X9_pass 1  e9) kq_23 rfl (by decide) (by decide) rfl rfl (Nat.le_of_ble_eq_true rfl) dX9_passEach_15 (fun v3 T4 h => ?_)
      refine r_istore_n (lv' := [(2, .int v3), (0, .ref (ad 23)), (1, .int a1), (3, .int a3)]) C dX9_passEach_18 rfl (by rw [hn9]; decide) rfl ?_
      refine r_iinc (q := 3) (v := (a3 + 1)) (lv' := [(3, .int (a3 + 1)), (2, .int v3), (0, .ref (ad 23)), (1, .int a1)]) C dX9_passEach_19 rfl (by rw [show Int32.ofInt (1) = 1 by decide]) (by rw [hn9]; decide) rfl ?_
      show Jr _ _ _ _ _ _ 22 _
      refine r_goto (tgt := 4) C dX9_passEach_22 (by decide) ?_
      refine Jr.sub [2, 3, 1, 0] (lv' := [(0, .ref (ad 23)), (1, .int a1), (2, .int v3), (3, .int (a3 + 1))]) rfl ?_
      exact hk4 a1 v3 (a3 + 1) T4 h
noncomputable def f_X9_passEach_l4 (n : Nat) : Int32 → Int32 → Int32 → Mm → Option (Int32 × Mm) := Nat.rec (fun _ _ _ _ => none) (fun _ ih => f_X9_passEach_b4 ih) n
theorem s_X9_passEach_l4 {x : JX} {ad : Nat → Nat} {U : Mm} {S0 : Hp} {q : Int32 × Mm}  (hn9 : x_n x = 4) (C : CB x RX9 cX9_passEach) (M : CMr x 3 (some .boolean) S0 ad true U eI q) : ∀ (n : Nat), ∀ (a1 : Int32) (a2 : Int32) (a3 : Int32) (T : Mm), f_X9_passEach_l4  n a1 a2 a3 T = some q → Jr x ad true U T [(0, .ref (ad 23)), (1, .int a1), (2, .int a2), (3, .int a3)] 4 [] := by
  intro n
  induction n with
  | zero => intro a1 a2 a3 T  h; exact absurd h (by intro h; cases h)
  | succ n ih => exact fun a1 a2 a3 T  h => s_X9_passEach_b4 hn9 C M (ih) a1 a2 a3 T  h
noncomputable def f_X9_passEach (p1 : Int32) (T : Mm) : Option (Int32 × Mm) :=
  f_X9_passEach_l4 FU p1 1 0 T
set_option maxRecDepth 100000 in
set_option maxHeartbeats 4000000 in
theorem s_X9_passEach {ad : Nat → Nat} {U T : Mm} {q : Int32 × Mm}  (p1 : Int32) (h : f_X9_passEach p1 T = some q) : Cr 3 yX9_passEach cX9_passEach 4 (some .boolean) [.ref (ad 23), .int p1] ad true U T eI q := by
  refine cr_of (by decide) (Nat.le_of_ble_eq_true rfl) fun x S0 hn9 C M => ?_
  have C : CB x RX9 cX9_passEach := C
  refine Jr.eq (lv' := [(0, .ref (ad 23)), (1, .int p1)]) (st' := []) rfl rfl ?_
  unfold f_X9_passEach at h
  refine r_iconst (v := 1) C dX9_passEach_0 (by decide) ?_
  refine r_istore_n (lv' := [(2, .int 1), (0, .ref (ad 23)), (1, .int p1)]) C dX9_passEach_1 rfl (by rw [hn9]; decide) rfl ?_
  refine r_iconst (v := 0) C dX9_passEach_2 (by decide) ?_
  refine r_istore_n (lv' := [(3, .int 0), (2, .int 1), (0, .ref (ad 23)), (1, .int p1)]) C dX9_passEach_3 rfl (by rw [hn9]; decide) rfl ?_
  refine Jr.sub [2, 3, 1, 0] (lv' := [(0, .ref (ad 23)), (1, .int p1), (2, .int 1), (3, .int 0)]) rfl ?_
  exact s_X9_passEach_l4 hn9 C M  FU p1 1 0 T h
theorem dX2_glyphOf_0 : decode cX2_glyphOf 0 = .ok (.iload_n 1, 1) := by decide +kernel
theorem dX2_glyphOf_1 : decode cX2_glyphOf 1 = .ok (.sipush 256, 3) := by decide +kernel
theorem dX2_glyphOf_4 : decode cX2_glyphOf 4 = .ok (.imul, 1) := by decide +kernel
theorem dX2_glyphOf_5 : decode cX2_glyphOf 5 = .ok (.iload_n 2, 1) := by decide +kernel
theorem dX2_glyphOf_6 : decode cX2_glyphOf 6 = .ok (.iadd, 1) := by decide +kernel
theorem dX2_glyphOf_7 : decode cX2_glyphOf 7 = .ok (.istore_n 3, 1) := by decide +kernel
theorem dX2_glyphOf_8 : decode cX2_glyphOf 8 = .ok (.iload_n 3, 1) := by decide +kernel
theorem dX2_glyphOf_9 : decode cX2_glyphOf 9 = .ok (.ifCond .lt 23, 3) := by decide +kernel
theorem dX2_glyphOf_12 : decode cX2_glyphOf 12 = .ok (.iload_n 3, 1) := by decide +kernel
theorem dX2_glyphOf_13 : decode cX2_glyphOf 13 = .ok (.aload_n 0, 1) := by decide +kernel
theorem dX2_glyphOf_14 : decode cX2_glyphOf 14 = .ok (.getfield 22, 3) := by decide +kernel
theorem dX2_glyphOf_17 : decode cX2_glyphOf 17 = .ok (.arraylength, 1) := by decide +kernel
theorem dX2_glyphOf_18 : decode cX2_glyphOf 18 = .ok (.if_icmp .ge 14, 3) := by decide +kernel
theorem dX2_glyphOf_21 : decode cX2_glyphOf 21 = .ok (.aload_n 0, 1) := by decide +kernel
theorem dX2_glyphOf_22 : decode cX2_glyphOf 22 = .ok (.getfield 22, 3) := by decide +kernel
theorem dX2_glyphOf_25 : decode cX2_glyphOf 25 = .ok (.iload_n 3, 1) := by decide +kernel
theorem dX2_glyphOf_26 : decode cX2_glyphOf 26 = .ok (.iaload, 1) := by decide +kernel
theorem dX2_glyphOf_27 : decode cX2_glyphOf 27 = .ok (.iconst 1, 1) := by decide +kernel
theorem dX2_glyphOf_28 : decode cX2_glyphOf 28 = .ok (.isub, 1) := by decide +kernel
theorem dX2_glyphOf_29 : decode cX2_glyphOf 29 = .ok (.goto 4, 3) := by decide +kernel
theorem dX2_glyphOf_32 : decode cX2_glyphOf 32 = .ok (.iconst (-1), 1) := by decide +kernel
theorem dX2_glyphOf_33 : decode cX2_glyphOf 33 = .ok (.ireturn, 1) := by decide +kernel
noncomputable def f_X2_glyphOf (p1 : Int32) (p2 : Int32) (T : Mm) : Option (Int32 × Mm) :=
  lb (((p1 * 256) + p2)) fun v1 =>
  if v1 < 0 then (some ((-1), T))
  else (if 4352 ≤ v1 then (some ((-1), T))
  else (ix v1 4352 fun j2 =>
  some (((gA T 31 j2) - 1), T)))
set_option maxRecDepth 100000 in
set_option maxHeartbeats 4000000 in
theorem s_X2_glyphOf {ad : Nat → Nat} {U T : Mm} {q : Int32 × Mm}  (p1 : Int32) (p2 : Int32) (h : f_X2_glyphOf p1 p2 T = some q) : Cr 1 yX2_glyphOf cX2_glyphOf 4 (some .int) [.ref (ad 27), .int p1, .int p2] ad true U T eI q := by
  refine cr_of (by decide) (Nat.le_of_ble_eq_true rfl) fun x S0 hn9 C M => ?_
  have C : CB x RX2 cX2_glyphOf := C
  refine Jr.eq (lv' := [(0, .ref (ad 27)), (1, .int p1), (2, .int p2)]) (st' := []) rfl rfl ?_
  unfold f_X2_glyphOf at h
  refine r_iload_n C dX2_glyphOf_0 rfl 1 rfl ?_
  refine r_sipush (v := 256) C dX2_glyphOf_1 (by decide) ?_
  refine r_imul C dX2_glyphOf_4 rfl ?_
  refine r_iload_n C dX2_glyphOf_5 rfl 2 rfl ?_
  refine r_iadd C dX2_glyphOf_6 rfl ?_
  show Jr _ _ _ _ _ _ 7 _
  refine r_lbI h (fun v1 h => ?_)
  refine r_istore_n (lv' := [(3, .int v1), (0, .ref (ad 27)), (1, .int p1), (2, .int p2)]) C dX2_glyphOf_7 rfl (by rw [hn9]; decide) rfl ?_
  refine r_iload_n C dX2_glyphOf_8 rfl 0 rfl ?_
  refine r_if_lt (tgt := 32) C dX2_glyphOf_9 (by decide) h (fun h => ?_) (fun h => ?_)
  · refine r_iconst (v := (-1)) C dX2_glyphOf_32 (by decide) ?_
    exact r_iret C M dX2_glyphOf_33 h
  · refine r_iload_n C dX2_glyphOf_12 rfl 0 rfl ?_
    refine r_aload_n C dX2_glyphOf_13 rfl 1 rfl ?_
    refine r_getp (f := 202) (j := 31) C flX2_22 dX2_glyphOf_14 kq_27 (by decide) rfl (fun W => pt_202 kq_27 W) ?_
    refine r_alen (n := 0) (v := 4352) C dX2_glyphOf_17 kq_31 (by decide) (by decide) (congrArg Int32.ofNat lq_31) ?_
    refine r_ic_ge (tgt := 32) C dX2_glyphOf_18 (by decide) h (fun h => ?_) (fun h => ?_)
    · refine r_iconst (v := (-1)) C dX2_glyphOf_32 (by decide) ?_
      exact r_iret C M dX2_glyphOf_33 h
    · refine r_aload_n C dX2_glyphOf_21 rfl 1 rfl ?_
      refine r_getp (f := 202) (j := 31) C flX2_22 dX2_glyphOf_22 kq_27 (by decide) rfl (fun W => pt_202 kq_27 W) ?_
      refine r_iload_n C dX2_glyphOf_25 rfl 0 rfl ?_
      refine r_iald (n := 4352) C dX2_glyphOf_26 kq_31 lq_31 h (fun j2 hj3 h => ?_)
      refine r_iconst (v := 1) C dX2_glyphOf_27 (by decide) ?_
      show Jr _ _ _ _ _ _ 28 _
      refine r_isub C dX2_glyphOf_28 rfl ?_
      refine r_goto (tgt := 33) C dX2_glyphOf_29 (by decide) ?_
      exact r_iret C M dX2_glyphOf_33 h
theorem dX2_head_0 : decode cX2_head 0 = .ok (.iload_n 1, 1) := by decide +kernel
theorem dX2_head_1 : decode cX2_head 1 = .ok (.iconst 5, 1) := by decide +kernel
theorem dX2_head_2 : decode cX2_head 2 = .ok (.imul, 1) := by decide +kernel
theorem dX2_head_3 : decode cX2_head 3 = .ok (.iload_n 2, 1) := by decide +kernel
theorem dX2_head_4 : decode cX2_head 4 = .ok (.iadd, 1) := by decide +kernel
theorem dX2_head_5 : decode cX2_head 5 = .ok (.istore_n 3, 1) := by decide +kernel
theorem dX2_head_6 : decode cX2_head 6 = .ok (.iload_n 3, 1) := by decide +kernel
theorem dX2_head_7 : decode cX2_head 7 = .ok (.ifCond .lt 21, 3) := by decide +kernel
theorem dX2_head_10 : decode cX2_head 10 = .ok (.iload_n 3, 1) := by decide +kernel
theorem dX2_head_11 : decode cX2_head 11 = .ok (.aload_n 0, 1) := by decide +kernel
theorem dX2_head_12 : decode cX2_head 12 = .ok (.getfield 29, 3) := by decide +kernel
theorem dX2_head_15 : decode cX2_head 15 = .ok (.arraylength, 1) := by decide +kernel
theorem dX2_head_16 : decode cX2_head 16 = .ok (.if_icmp .ge 12, 3) := by decide +kernel
theorem dX2_head_19 : decode cX2_head 19 = .ok (.aload_n 0, 1) := by decide +kernel
theorem dX2_head_20 : decode cX2_head 20 = .ok (.getfield 29, 3) := by decide +kernel
theorem dX2_head_23 : decode cX2_head 23 = .ok (.iload_n 3, 1) := by decide +kernel
theorem dX2_head_24 : decode cX2_head 24 = .ok (.iaload, 1) := by decide +kernel
theorem dX2_head_25 : decode cX2_head 25 = .ok (.goto 4, 3) := by decide +kernel
theorem dX2_head_28 : decode cX2_head 28 = .ok (.iconst 0, 1) := by decide +kernel
theorem dX2_head_29 : decode cX2_head 29 = .ok (.ireturn, 1) := by decide +kernel
noncomputable def f_X2_head (p1 : Int32) (p2 : Int32) (T : Mm) : Option (Int32 × Mm) :=
  lb (((p1 * 5) + p2)) fun v1 =>
  if v1 < 0 then (some (0, T))
  else (if 2470 ≤ v1 then (some (0, T))
  else (ix v1 2470 fun j2 =>
  some ((gA T 33 j2), T)))
set_option maxRecDepth 100000 in
set_option maxHeartbeats 4000000 in
theorem s_X2_head {ad : Nat → Nat} {U T : Mm} {q : Int32 × Mm}  (p1 : Int32) (p2 : Int32) (h : f_X2_head p1 p2 T = some q) : Cr 1 yX2_head cX2_head 4 (some .int) [.ref (ad 27), .int p1, .int p2] ad true U T eI q := by
  refine cr_of (by decide) (Nat.le_of_ble_eq_true rfl) fun x S0 hn9 C M => ?_
  have C : CB x RX2 cX2_head := C
  refine Jr.eq (lv' := [(0, .ref (ad 27)), (1, .int p1), (2, .int p2)]) (st' := []) rfl rfl ?_
  unfold f_X2_head at h
  refine r_iload_n C dX2_head_0 rfl 1 rfl ?_
  refine r_iconst (v := 5) C dX2_head_1 (by decide) ?_
  refine r_imul C dX2_head_2 rfl ?_
  refine r_iload_n C dX2_head_3 rfl 2 rfl ?_
  refine r_iadd C dX2_head_4 rfl ?_
  show Jr _ _ _ _ _ _ 5 _
  refine r_lbI h (fun v1 h => ?_)
  refine r_istore_n (lv' := [(3, .int v1), (0, .ref (ad 27)), (1, .int p1), (2, .int p2)]) C dX2_head_5 rfl (by rw [hn9]; decide) rfl ?_
  refine r_iload_n C dX2_head_6 rfl 0 rfl ?_
  refine r_if_lt (tgt := 28) C dX2_head_7 (by decide) h (fun h => ?_) (fun h => ?_)
  · refine r_iconst (v := 0) C dX2_head_28 (by decide) ?_
    exact r_iret C M dX2_head_29 h
  · refine r_iload_n C dX2_head_10 rfl 0 rfl ?_
    refine r_aload_n C dX2_head_11 rfl 1 rfl ?_
    refine r_getp (f := 204) (j := 33) C flX2_29 dX2_head_12 kq_27 (by decide) rfl (fun W => pt_204 kq_27 W) ?_
    refine r_alen (n := 0) (v := 2470) C dX2_head_15 kq_33 (by decide) (by decide) (congrArg Int32.ofNat lq_33) ?_
    refine r_ic_ge (tgt := 28) C dX2_head_16 (by decide) h (fun h => ?_) (fun h => ?_)
    · refine r_iconst (v := 0) C dX2_head_28 (by decide) ?_
      exact r_iret C M dX2_head_29 h
    · refine r_aload_n C dX2_head_19 rfl 1 rfl ?_
      refine r_getp (f := 204) (j := 33) C flX2_29 dX2_head_20 kq_27 (by decide) rfl (fun W => pt_204 kq_27 W) ?_
      refine r_iload_n C dX2_head_23 rfl 0 rfl ?_
      refine r_iald (n := 2470) C dX2_head_24 kq_33 lq_33 h (fun j2 hj3 h => ?_)
      refine r_goto (tgt := 29) C dX2_head_25 (by decide) ?_
      show Jr _ _ _ _ _ _ 29 _
      exact r_iret C M dX2_head_29 h
theorem dX9_advance_0 : decode cX9_advance 0 = .ok (.iload_n 2, 1) := by decide +kernel
theorem dX9_advance_1 : decode cX9_advance 1 = .ok (.ifCond .lt 19, 3) := by decide +kernel
theorem dX9_advance_4 : decode cX9_advance 4 = .ok (.aload_n 0, 1) := by decide +kernel
theorem dX9_advance_5 : decode cX9_advance 5 = .ok (.getfield 21, 3) := by decide +kernel
theorem dX9_advance_8 : decode cX9_advance 8 = .ok (.iload_n 1, 1) := by decide +kernel
theorem dX9_advance_9 : decode cX9_advance 9 = .ok (.iconst 1, 1) := by decide +kernel
theorem dX9_advance_10 : decode cX9_advance 10 = .ok (.invokevirtual 292, 3) := by decide +kernel
theorem dX9_advance_13 : decode cX9_advance 13 = .ok (.ifCond .eq 7, 3) := by decide +kernel
theorem dX9_advance_16 : decode cX9_advance 16 = .ok (.iconst 1, 1) := by decide +kernel
theorem dX9_advance_17 : decode cX9_advance 17 = .ok (.goto 4, 3) := by decide +kernel
theorem dX9_advance_20 : decode cX9_advance 20 = .ok (.iconst 0, 1) := by decide +kernel
theorem dX9_advance_21 : decode cX9_advance 21 = .ok (.istore_n 3, 1) := by decide +kernel
theorem dX9_advance_22 : decode cX9_advance 22 = .ok (.iload_n 3, 1) := by decide +kernel
theorem dX9_advance_23 : decode cX9_advance 23 = .ok (.ifCond .eq 15, 3) := by decide +kernel
theorem dX9_advance_26 : decode cX9_advance 26 = .ok (.aload_n 0, 1) := by decide +kernel
theorem dX9_advance_27 : decode cX9_advance 27 = .ok (.getfield 21, 3) := by decide +kernel
theorem dX9_advance_30 : decode cX9_advance 30 = .ok (.iload_n 2, 1) := by decide +kernel
theorem dX9_advance_31 : decode cX9_advance 31 = .ok (.iconst 4, 1) := by decide +kernel
theorem dX9_advance_32 : decode cX9_advance 32 = .ok (.invokevirtual 524, 3) := by decide +kernel
theorem dX9_advance_35 : decode cX9_advance 35 = .ok (.goto 13, 3) := by decide +kernel
theorem dX9_advance_38 : decode cX9_advance 38 = .ok (.aload_n 0, 1) := by decide +kernel
theorem dX9_advance_39 : decode cX9_advance 39 = .ok (.getfield 57, 3) := by decide +kernel
theorem dX9_advance_42 : decode cX9_advance 42 = .ok (.getfield 129, 3) := by decide +kernel
theorem dX9_advance_45 : decode cX9_advance 45 = .ok (.getfield 141, 3) := by decide +kernel
theorem dX9_advance_48 : decode cX9_advance 48 = .ok (.ireturn, 1) := by decide +kernel
noncomputable def f_X9_advance_21 (a2 : Int32) (b0 : Int32) (T : Mm) : Option (Int32 × Mm) :=
  if b0 = 0 then (some ((gI T 709 46), T))
  else (bd (f_X2_head a2 4 T) fun v1 T2 =>
  some (v1, T2))
set_option maxRecDepth 100000 in
set_option maxHeartbeats 4000000 in
theorem s_X9_advance_21 {x : JX} {ad : Nat → Nat} {U : Mm} {S0 : Hp} {q : Int32 × Mm}  (hn9 : x_n x = 4) (C : CB x RX9 cX9_advance) (M : CMr x 2 (some .int) S0 ad true U eI q) (a2 : Int32) (b0 : Int32) (T : Mm) (h : f_X9_advance_21  a2 b0 T = some q) : Jr x ad true U T [(0, .ref (ad 23)), (2, .int a2)] 21 [.int b0] := by
  unfold f_X9_advance_21 at h
  refine r_istore_n (lv' := [(3, .int b0), (0, .ref (ad 23)), (2, .int a2)]) C dX9_advance_21 rfl (by rw [hn9]; decide) rfl ?_
  refine r_iload_n C dX9_advance_22 rfl 0 rfl ?_
  refine r_if_eq (tgt := 38) C dX9_advance_23 (by decide) h (fun h => ?_) (fun h => ?_)
  · refine r_aload_n C dX9_advance_38 rfl 1 rfl ?_
    refine r_getp (f := 909) (j := 45) C flX9_57 dX9_advance_39 kq_23 (by decide) rfl (fun W => pt_909 kq_23 W) ?_
    refine r_getp (f := 100) (j := 46) C flX9_129 dX9_advance_42 kq_45 (by decide) rfl (fun W => pt_100 kq_45 W) ?_
    refine r_geti (f := 709) C flX9_141 dX9_advance_45 kq_46 (by decide) (by decide) rfl ?_
    exact r_iret C M dX9_advance_48 h
  · refine r_aload_n C dX9_advance_26 rfl 1 rfl ?_
    refine r_getp (f := 902) (j := 27) C flX9_21 dX9_advance_27 kq_23 (by decide) rfl (fun W => pt_902 kq_23 W) ?_
    refine r_iload_n C dX9_advance_30 rfl 2 rfl ?_
    refine r_iconst (v := 4) C dX9_advance_31 (by decide) ?_
    refine r_callVI C M h [.int a2, .int 4] [] mlX9_524 mcX2_head (fun q9 e9 => s_X2_head a2 4  e9) kq_27 rfl (by decide) (by decide) rfl rfl (Nat.le_of_ble_eq_true rfl) dX9_advance_32 (fun v1 T2 h => ?_)
    show Jr _ _ _ _ _ _ 35 _
    refine r_goto (tgt := 48) C dX9_advance_35 (by decide) ?_
    exact r_iret C M dX9_advance_48 h
noncomputable def f_X9_advance (p1 : Int32) (p2 : Int32) (T : Mm) : Option (Int32 × Mm) :=
  if p2 < 0 then (f_X9_advance_21 p2 0 T)
  else (bd (f_X2_number p1 1 T) fun v1 T2 =>
  if v1 = 0 then (f_X9_advance_21 p2 0 T2)
  else (f_X9_advance_21 p2 1 T2))
set_option maxRecDepth 100000 in
set_option maxHeartbeats 4000000 in
theorem s_X9_advance {ad : Nat → Nat} {U T : Mm} {q : Int32 × Mm}  (p1 : Int32) (p2 : Int32) (h : f_X9_advance p1 p2 T = some q) : Cr 2 yX9_advance cX9_advance 4 (some .int) [.ref (ad 23), .int p1, .int p2] ad true U T eI q := by
  refine cr_of (by decide) (Nat.le_of_ble_eq_true rfl) fun x S0 hn9 C M => ?_
  have C : CB x RX9 cX9_advance := C
  refine Jr.eq (lv' := [(0, .ref (ad 23)), (1, .int p1), (2, .int p2)]) (st' := []) rfl rfl ?_
  unfold f_X9_advance at h
  refine r_iload_n C dX9_advance_0 rfl 2 rfl ?_
  refine r_if_lt (tgt := 20) C dX9_advance_1 (by decide) h (fun h => ?_) (fun h => ?_)
  · refine r_iconst (v := 0) C dX9_advance_20 (by decide) ?_
    refine Jr.sub [0, 2] (lv' := [(0, .ref (ad 23)), (2, .int p2)]) rfl ?_
    exact s_X9_advance_21 hn9 C M  p2 0 T h
  · refine r_aload_n C dX9_advance_4 rfl 0 rfl ?_
    refine r_getp (f := 902) (j := 27) C flX9_21 dX9_advance_5 kq_23 (by decide) rfl (fun W => pt_902 kq_23 W) ?_
    refine r_iload_n C dX9_advance_8 rfl 1 rfl ?_
    refine r_iconst (v := 1) C dX9_advance_9 (by decide) ?_
    refine r_callVI C M h [.int p1, .int 1] [] mlX9_292 mcX2_number (fun q9 e9 => s_X2_number p1 1  e9) kq_27 rfl (by decide) (by decide) rfl rfl (Nat.le_of_ble_eq_true rfl) dX9_advance_10 (fun v1 T2 h => ?_)
    show Jr _ _ _ _ _ _ 13 _
    refine r_if_eq (tgt := 20) C dX9_advance_13 (by decide) h (fun h => ?_) (fun h => ?_)
    · refine r_iconst (v := 0) C dX9_advance_20 (by decide) ?_
      refine Jr.sub [0, 2] (lv' := [(0, .ref (ad 23)), (2, .int p2)]) rfl ?_
      exact s_X9_advance_21 hn9 C M  p2 0 T2 h
    · refine r_iconst (v := 1) C dX9_advance_16 (by decide) ?_
      refine r_goto (tgt := 21) C dX9_advance_17 (by decide) ?_
      refine Jr.sub [0, 2] (lv' := [(0, .ref (ad 23)), (2, .int p2)]) rfl ?_
      exact s_X9_advance_21 hn9 C M  p2 1 T2 h
theorem dX0_ink_0 : decode cX0_ink 0 = .ok (.aload_n 0, 1) := by decide +kernel
theorem dX0_ink_1 : decode cX0_ink 1 = .ok (.aload_n 1, 1) := by decide +kernel
theorem dX0_ink_2 : decode cX0_ink 2 = .ok (.putfield 21, 3) := by decide +kernel
theorem dX0_ink_5 : decode cX0_ink 5 = .ok (.aload_n 0, 1) := by decide +kernel
theorem dX0_ink_6 : decode cX0_ink 6 = .ok (.aload_n 2, 1) := by decide +kernel
theorem dX0_ink_7 : decode cX0_ink 7 = .ok (.getfield 48, 3) := by decide +kernel
theorem dX0_ink_10 : decode cX0_ink 10 = .ok (.putfield 53, 3) := by decide +kernel
theorem dX0_ink_13 : decode cX0_ink 13 = .ok (.aload_n 0, 1) := by decide +kernel
theorem dX0_ink_14 : decode cX0_ink 14 = .ok (.aload_n 2, 1) := by decide +kernel
theorem dX0_ink_15 : decode cX0_ink 15 = .ok (.getfield 56, 3) := by decide +kernel
theorem dX0_ink_18 : decode cX0_ink 18 = .ok (.putfield 59, 3) := by decide +kernel
theorem dX0_ink_21 : decode cX0_ink 21 = .ok (.aload_n 0, 1) := by decide +kernel
theorem dX0_ink_22 : decode cX0_ink 22 = .ok (.aload_n 2, 1) := by decide +kernel
theorem dX0_ink_23 : decode cX0_ink 23 = .ok (.getfield 62, 3) := by decide +kernel
theorem dX0_ink_26 : decode cX0_ink 26 = .ok (.ifCond .eq 7, 3) := by decide +kernel
theorem dX0_ink_29 : decode cX0_ink 29 = .ok (.iconst (-1), 1) := by decide +kernel
theorem dX0_ink_30 : decode cX0_ink 30 = .ok (.goto 4, 3) := by decide +kernel
theorem dX0_ink_33 : decode cX0_ink 33 = .ok (.iconst 0, 1) := by decide +kernel
theorem dX0_ink_34 : decode cX0_ink 34 = .ok (.putfield 65, 3) := by decide +kernel
theorem dX0_ink_37 : decode cX0_ink 37 = .ok (.aload_n 0, 1) := by decide +kernel
theorem dX0_ink_38 : decode cX0_ink 38 = .ok (.aload_n 2, 1) := by decide +kernel
theorem dX0_ink_39 : decode cX0_ink 39 = .ok (.getfield 68, 3) := by decide +kernel
theorem dX0_ink_42 : decode cX0_ink 42 = .ok (.ifCond .ne 10, 3) := by decide +kernel
theorem dX0_ink_45 : decode cX0_ink 45 = .ok (.aload_n 1, 1) := by decide +kernel
theorem dX0_ink_46 : decode cX0_ink 46 = .ok (.getfield 71, 3) := by decide +kernel
theorem dX0_ink_49 : decode cX0_ink 49 = .ok (.ifCond .eq 7, 3) := by decide +kernel
theorem dX0_ink_52 : decode cX0_ink 52 = .ok (.iconst (-1), 1) := by decide +kernel
theorem dX0_ink_53 : decode cX0_ink 53 = .ok (.goto 4, 3) := by decide +kernel
theorem dX0_ink_56 : decode cX0_ink 56 = .ok (.iconst 0, 1) := by decide +kernel
theorem dX0_ink_57 : decode cX0_ink 57 = .ok (.putfield 74, 3) := by decide +kernel
theorem dX0_ink_60 : decode cX0_ink 60 = .ok (.return_, 1) := by decide +kernel
noncomputable def f_X0_ink_34 (a1 : Nat) (a2 : Nat) (b0 : Int32) (T : Mm) : Option (Unit × Mm) :=
  lb (uI T 13 24 b0) fun T1 =>
  if (gI T1 111 a2) = 0 then (if (gI T1 1002 a1) = 0 then (lb (uI T1 14 24 0) fun T3 =>
  some ((), T3))
  else (lb (uI T1 14 24 (-1)) fun T4 =>
  some ((), T4)))
  else (lb (uI T1 14 24 (-1)) fun T2 =>
  some ((), T2))
set_option maxRecDepth 100000 in
set_option maxHeartbeats 4000000 in
theorem s_X0_ink_34 {x : JX} {ad : Nat → Nat} {U : Mm} {S0 : Hp} {q : Unit × Mm}  (hn9 : x_n x = 3) (C : CB x RX0 cX0_ink) (M : CMr x 1 none S0 ad true U eV q) (a1 : Nat) (a2 : Nat) (b0 : Int32) (T : Mm) (ha1 : kS true a1 = 10) (ha2 : kS true a2 = 1) (h : f_X0_ink_34  a1 a2 b0 T = some q) : Jr x ad true U T [(0, .ref (ad 24)), (1, .ref (ad a1)), (2, .ref (ad a2))] 34 [.int b0, .ref (ad 24)] := by
  unfold f_X0_ink_34 at h
  refine r_puti (f := 13) C flX0_65 (by decide) rfl rfl dX0_ink_34 kq_24 rfl h (fun T1 h => ?_)
  refine r_aload_n C dX0_ink_37 rfl 0 rfl ?_
  refine r_aload_n C dX0_ink_38 rfl 2 rfl ?_
  refine r_geti (f := 111) C flX0_68 dX0_ink_39 ha2 (by decide) (by decide) rfl ?_
  refine r_if_ne (tgt := 52) C dX0_ink_42 (by decide) h (fun h => ?_) (fun h => ?_)
  · refine r_iconst (v := (-1)) C dX0_ink_52 (by decide) ?_
    refine r_goto (tgt := 57) C dX0_ink_53 (by decide) ?_
    refine r_puti (f := 14) C flX0_74 (by decide) rfl rfl dX0_ink_57 kq_24 rfl h (fun T2 h => ?_)
    exact r_vret C M dX0_ink_60 h
  · refine r_aload_n C dX0_ink_45 rfl 1 rfl ?_
    refine r_geti (f := 1002) C flX0_71 dX0_ink_46 ha1 (by decide) (by decide) rfl ?_
    refine r_if_eq (tgt := 56) C dX0_ink_49 (by decide) h (fun h => ?_) (fun h => ?_)
    · refine r_iconst (v := 0) C dX0_ink_56 (by decide) ?_
      refine r_puti (f := 14) C flX0_74 (by decide) rfl rfl dX0_ink_57 kq_24 rfl h (fun T3 h => ?_)
      exact r_vret C M dX0_ink_60 h
    · refine r_iconst (v := (-1)) C dX0_ink_52 (by decide) ?_
      refine r_goto (tgt := 57) C dX0_ink_53 (by decide) ?_
      refine r_puti (f := 14) C flX0_74 (by decide) rfl rfl dX0_ink_57 kq_24 rfl h (fun T4 h => ?_)
      exact r_vret C M dX0_ink_60 h
noncomputable def f_X0_ink (p1 : Nat) (p2 : Nat) (T : Mm) : Option (Unit × Mm) :=
  lb (uR T 10 24 (some p1)) fun T1 =>
  lb (uI T1 11 24 (gI T1 112 p2)) fun T2 =>
  lb (uI T2 12 24 (gI T2 113 p2)) fun T3 =>
  if (gI T3 110 p2) = 0 then (f_X0_ink_34 p1 p2 0 T3)
  else (f_X0_ink_34 p1 p2 (-1) T3)
set_option maxRecDepth 100000 in
set_option maxHeartbeats 4000000 in
theorem s_X0_ink {ad : Nat → Nat} {U T : Mm} {q : Unit × Mm}  (p1 : Nat) (p2 : Nat) (hk1 : kS true p1 = 10) (hk2 : kS true p2 = 1) (h : f_X0_ink p1 p2 T = some q) : Cr 1 yX0_ink cX0_ink 3 none [.ref (ad 24), .ref (ad p1), .ref (ad p2)] ad true U T eV q := by
  refine cr_of (by decide) (Nat.le_of_ble_eq_true rfl) fun x S0 hn9 C M => ?_
  have C : CB x RX0 cX0_ink := C
  refine Jr.eq (lv' := [(0, .ref (ad 24)), (1, .ref (ad p1)), (2, .ref (ad p2))]) (st' := []) rfl rfl ?_
  unfold f_X0_ink at h
  refine r_aload_n C dX0_ink_0 rfl 0 rfl ?_
  refine r_aload_n C dX0_ink_1 rfl 1 rfl ?_
  refine r_putr (f := 10) C flX0_21 (by decide) rfl rfl dX0_ink_2 kq_24 rfl (by decide) h (fun T1 h => ?_)
  refine r_aload_n C dX0_ink_5 rfl 0 rfl ?_
  refine r_aload_n C dX0_ink_6 rfl 2 rfl ?_
  show Jr _ _ _ _ _ _ 7 _
  refine r_geti (f := 112) C flX0_48 dX0_ink_7 hk2 (by decide) (by decide) rfl ?_
  refine r_puti (f := 11) C flX0_53 (by decide) rfl rfl dX0_ink_10 kq_24 rfl h (fun T2 h => ?_)
  refine r_aload_n C dX0_ink_13 rfl 0 rfl ?_
  refine r_aload_n C dX0_ink_14 rfl 2 rfl ?_
  refine r_geti (f := 113) C flX0_56 dX0_ink_15 hk2 (by decide) (by decide) rfl ?_
  refine r_puti (f := 12) C flX0_59 (by decide) rfl rfl dX0_ink_18 kq_24 rfl h (fun T3 h => ?_)
  show Jr _ _ _ _ _ _ 21 _
  refine r_aload_n C dX0_ink_21 rfl 0 rfl ?_
  refine r_aload_n C dX0_ink_22 rfl 2 rfl ?_
  refine r_geti (f := 110) C flX0_62 dX0_ink_23 hk2 (by decide) (by decide) rfl ?_
  refine r_if_eq (tgt := 33) C dX0_ink_26 (by decide) h (fun h => ?_) (fun h => ?_)
  · refine r_iconst (v := 0) C dX0_ink_33 (by decide) ?_
    exact s_X0_ink_34 hn9 C M  p1 p2 0 T3 hk1 hk2 h
  · refine r_iconst (v := (-1)) C dX0_ink_29 (by decide) ?_
    refine r_goto (tgt := 34) C dX0_ink_30 (by decide) ?_
    exact s_X0_ink_34 hn9 C M  p1 p2 (-1) T3 hk1 hk2 h
theorem dX0_mark_0 : decode cX0_mark 0 = .ok (.aload_n 0, 1) := by decide +kernel
theorem dX0_mark_1 : decode cX0_mark 1 = .ok (.iload_n 2, 1) := by decide +kernel
theorem dX0_mark_2 : decode cX0_mark 2 = .ok (.iconst 0, 1) := by decide +kernel
theorem dX0_mark_3 : decode cX0_mark 3 = .ok (.invokestatic 77, 3) := by decide +kernel
theorem dX0_mark_6 : decode cX0_mark 6 = .ok (.putfield 83, 3) := by decide +kernel
theorem dX0_mark_9 : decode cX0_mark 9 = .ok (.aload_n 0, 1) := by decide +kernel
theorem dX0_mark_10 : decode cX0_mark 10 = .ok (.iload_n 2, 1) := by decide +kernel
theorem dX0_mark_11 : decode cX0_mark 11 = .ok (.iload 4, 2) := by decide +kernel
theorem dX0_mark_13 : decode cX0_mark 13 = .ok (.iadd, 1) := by decide +kernel
theorem dX0_mark_14 : decode cX0_mark 14 = .ok (.aload_n 1, 1) := by decide +kernel
theorem dX0_mark_15 : decode cX0_mark 15 = .ok (.invokevirtual 86, 3) := by decide +kernel
theorem dX0_mark_18 : decode cX0_mark 18 = .ok (.invokestatic 92, 3) := by decide +kernel
theorem dX0_mark_21 : decode cX0_mark 21 = .ok (.putfield 95, 3) := by decide +kernel
theorem dX0_mark_24 : decode cX0_mark 24 = .ok (.aload_n 0, 1) := by decide +kernel
theorem dX0_mark_25 : decode cX0_mark 25 = .ok (.iload_n 3, 1) := by decide +kernel
theorem dX0_mark_26 : decode cX0_mark 26 = .ok (.iconst 0, 1) := by decide +kernel
theorem dX0_mark_27 : decode cX0_mark 27 = .ok (.invokestatic 77, 3) := by decide +kernel
theorem dX0_mark_30 : decode cX0_mark 30 = .ok (.putfield 98, 3) := by decide +kernel
theorem dX0_mark_33 : decode cX0_mark 33 = .ok (.aload_n 0, 1) := by decide +kernel
theorem dX0_mark_34 : decode cX0_mark 34 = .ok (.iload_n 3, 1) := by decide +kernel
theorem dX0_mark_35 : decode cX0_mark 35 = .ok (.iload 5, 2) := by decide +kernel
theorem dX0_mark_37 : decode cX0_mark 37 = .ok (.iadd, 1) := by decide +kernel
theorem dX0_mark_38 : decode cX0_mark 38 = .ok (.aload_n 1, 1) := by decide +kernel
theorem dX0_mark_39 : decode cX0_mark 39 = .ok (.invokevirtual 101, 3) := by decide +kernel
theorem dX0_mark_42 : decode cX0_mark 42 = .ok (.invokestatic 92, 3) := by decide +kernel
theorem dX0_mark_45 : decode cX0_mark 45 = .ok (.putfield 104, 3) := by decide +kernel
theorem dX0_mark_48 : decode cX0_mark 48 = .ok (.aload_n 0, 1) := by decide +kernel
theorem dX0_mark_49 : decode cX0_mark 49 = .ok (.getfield 95, 3) := by decide +kernel
theorem dX0_mark_52 : decode cX0_mark 52 = .ok (.aload_n 0, 1) := by decide +kernel
theorem dX0_mark_53 : decode cX0_mark 53 = .ok (.getfield 83, 3) := by decide +kernel
theorem dX0_mark_56 : decode cX0_mark 56 = .ok (.isub, 1) := by decide +kernel
theorem dX0_mark_57 : decode cX0_mark 57 = .ok (.iconst 0, 1) := by decide +kernel
theorem dX0_mark_58 : decode cX0_mark 58 = .ok (.invokestatic 77, 3) := by decide +kernel
theorem dX0_mark_61 : decode cX0_mark 61 = .ok (.aload_n 0, 1) := by decide +kernel
theorem dX0_mark_62 : decode cX0_mark 62 = .ok (.getfield 104, 3) := by decide +kernel
theorem dX0_mark_65 : decode cX0_mark 65 = .ok (.aload_n 0, 1) := by decide +kernel
theorem dX0_mark_66 : decode cX0_mark 66 = .ok (.getfield 98, 3) := by decide +kernel
theorem dX0_mark_69 : decode cX0_mark 69 = .ok (.isub, 1) := by decide +kernel
theorem dX0_mark_70 : decode cX0_mark 70 = .ok (.iconst 0, 1) := by decide +kernel
theorem dX0_mark_71 : decode cX0_mark 71 = .ok (.invokestatic 77, 3) := by decide +kernel
theorem dX0_mark_74 : decode cX0_mark 74 = .ok (.imul, 1) := by decide +kernel
theorem dX0_mark_75 : decode cX0_mark 75 = .ok (.istore 6, 2) := by decide +kernel
theorem dX0_mark_77 : decode cX0_mark 77 = .ok (.aload_n 0, 1) := by decide +kernel
theorem dX0_mark_78 : decode cX0_mark 78 = .ok (.getfield 29, 3) := by decide +kernel
theorem dX0_mark_81 : decode cX0_mark 81 = .ok (.iload 6, 2) := by decide +kernel
theorem dX0_mark_83 : decode cX0_mark 83 = .ok (.iadd, 1) := by decide +kernel
theorem dX0_mark_84 : decode cX0_mark 84 = .ok (.ldc 107, 2) := by decide +kernel
theorem dX0_mark_86 : decode cX0_mark 86 = .ok (.if_icmp .le 10, 3) := by decide +kernel
theorem dX0_mark_89 : decode cX0_mark 89 = .ok (.aload_n 0, 1) := by decide +kernel
theorem dX0_mark_90 : decode cX0_mark 90 = .ok (.iconst 1, 1) := by decide +kernel
theorem dX0_mark_91 : decode cX0_mark 91 = .ok (.putfield 32, 3) := by decide +kernel
theorem dX0_mark_94 : decode cX0_mark 94 = .ok (.iconst 0, 1) := by decide +kernel
theorem dX0_mark_95 : decode cX0_mark 95 = .ok (.ireturn, 1) := by decide +kernel
theorem dX0_mark_96 : decode cX0_mark 96 = .ok (.aload_n 0, 1) := by decide +kernel
theorem dX0_mark_97 : decode cX0_mark 97 = .ok (.dup, 1) := by decide +kernel
theorem dX0_mark_98 : decode cX0_mark 98 = .ok (.getfield 29, 3) := by decide +kernel
theorem dX0_mark_101 : decode cX0_mark 101 = .ok (.iload 6, 2) := by decide +kernel
theorem dX0_mark_103 : decode cX0_mark 103 = .ok (.iadd, 1) := by decide +kernel
theorem dX0_mark_104 : decode cX0_mark 104 = .ok (.putfield 29, 3) := by decide +kernel
theorem dX0_mark_107 : decode cX0_mark 107 = .ok (.aload_n 0, 1) := by decide +kernel
theorem dX0_mark_108 : decode cX0_mark 108 = .ok (.dup, 1) := by decide +kernel
theorem dX0_mark_109 : decode cX0_mark 109 = .ok (.getfield 25, 3) := by decide +kernel
theorem dX0_mark_112 : decode cX0_mark 112 = .ok (.iconst 1, 1) := by decide +kernel
theorem dX0_mark_113 : decode cX0_mark 113 = .ok (.iadd, 1) := by decide +kernel
theorem dX0_mark_114 : decode cX0_mark 114 = .ok (.putfield 25, 3) := by decide +kernel
theorem dX0_mark_117 : decode cX0_mark 117 = .ok (.aload_n 0, 1) := by decide +kernel
theorem dX0_mark_118 : decode cX0_mark 118 = .ok (.dup, 1) := by decide +kernel
theorem dX0_mark_119 : decode cX0_mark 119 = .ok (.getfield 39, 3) := by decide +kernel
theorem dX0_mark_122 : decode cX0_mark 122 = .ok (.iconst 1, 1) := by decide +kernel
theorem dX0_mark_123 : decode cX0_mark 123 = .ok (.iadd, 1) := by decide +kernel
theorem dX0_mark_124 : decode cX0_mark 124 = .ok (.putfield 39, 3) := by decide +kernel
theorem dX0_mark_127 : decode cX0_mark 127 = .ok (.aload_n 0, 1) := by decide +kernel
theorem dX0_mark_128 : decode cX0_mark 128 = .ok (.getfield 39, 3) := by decide +kernel
theorem dX0_mark_131 : decode cX0_mark 131 = .ok (.sipush 2000, 3) := by decide +kernel
theorem dX0_mark_134 : decode cX0_mark 134 = .ok (.if_icmp .le 10, 3) := by decide +kernel
theorem dX0_mark_137 : decode cX0_mark 137 = .ok (.aload_n 0, 1) := by decide +kernel
theorem dX0_mark_138 : decode cX0_mark 138 = .ok (.iconst 1, 1) := by decide +kernel
theorem dX0_mark_139 : decode cX0_mark 139 = .ok (.putfield 32, 3) := by decide +kernel
theorem dX0_mark_142 : decode cX0_mark 142 = .ok (.iconst 0, 1) := by decide +kernel
theorem dX0_mark_143 : decode cX0_mark 143 = .ok (.ireturn, 1) := by decide +kernel
theorem dX0_mark_144 : decode cX0_mark 144 = .ok (.iload 6, 2) := by decide +kernel
theorem dX0_mark_146 : decode cX0_mark 146 = .ok (.ifCond .le 7, 3) := by decide +kernel
theorem dX0_mark_149 : decode cX0_mark 149 = .ok (.iconst 1, 1) := by decide +kernel
theorem dX0_mark_150 : decode cX0_mark 150 = .ok (.goto 4, 3) := by decide +kernel
theorem dX0_mark_153 : decode cX0_mark 153 = .ok (.iconst 0, 1) := by decide +kernel
theorem dX0_mark_154 : decode cX0_mark 154 = .ok (.ireturn, 1) := by decide +kernel
noncomputable def f_X0_mark (p1 : Nat) (p2 : Int32) (p3 : Int32) (p4 : Int32) (p5 : Int32) (T : Mm) : Option (Int32 × Mm) :=
  bd (f_J9_max_7cf53 p2 0 T) fun v1 T2 =>
  lb (uI T2 6 24 v1) fun T3 =>
  bd (f_X7_dotsAcross p1 T3) fun v4 T5 =>
  bd (f_J9_min_7cf53 (p2 + p4) v4 T5) fun v6 T7 =>
  lb (uI T7 7 24 v6) fun T8 =>
  bd (f_J9_max_7cf53 p3 0 T8) fun v9 T10 =>
  lb (uI T10 8 24 v9) fun T11 =>
  bd (f_X7_dotsDown p1 T11) fun v12 T13 =>
  bd (f_J9_min_7cf53 (p3 + p5) v12 T13) fun v14 T15 =>
  lb (uI T15 9 24 v14) fun T16 =>
  bd (f_J9_max_7cf53 ((gI T16 7 24) - (gI T16 6 24)) 0 T16) fun v17 T18 =>
  bd (f_J9_max_7cf53 ((gI T18 9 24) - (gI T18 8 24)) 0 T18) fun v19 T20 =>
  lb ((v17 * v19)) fun v21 =>
  if ((gI T20 4 24) + v21) ≤ 5000000 then (lb (uI T20 4 24 ((gI T20 4 24) + v21)) fun T22 =>
  lb (uI T22 3 24 ((gI T22 3 24) + 1)) fun T23 =>
  lb (uI T23 2 24 ((gI T23 2 24) + 1)) fun T24 =>
  if (gI T24 2 24) ≤ 2000 then (if v21 ≤ 0 then (some (0, T24))
  else (some (1, T24)))
  else (lb (uI T24 5 24 1) fun T25 =>
  some (0, T25)))
  else (lb (uI T20 5 24 1) fun T26 =>
  some (0, T26))
set_option maxRecDepth 100000 in
set_option maxHeartbeats 4000000 in
theorem s_X0_mark {ad : Nat → Nat} {U T : Mm} {q : Int32 × Mm}  (p1 : Nat) (p2 : Int32) (p3 : Int32) (p4 : Int32) (p5 : Int32) (hk1 : kS true p1 = 7) (h : f_X0_mark p1 p2 p3 p4 p5 T = some q) : Cr 2 yX0_mark cX0_mark 7 (some .boolean) [.ref (ad 24), .ref (ad p1), .int p2, .int p3, .int p4, .int p5] ad true U T eI q := by
  refine cr_of (by decide) (Nat.le_of_ble_eq_true rfl) fun x S0 hn9 C M => ?_
  have C : CB x RX0 cX0_mark := C
  refine Jr.eq (lv' := [(0, .ref (ad 24)), (1, .ref (ad p1)), (2, .int p2), (3, .int p3), (4, .int p4), (5, .int p5)]) (st' := []) rfl rfl ?_
  unfold f_X0_mark at h
  refine r_aload_n C dX0_mark_0 rfl 0 rfl ?_
  refine r_iload_n C dX0_mark_1 rfl 2 rfl ?_
  refine r_iconst (v := 0) C dX0_mark_2 (by decide) ?_
  refine r_callSI C M h [.int p2, .int 0] [.ref (ad 24)] mlX0_77 mcJ9_max_7cf53 (fun q9 e9 => s_J9_max_7cf53 p2 0  e9) (by decide) (by decide) rfl rfl (Nat.le_of_ble_eq_true rfl) dX0_mark_3 (fun v1 T2 h => ?_)
  refine r_puti (f := 6) C flX0_83 (by decide) rfl rfl dX0_mark_6 kq_24 rfl h (fun T3 h => ?_)
  show Jr _ _ _ _ _ _ 9 _
  refine r_aload_n C dX0_mark_9 rfl 0 rfl ?_
  refine r_iload_n C dX0_mark_10 rfl 2 rfl ?_
  refine r_iload C dX0_mark_11 4 rfl ?_
  refine r_iadd C dX0_mark_13 rfl ?_
  refine r_aload_n C dX0_mark_14 rfl 1 rfl ?_
  refine r_callVI C M h [] [.int (p2 + p4), .ref (ad 24)] mlX0_86 mcX7_dotsAcross (fun q9 e9 => s_X7_dotsAcross p1 hk1 e9) hk1 rfl (by decide) (by decide) rfl rfl (Nat.le_of_ble_eq_true rfl) dX0_mark_15 (fun v4 T5 h => ?_)
  show Jr _ _ _ _ _ _ 18 _
  refine r_callSI C M h [.int (p2 + p4), .int v4] [.ref (ad 24)] mlX0_92 mcJ9_min_7cf53 (fun q9 e9 => s_J9_min_7cf53 (p2 + p4) v4  e9) (by decide) (by decide) rfl rfl (Nat.le_of_ble_eq_true rfl) dX0_mark_18 (fun v6 T7 h => ?_)
  refine r_puti (f := 7) C flX0_95 (by decide) rfl rfl dX0_mark_21 kq_24 rfl h (fun T8 h => ?_)
  refine r_aload_n C dX0_mark_24 rfl 0 rfl ?_
  refine r_iload_n C dX0_mark_25 rfl 3 rfl ?_
  refine r_iconst (v := 0) C dX0_mark_26 (by decide) ?_
  refine r_callSI C M h [.int p3, .int 0] [.ref (ad 24)] mlX0_77 mcJ9_max_7cf53 (fun q9 e9 => s_J9_max_7cf53 p3 0  e9) (by decide) (by decide) rfl rfl (Nat.le_of_ble_eq_true rfl) dX0_mark_27 (fun v9 T10 h => ?_)
  show Jr _ _ _ _ _ _ 30 _
  refine r_puti (f := 8) C flX0_98 (by decide) rfl rfl dX0_mark_30 kq_24 rfl h (fun T11 h => ?_)
  refine r_aload_n C dX0_mark_33 rfl 0 rfl ?_
  refine r_iload_n C dX0_mark_34 rfl 3 rfl ?_
  refine r_iload C dX0_mark_35 5 rfl ?_
  refine r_iadd C dX0_mark_37 rfl ?_
  refine r_aload_n C dX0_mark_38 rfl 1 rfl ?_
  show Jr _ _ _ _ _ _ 39 _
  refine r_callVI C M h [] [.int (p3 + p5), .ref (ad 24)] mlX0_101 mcX7_dotsDown (fun q9 e9 => s_X7_dotsDown p1 hk1 e9) hk1 rfl (by decide) (by decide) rfl rfl (Nat.le_of_ble_eq_true rfl) dX0_mark_39 (fun v12 T13 h => ?_)
  refine r_callSI C M h [.int (p3 + p5), .int v12] [.ref (ad 24)] mlX0_92 mcJ9_min_7cf53 (fun q9 e9 => s_J9_min_7cf53 (p3 + p5) v12  e9) (by decide) (by decide) rfl rfl (Nat.le_of_ble_eq_true rfl) dX0_mark_42 (fun v14 T15 h => ?_)
  refine r_puti (f := 9) C flX0_104 (by decide) rfl rfl dX0_mark_45 kq_24 rfl h (fun T16 h => ?_)
  refine r_aload_n C dX0_mark_48 rfl 0 rfl ?_
  refine r_geti (f := 7) C flX0_95 dX0_mark_49 kq_24 (by decide) (by decide) rfl ?_
  refine r_aload_n C dX0_mark_52 rfl 0 rfl ?_
  show Jr _ _ _ _ _ _ 53 _
  refine r_geti (f := 6) C flX0_83 dX0_mark_53 kq_24 (by decide) (by decide) rfl ?_
  refine r_isub C dX0_mark_56 rfl ?_
  refine r_iconst (v := 0) C dX0_mark_57 (by decide) ?_
  refine r_callSI C M h [.int ((gI T16 7 24) - (gI T16 6 24)), .int 0] [] mlX0_77 mcJ9_max_7cf53 (fun q9 e9 => s_J9_max_7cf53 ((gI T16 7 24) - (gI T16 6 24)) 0  e9) (by decide) (by decide) rfl rfl (Nat.le_of_ble_eq_true rfl) dX0_mark_58 (fun v17 T18 h => ?_)
  refine r_aload_n C dX0_mark_61 rfl 0 rfl ?_
  refine r_geti (f := 9) C flX0_104 dX0_mark_62 kq_24 (by decide) (by decide) rfl ?_
  show Jr _ _ _ _ _ _ 65 _
  refine r_aload_n C dX0_mark_65 rfl 0 rfl ?_
  refine r_geti (f := 8) C flX0_98 dX0_mark_66 kq_24 (by decide) (by decide) rfl ?_
  refine r_isub C dX0_mark_69 rfl ?_
  refine r_iconst (v := 0) C dX0_mark_70 (by decide) ?_
  refine r_callSI C M h [.int ((gI T18 9 24) - (gI T18 8 24)), .int 0] [.int v17] mlX0_77 mcJ9_max_7cf53 (fun q9 e9 => s_J9_max_7cf53 ((gI T18 9 24) - (gI T18 8 24)) 0  e9) (by decide) (by decide) rfl rfl (Nat.le_of_ble_eq_true rfl) dX0_mark_71 (fun v19 T20 h => ?_)
  refine r_imul C dX0_mark_74 rfl ?_
  show Jr _ _ _ _ _ _ 75 _
  refine r_lbI h (fun v21 h => ?_)
  refine r_istore (lv' := [(6, .int v21), (0, .ref (ad 24)), (1, .ref (ad p1)), (2, .int p2), (3, .int p3), (4, .int p4), (5, .int p5)]) C dX0_mark_75 (by rw [hn9]; decide) rfl ?_
  refine r_aload_n C dX0_mark_77 rfl 1 rfl ?_
  refine r_geti (f := 4) C flX0_29 dX0_mark_78 kq_24 (by decide) (by decide) rfl ?_
  refine r_iload C dX0_mark_81 0 rfl ?_
  refine r_iadd C dX0_mark_83 rfl ?_
  refine r_ldc (v := 5000000) C dX0_mark_84 kcX0_107 ?_
  show Jr _ _ _ _ _ _ 86 _
  refine r_ic_le (tgt := 96) C dX0_mark_86 (by decide) h (fun h => ?_) (fun h => ?_)
  · refine r_aload_n C dX0_mark_96 rfl 1 rfl ?_
    refine r_dup C dX0_mark_97 rfl ?_
    refine r_geti (f := 4) C flX0_29 dX0_mark_98 kq_24 (by decide) (by decide) rfl ?_
    refine r_iload C dX0_mark_101 0 rfl ?_
    refine r_iadd C dX0_mark_103 rfl ?_
    show Jr _ _ _ _ _ _ 104 _
    refine r_puti (f := 4) C flX0_29 (by decide) rfl rfl dX0_mark_104 kq_24 rfl h (fun T22 h => ?_)
    refine r_aload_n C dX0_mark_107 rfl 1 rfl ?_
    refine r_dup C dX0_mark_108 rfl ?_
    refine r_geti (f := 3) C flX0_25 dX0_mark_109 kq_24 (by decide) (by decide) rfl ?_
    refine r_iconst (v := 1) C dX0_mark_112 (by decide) ?_
    refine r_iadd C dX0_mark_113 rfl ?_
    show Jr _ _ _ _ _ _ 114 _
    refine r_puti (f := 3) C flX0_25 (by decide) rfl rfl dX0_mark_114 kq_24 rfl h (fun T23 h => ?_)
    refine r_aload_n C dX0_mark_117 rfl 1 rfl ?_
    refine r_dup C dX0_mark_118 rfl ?_
    refine r_geti (f := 2) C flX0_39 dX0_mark_119 kq_24 (by decide) (by decide) rfl ?_
    refine r_iconst (v := 1) C dX0_mark_122 (by decide) ?_
    refine r_iadd C dX0_mark_123 rfl ?_
    show Jr _ _ _ _ _ _ 124 _
    refine r_puti (f := 2) C flX0_39 (by decide) rfl rfl dX0_mark_124 kq_24 rfl h (fun T24 h => ?_)
    refine r_aload_n C dX0_mark_127 rfl 1 rfl ?_
    refine r_geti (f := 2) C flX0_39 dX0_mark_128 kq_24 (by decide) (by decide) rfl ?_
    refine r_sipush (v := 2000) C dX0_mark_131 (by decide) ?_
    refine r_ic_le (tgt := 144) C dX0_mark_134 (by decide) h (fun h => ?_) (fun h => ?_)
    · refine r_iload C dX0_mark_144 0 rfl ?_
      refine r_if_le (tgt := 153) C dX0_mark_146 (by decide) h (fun h => ?_) (fun h => ?_)
      · refine r_iconst (v := 0) C dX0_mark_153 (by decide) ?_
        exact r_zret C M dX0_mark_154 (by decide) h
      · refine r_iconst (v := 1) C dX0_mark_149 (by decide) ?_
        refine r_goto (tgt := 154) C dX0_mark_150 (by decide) ?_
        exact r_zret C M dX0_mark_154 (by decide) h
    · refine r_aload_n C dX0_mark_137 rfl 1 rfl ?_
      refine r_iconst (v := 1) C dX0_mark_138 (by decide) ?_
      refine r_putz (f := 5) C flX0_32 (by decide) rfl rfl (by decide) dX0_mark_139 kq_24 rfl h (fun T25 h => ?_)
      refine r_iconst (v := 0) C dX0_mark_142 (by decide) ?_
      exact r_zret C M dX0_mark_143 (by decide) h
  · refine r_aload_n C dX0_mark_89 rfl 1 rfl ?_
    refine r_iconst (v := 1) C dX0_mark_90 (by decide) ?_
    refine r_putz (f := 5) C flX0_32 (by decide) rfl rfl (by decide) dX0_mark_91 kq_24 rfl h (fun T26 h => ?_)
    refine r_iconst (v := 0) C dX0_mark_94 (by decide) ?_
    exact r_zret C M dX0_mark_95 (by decide) h
theorem dX2_rowOf_0 : decode cX2_rowOf 0 = .ok (.iload_n 1, 1) := by decide +kernel
theorem dX2_rowOf_1 : decode cX2_rowOf 1 = .ok (.bipush 32, 2) := by decide +kernel
theorem dX2_rowOf_3 : decode cX2_rowOf 3 = .ok (.imul, 1) := by decide +kernel
theorem dX2_rowOf_4 : decode cX2_rowOf 4 = .ok (.iload_n 2, 1) := by decide +kernel
theorem dX2_rowOf_5 : decode cX2_rowOf 5 = .ok (.iadd, 1) := by decide +kernel
theorem dX2_rowOf_6 : decode cX2_rowOf 6 = .ok (.istore_n 3, 1) := by decide +kernel
theorem dX2_rowOf_7 : decode cX2_rowOf 7 = .ok (.iload_n 3, 1) := by decide +kernel
theorem dX2_rowOf_8 : decode cX2_rowOf 8 = .ok (.ifCond .lt 21, 3) := by decide +kernel
theorem dX2_rowOf_11 : decode cX2_rowOf 11 = .ok (.iload_n 3, 1) := by decide +kernel
theorem dX2_rowOf_12 : decode cX2_rowOf 12 = .ok (.aload_n 0, 1) := by decide +kernel
theorem dX2_rowOf_13 : decode cX2_rowOf 13 = .ok (.getfield 32, 3) := by decide +kernel
theorem dX2_rowOf_16 : decode cX2_rowOf 16 = .ok (.arraylength, 1) := by decide +kernel
theorem dX2_rowOf_17 : decode cX2_rowOf 17 = .ok (.if_icmp .ge 12, 3) := by decide +kernel
theorem dX2_rowOf_20 : decode cX2_rowOf 20 = .ok (.aload_n 0, 1) := by decide +kernel
theorem dX2_rowOf_21 : decode cX2_rowOf 21 = .ok (.getfield 32, 3) := by decide +kernel
theorem dX2_rowOf_24 : decode cX2_rowOf 24 = .ok (.iload_n 3, 1) := by decide +kernel
theorem dX2_rowOf_25 : decode cX2_rowOf 25 = .ok (.iaload, 1) := by decide +kernel
theorem dX2_rowOf_26 : decode cX2_rowOf 26 = .ok (.goto 4, 3) := by decide +kernel
theorem dX2_rowOf_29 : decode cX2_rowOf 29 = .ok (.iconst 0, 1) := by decide +kernel
theorem dX2_rowOf_30 : decode cX2_rowOf 30 = .ok (.ireturn, 1) := by decide +kernel
noncomputable def f_X2_rowOf (p1 : Int32) (p2 : Int32) (T : Mm) : Option (Int32 × Mm) :=
  lb (((p1 * 32) + p2)) fun v1 =>
  if v1 < 0 then (some (0, T))
  else (if 15808 ≤ v1 then (some (0, T))
  else (ix v1 15808 fun j2 =>
  some ((gA T 34 j2), T)))
set_option maxRecDepth 100000 in
set_option maxHeartbeats 4000000 in
theorem s_X2_rowOf {ad : Nat → Nat} {U T : Mm} {q : Int32 × Mm}  (p1 : Int32) (p2 : Int32) (h : f_X2_rowOf p1 p2 T = some q) : Cr 1 yX2_rowOf cX2_rowOf 4 (some .int) [.ref (ad 27), .int p1, .int p2] ad true U T eI q := by
  refine cr_of (by decide) (Nat.le_of_ble_eq_true rfl) fun x S0 hn9 C M => ?_
  have C : CB x RX2 cX2_rowOf := C
  refine Jr.eq (lv' := [(0, .ref (ad 27)), (1, .int p1), (2, .int p2)]) (st' := []) rfl rfl ?_
  unfold f_X2_rowOf at h
  refine r_iload_n C dX2_rowOf_0 rfl 1 rfl ?_
  refine r_bipush (v := 32) C dX2_rowOf_1 (by decide) ?_
  refine r_imul C dX2_rowOf_3 rfl ?_
  refine r_iload_n C dX2_rowOf_4 rfl 2 rfl ?_
  refine r_iadd C dX2_rowOf_5 rfl ?_
  show Jr _ _ _ _ _ _ 6 _
  refine r_lbI h (fun v1 h => ?_)
  refine r_istore_n (lv' := [(3, .int v1), (0, .ref (ad 27)), (1, .int p1), (2, .int p2)]) C dX2_rowOf_6 rfl (by rw [hn9]; decide) rfl ?_
  refine r_iload_n C dX2_rowOf_7 rfl 0 rfl ?_
  refine r_if_lt (tgt := 29) C dX2_rowOf_8 (by decide) h (fun h => ?_) (fun h => ?_)
  · refine r_iconst (v := 0) C dX2_rowOf_29 (by decide) ?_
    exact r_iret C M dX2_rowOf_30 h
  · refine r_iload_n C dX2_rowOf_11 rfl 0 rfl ?_
    refine r_aload_n C dX2_rowOf_12 rfl 1 rfl ?_
    refine r_getp (f := 205) (j := 34) C flX2_32 dX2_rowOf_13 kq_27 (by decide) rfl (fun W => pt_205 kq_27 W) ?_
    refine r_alen (n := 0) (v := 15808) C dX2_rowOf_16 kq_34 (by decide) (by decide) (congrArg Int32.ofNat lq_34) ?_
    refine r_ic_ge (tgt := 29) C dX2_rowOf_17 (by decide) h (fun h => ?_) (fun h => ?_)
    · refine r_iconst (v := 0) C dX2_rowOf_29 (by decide) ?_
      exact r_iret C M dX2_rowOf_30 h
    · refine r_aload_n C dX2_rowOf_20 rfl 1 rfl ?_
      refine r_getp (f := 205) (j := 34) C flX2_32 dX2_rowOf_21 kq_27 (by decide) rfl (fun W => pt_205 kq_27 W) ?_
      refine r_iload_n C dX2_rowOf_24 rfl 0 rfl ?_
      refine r_iald (n := 15808) C dX2_rowOf_25 kq_34 lq_34 h (fun j2 hj3 h => ?_)
      refine r_goto (tgt := 30) C dX2_rowOf_26 (by decide) ?_
      show Jr _ _ _ _ _ _ 30 _
      exact r_iret C M dX2_rowOf_30 h
theorem dX0_layWord_0 : decode cX0_layWord 0 = .ok (.iload_n 1, 1) := by decide +kernel
theorem dX0_layWord_1 : decode cX0_layWord 1 = .ok (.bipush 32, 2) := by decide +kernel
theorem dX0_layWord_3 : decode cX0_layWord 3 = .ok (.invokestatic 108, 3) := by decide +kernel
theorem dX0_layWord_6 : decode cX0_layWord 6 = .ok (.istore_n 3, 1) := by decide +kernel
theorem dX0_layWord_7 : decode cX0_layWord 7 = .ok (.iload_n 1, 1) := by decide +kernel
theorem dX0_layWord_8 : decode cX0_layWord 8 = .ok (.bipush 32, 2) := by decide +kernel
theorem dX0_layWord_10 : decode cX0_layWord 10 = .ok (.invokestatic 111, 3) := by decide +kernel
theorem dX0_layWord_13 : decode cX0_layWord 13 = .ok (.istore 4, 2) := by decide +kernel
theorem dX0_layWord_15 : decode cX0_layWord 15 = .ok (.iload_n 3, 1) := by decide +kernel
theorem dX0_layWord_16 : decode cX0_layWord 16 = .ok (.ifCond .lt 22, 3) := by decide +kernel
theorem dX0_layWord_19 : decode cX0_layWord 19 = .ok (.iload_n 3, 1) := by decide +kernel
theorem dX0_layWord_20 : decode cX0_layWord 20 = .ok (.aload_n 0, 1) := by decide +kernel
theorem dX0_layWord_21 : decode cX0_layWord 21 = .ok (.getfield 15, 3) := by decide +kernel
theorem dX0_layWord_24 : decode cX0_layWord 24 = .ok (.arraylength, 1) := by decide +kernel
theorem dX0_layWord_25 : decode cX0_layWord 25 = .ok (.if_icmp .ge 13, 3) := by decide +kernel
theorem dX0_layWord_28 : decode cX0_layWord 28 = .ok (.aload_n 0, 1) := by decide +kernel
theorem dX0_layWord_29 : decode cX0_layWord 29 = .ok (.getfield 15, 3) := by decide +kernel
theorem dX0_layWord_32 : decode cX0_layWord 32 = .ok (.iload_n 3, 1) := by decide +kernel
theorem dX0_layWord_33 : decode cX0_layWord 33 = .ok (.iload_n 2, 1) := by decide +kernel
theorem dX0_layWord_34 : decode cX0_layWord 34 = .ok (.iload 4, 2) := by decide +kernel
theorem dX0_layWord_36 : decode cX0_layWord 36 = .ok (.iushr, 1) := by decide +kernel
theorem dX0_layWord_37 : decode cX0_layWord 37 = .ok (.iastore, 1) := by decide +kernel
theorem dX0_layWord_38 : decode cX0_layWord 38 = .ok (.iload_n 3, 1) := by decide +kernel
theorem dX0_layWord_39 : decode cX0_layWord 39 = .ok (.iconst 1, 1) := by decide +kernel
theorem dX0_layWord_40 : decode cX0_layWord 40 = .ok (.iadd, 1) := by decide +kernel
theorem dX0_layWord_41 : decode cX0_layWord 41 = .ok (.ifCond .lt 38, 3) := by decide +kernel
theorem dX0_layWord_44 : decode cX0_layWord 44 = .ok (.iload_n 3, 1) := by decide +kernel
theorem dX0_layWord_45 : decode cX0_layWord 45 = .ok (.iconst 1, 1) := by decide +kernel
theorem dX0_layWord_46 : decode cX0_layWord 46 = .ok (.iadd, 1) := by decide +kernel
theorem dX0_layWord_47 : decode cX0_layWord 47 = .ok (.aload_n 0, 1) := by decide +kernel
theorem dX0_layWord_48 : decode cX0_layWord 48 = .ok (.getfield 15, 3) := by decide +kernel
theorem dX0_layWord_51 : decode cX0_layWord 51 = .ok (.arraylength, 1) := by decide +kernel
theorem dX0_layWord_52 : decode cX0_layWord 52 = .ok (.if_icmp .ge 27, 3) := by decide +kernel
theorem dX0_layWord_55 : decode cX0_layWord 55 = .ok (.aload_n 0, 1) := by decide +kernel
theorem dX0_layWord_56 : decode cX0_layWord 56 = .ok (.getfield 15, 3) := by decide +kernel
theorem dX0_layWord_59 : decode cX0_layWord 59 = .ok (.iload_n 3, 1) := by decide +kernel
theorem dX0_layWord_60 : decode cX0_layWord 60 = .ok (.iconst 1, 1) := by decide +kernel
theorem dX0_layWord_61 : decode cX0_layWord 61 = .ok (.iadd, 1) := by decide +kernel
theorem dX0_layWord_62 : decode cX0_layWord 62 = .ok (.iload 4, 2) := by decide +kernel
theorem dX0_layWord_64 : decode cX0_layWord 64 = .ok (.ifCond .ne 7, 3) := by decide +kernel
theorem dX0_layWord_67 : decode cX0_layWord 67 = .ok (.iconst 0, 1) := by decide +kernel
theorem dX0_layWord_68 : decode cX0_layWord 68 = .ok (.goto 10, 3) := by decide +kernel
theorem dX0_layWord_71 : decode cX0_layWord 71 = .ok (.iload_n 2, 1) := by decide +kernel
theorem dX0_layWord_72 : decode cX0_layWord 72 = .ok (.bipush 32, 2) := by decide +kernel
theorem dX0_layWord_74 : decode cX0_layWord 74 = .ok (.iload 4, 2) := by decide +kernel
theorem dX0_layWord_76 : decode cX0_layWord 76 = .ok (.isub, 1) := by decide +kernel
theorem dX0_layWord_77 : decode cX0_layWord 77 = .ok (.ishl, 1) := by decide +kernel
theorem dX0_layWord_78 : decode cX0_layWord 78 = .ok (.iastore, 1) := by decide +kernel
theorem dX0_layWord_79 : decode cX0_layWord 79 = .ok (.return_, 1) := by decide +kernel
noncomputable def f_X0_layWord_38 (a2 : Int32) (a3 : Int32) (a4 : Int32) (T : Mm) : Option (Unit × Mm) :=
  if (a3 + 1) < 0 then (some ((), T))
  else (if 25 ≤ (a3 + 1) then (some ((), T))
  else (if a4 = 0 then (ix (a3 + 1) 25 fun j4 => lb (uA T 26 j4 (0)) fun T6 =>
  some ((), T6))
  else (ix (a3 + 1) 25 fun j1 => lb (uA T 26 j1 ((a2 <<< (((32 : Int32) - a4) &&& 31)))) fun T3 =>
  some ((), T3))))
set_option maxRecDepth 100000 in
set_option maxHeartbeats 4000000 in
theorem s_X0_layWord_38 {x : JX} {ad : Nat → Nat} {U : Mm} {S0 : Hp} {q : Unit × Mm}  (hn9 : x_n x = 5) (C : CB x RX0 cX0_layWord) (M : CMr x 2 none S0 ad true U eV q) (a2 : Int32) (a3 : Int32) (a4 : Int32) (T : Mm) (h : f_X0_layWord_38  a2 a3 a4 T = some q) : Jr x ad true U T [(0, .ref (ad 24)), (2, .int a2), (3, .int a3), (4, .int a4)] 38 [] := by
  unfold f_X0_layWord_38 at h
  refine r_iload_n C dX0_layWord_38 rfl 2 rfl ?_
  refine r_iconst (v := 1) C dX0_layWord_39 (by decide) ?_
  refine r_iadd C dX0_layWord_40 rfl ?_
  refine r_if_lt (tgt := 79) C dX0_layWord_41 (by decide) h (fun h => ?_) (fun h => ?_)
  · exact r_vret C M dX0_layWord_79 h
  · refine r_iload_n C dX0_layWord_44 rfl 2 rfl ?_
    refine r_iconst (v := 1) C dX0_layWord_45 (by decide) ?_
    refine r_iadd C dX0_layWord_46 rfl ?_
    refine r_aload_n C dX0_layWord_47 rfl 0 rfl ?_
    refine r_getp (f := 1) (j := 26) C flX0_15 dX0_layWord_48 kq_24 (by decide) rfl (fun W => pt_1 kq_24 W) ?_
    show Jr _ _ _ _ _ _ 51 _
    refine r_alen (n := 0) (v := 25) C dX0_layWord_51 kq_26 (by decide) (by decide) (congrArg Int32.ofNat lq_26) ?_
    refine r_ic_ge (tgt := 79) C dX0_layWord_52 (by decide) h (fun h => ?_) (fun h => ?_)
    · exact r_vret C M dX0_layWord_79 h
    · refine r_aload_n C dX0_layWord_55 rfl 0 rfl ?_
      refine r_getp (f := 1) (j := 26) C flX0_15 dX0_layWord_56 kq_24 (by decide) rfl (fun W => pt_1 kq_24 W) ?_
      refine r_iload_n C dX0_layWord_59 rfl 2 rfl ?_
      refine r_iconst (v := 1) C dX0_layWord_60 (by decide) ?_
      refine r_iadd C dX0_layWord_61 rfl ?_
      show Jr _ _ _ _ _ _ 62 _
      refine r_iload C dX0_layWord_62 3 rfl ?_
      refine r_if_ne (tgt := 71) C dX0_layWord_64 (by decide) h (fun h => ?_) (fun h => ?_)
      · refine r_iload_n C dX0_layWord_71 rfl 1 rfl ?_
        refine r_bipush (v := 32) C dX0_layWord_72 (by decide) ?_
        refine r_iload C dX0_layWord_74 3 rfl ?_
        refine r_isub C dX0_layWord_76 rfl ?_
        refine r_ishl C dX0_layWord_77 rfl ?_
        show Jr _ _ _ _ _ _ 78 _
        refine r_iast (n := 25) C dX0_layWord_78 kq_26 lq_26 h (fun j1 T3 hj2 h => ?_)
        exact r_vret C M dX0_layWord_79 h
      · refine r_iconst (v := 0) C dX0_layWord_67 (by decide) ?_
        refine r_goto (tgt := 78) C dX0_layWord_68 (by decide) ?_
        refine r_iast (n := 25) C dX0_layWord_78 kq_26 lq_26 h (fun j4 T6 hj5 h => ?_)
        exact r_vret C M dX0_layWord_79 h
noncomputable def f_X0_layWord (p1 : Int32) (p2 : Int32) (T : Mm) : Option (Unit × Mm) :=
  bd (f_J9_floorDiv_7cf53 p1 32 T) fun v1 T2 =>
  bd (f_J9_floorMod_7cf53 p1 32 T2) fun v3 T4 =>
  if v1 < 0 then (f_X0_layWord_38 p2 v1 v3 T4)
  else (if 25 ≤ v1 then (f_X0_layWord_38 p2 v1 v3 T4)
  else (ix v1 25 fun j5 => lb (uA T4 26 j5 ((((p2).toUInt32 >>> ((v3 : Int32).toUInt32 &&& Int32.toUInt32 31)).toInt32))) fun T7 =>
  f_X0_layWord_38 p2 v1 v3 T7))
set_option maxRecDepth 100000 in
set_option maxHeartbeats 4000000 in
theorem s_X0_layWord {ad : Nat → Nat} {U T : Mm} {q : Unit × Mm}  (p1 : Int32) (p2 : Int32) (h : f_X0_layWord p1 p2 T = some q) : Cr 2 yX0_layWord cX0_layWord 5 none [.ref (ad 24), .int p1, .int p2] ad true U T eV q := by
  refine cr_of (by decide) (Nat.le_of_ble_eq_true rfl) fun x S0 hn9 C M => ?_
  have C : CB x RX0 cX0_layWord := C
  refine Jr.eq (lv' := [(0, .ref (ad 24)), (1, .int p1), (2, .int p2)]) (st' := []) rfl rfl ?_
  unfold f_X0_layWord at h
  refine r_iload_n C dX0_layWord_0 rfl 1 rfl ?_
  refine r_bipush (v := 32) C dX0_layWord_1 (by decide) ?_
  refine r_callSI C M h [.int p1, .int 32] [] mlX0_108 mcJ9_floorDiv_7cf53 (fun q9 e9 => s_J9_floorDiv_7cf53 p1 32  e9) (by decide) (by decide) rfl rfl (Nat.le_of_ble_eq_true rfl) dX0_layWord_3 (fun v1 T2 h => ?_)
  refine r_istore_n (lv' := [(3, .int v1), (0, .ref (ad 24)), (1, .int p1), (2, .int p2)]) C dX0_layWord_6 rfl (by rw [hn9]; decide) rfl ?_
  refine r_iload_n C dX0_layWord_7 rfl 2 rfl ?_
  show Jr _ _ _ _ _ _ 8 _
  refine r_bipush (v := 32) C dX0_layWord_8 (by decide) ?_
  refine r_callSI C M h [.int p1, .int 32] [] mlX0_111 mcJ9_floorMod_7cf53 (fun q9 e9 => s_J9_floorMod_7cf53 p1 32  e9) (by decide) (by decide) rfl rfl (Nat.le_of_ble_eq_true rfl) dX0_layWord_10 (fun v3 T4 h => ?_)
  refine r_istore (lv' := [(4, .int v3), (3, .int v1), (0, .ref (ad 24)), (1, .int p1), (2, .int p2)]) C dX0_layWord_13 (by rw [hn9]; decide) rfl ?_
  refine r_iload_n C dX0_layWord_15 rfl 1 rfl ?_
  refine r_if_lt (tgt := 38) C dX0_layWord_16 (by decide) h (fun h => ?_) (fun h => ?_)
  · refine Jr.sub [2, 4, 1, 0] (lv' := [(0, .ref (ad 24)), (2, .int p2), (3, .int v1), (4, .int v3)]) rfl ?_
    exact s_X0_layWord_38 hn9 C M  p2 v1 v3 T4 h
  · refine r_iload_n C dX0_layWord_19 rfl 1 rfl ?_
    refine r_aload_n C dX0_layWord_20 rfl 2 rfl ?_
    refine r_getp (f := 1) (j := 26) C flX0_15 dX0_layWord_21 kq_24 (by decide) rfl (fun W => pt_1 kq_24 W) ?_
    refine r_alen (n := 0) (v := 25) C dX0_layWord_24 kq_26 (by decide) (by decide) (congrArg Int32.ofNat lq_26) ?_
    refine r_ic_ge (tgt := 38) C dX0_layWord_25 (by decide) h (fun h => ?_) (fun h => ?_)
    · refine Jr.sub [2, 4, 1, 0] (lv' := [(0, .ref (ad 24)), (2, .int p2), (3, .int v1), (4, .int v3)]) rfl ?_
      exact s_X0_layWord_38 hn9 C M  p2 v1 v3 T4 h
    · refine r_aload_n C dX0_layWord_28 rfl 2 rfl ?_
      refine r_getp (f := 1) (j := 26) C flX0_15 dX0_layWord_29 kq_24 (by decide) rfl (fun W => pt_1 kq_24 W) ?_
      refine r_iload_n C dX0_layWord_32 rfl 1 rfl ?_
      refine r_iload_n C dX0_layWord_33 rfl 4 rfl ?_
      refine r_iload C dX0_layWord_34 0 rfl ?_
      show Jr _ _ _ _ _ _ 36 _
      refine r_iushr C dX0_layWord_36 rfl ?_
      refine r_iast (n := 25) C dX0_layWord_37 kq_26 lq_26 h (fun j5 T7 hj6 h => ?_)
      refine Jr.sub [2, 4, 1, 0] (lv' := [(0, .ref (ad 24)), (2, .int p2), (3, .int v1), (4, .int v3)]) rfl ?_
      exact s_X0_layWord_38 hn9 C M  p2 v1 v3 T7 h
theorem dX10_rowAt_0 : decode cX10_rowAt 0 = .ok (.iload_n 1, 1) := by decide +kernel
theorem dX10_rowAt_1 : decode cX10_rowAt 1 = .ok (.aload_n 0, 1) := by decide +kernel
theorem dX10_rowAt_2 : decode cX10_rowAt 2 = .ok (.getfield 13, 3) := by decide +kernel
theorem dX10_rowAt_5 : decode cX10_rowAt 5 = .ok (.iconst 1, 1) := by decide +kernel
theorem dX10_rowAt_6 : decode cX10_rowAt 6 = .ok (.invokestatic 36, 3) := by decide +kernel
theorem dX10_rowAt_9 : decode cX10_rowAt 9 = .ok (.invokestatic 54, 3) := by decide +kernel
theorem dX10_rowAt_12 : decode cX10_rowAt 12 = .ok (.istore_n 2, 1) := by decide +kernel
theorem dX10_rowAt_13 : decode cX10_rowAt 13 = .ok (.iload_n 2, 1) := by decide +kernel
theorem dX10_rowAt_14 : decode cX10_rowAt 14 = .ok (.aload_n 0, 1) := by decide +kernel
theorem dX10_rowAt_15 : decode cX10_rowAt 15 = .ok (.getfield 16, 3) := by decide +kernel
theorem dX10_rowAt_18 : decode cX10_rowAt 18 = .ok (.arraylength, 1) := by decide +kernel
theorem dX10_rowAt_19 : decode cX10_rowAt 19 = .ok (.if_icmp .ge 12, 3) := by decide +kernel
theorem dX10_rowAt_22 : decode cX10_rowAt 22 = .ok (.aload_n 0, 1) := by decide +kernel
theorem dX10_rowAt_23 : decode cX10_rowAt 23 = .ok (.getfield 16, 3) := by decide +kernel
theorem dX10_rowAt_26 : decode cX10_rowAt 26 = .ok (.iload_n 2, 1) := by decide +kernel
theorem dX10_rowAt_27 : decode cX10_rowAt 27 = .ok (.laload, 1) := by decide +kernel
theorem dX10_rowAt_28 : decode cX10_rowAt 28 = .ok (.goto 4, 3) := by decide +kernel
theorem dX10_rowAt_31 : decode cX10_rowAt 31 = .ok (.lconst 0, 1) := by decide +kernel
theorem dX10_rowAt_32 : decode cX10_rowAt 32 = .ok (.lreturn, 1) := by decide +kernel
noncomputable def f_X10_rowAt (p0 : Nat) (p1 : Int32) (T : Mm) : Option (Int64 × Mm) :=
  bd (f_J9_max_7cf53 (gI T 1001 p0) 1 T) fun v1 T2 =>
  bd (f_J9_floorMod_7cf53 p1 v1 T2) fun v3 T4 =>
  if 16 ≤ v3 then (some (0, T4))
  else (ix v3 16 fun j5 =>
  some ((gB T4 (p0 + 1) j5), T4))
set_option maxRecDepth 100000 in
set_option maxHeartbeats 4000000 in
theorem s_X10_rowAt {ad : Nat → Nat} {U T : Mm} {q : Int64 × Mm}  (p0 : Nat) (p1 : Int32) (hk0 : kS true p0 = 10) (h : f_X10_rowAt p0 p1 T = some q) : Cr 2 yX10_rowAt cX10_rowAt 3 (some .long) [.ref (ad p0), .int p1] ad true U T eJ q := by
  refine cr_of (by decide) (Nat.le_of_ble_eq_true rfl) fun x S0 hn9 C M => ?_
  have C : CB x RX10 cX10_rowAt := C
  refine Jr.eq (lv' := [(0, .ref (ad p0)), (1, .int p1)]) (st' := []) rfl rfl ?_
  unfold f_X10_rowAt at h
  refine r_iload_n C dX10_rowAt_0 rfl 1 rfl ?_
  refine r_aload_n C dX10_rowAt_1 rfl 0 rfl ?_
  refine r_geti (f := 1001) C flX10_13 dX10_rowAt_2 hk0 (by decide) (by decide) rfl ?_
  refine r_iconst (v := 1) C dX10_rowAt_5 (by decide) ?_
  refine r_callSI C M h [.int (gI T 1001 p0), .int 1] [.int p1] mlX10_36 mcJ9_max_7cf53 (fun q9 e9 => s_J9_max_7cf53 (gI T 1001 p0) 1  e9) (by decide) (by decide) rfl rfl (Nat.le_of_ble_eq_true rfl) dX10_rowAt_6 (fun v1 T2 h => ?_)
  show Jr _ _ _ _ _ _ 9 _
  refine r_callSI C M h [.int p1, .int v1] [] mlX10_54 mcJ9_floorMod_7cf53 (fun q9 e9 => s_J9_floorMod_7cf53 p1 v1  e9) (by decide) (by decide) rfl rfl (Nat.le_of_ble_eq_true rfl) dX10_rowAt_9 (fun v3 T4 h => ?_)
  refine r_istore_n (lv' := [(2, .int v3), (0, .ref (ad p0)), (1, .int p1)]) C dX10_rowAt_12 rfl (by rw [hn9]; decide) rfl ?_
  refine r_iload_n C dX10_rowAt_13 rfl 0 rfl ?_
  refine r_aload_n C dX10_rowAt_14 rfl 1 rfl ?_
  refine r_getp (f := 1003) (j := (p0 + 1)) C flX10_16 dX10_rowAt_15 hk0 (by decide) rfl (fun W => pt_1003 hk0 W) ?_
  refine r_alen (n := 0) (v := 16) C dX10_rowAt_18 (pk_1003 hk0) (by decide) (by decide) (congrArg Int32.ofNat (pl_1003 hk0)) ?_
  show Jr _ _ _ _ _ _ 19 _
  refine r_ic_ge (tgt := 31) C dX10_rowAt_19 (by decide) h (fun h => ?_) (fun h => ?_)
  · refine r_lconst (v := 0) C dX10_rowAt_31 (by decide) ?_
    exact r_lret C M dX10_rowAt_32 h
  · refine r_aload_n C dX10_rowAt_22 rfl 1 rfl ?_
    refine r_getp (f := 1003) (j := (p0 + 1)) C flX10_16 dX10_rowAt_23 hk0 (by decide) rfl (fun W => pt_1003 hk0 W) ?_
    refine r_iload_n C dX10_rowAt_26 rfl 0 rfl ?_
    refine r_lald (n := 16) C dX10_rowAt_27 (pk_1003 hk0) (pl_1003 hk0) h (fun j5 hj6 h => ?_)
    refine r_goto (tgt := 32) C dX10_rowAt_28 (by decide) ?_
    show Jr _ _ _ _ _ _ 32 _
    exact r_lret C M dX10_rowAt_32 h
noncomputable def f_X11_maskOf (p0 : Int32) (p1 : Int32) (p2 : Int32) (T : Mm) : Option (Int32 × Mm) :=
  bd (f_J9_max_7cf53 (p1 - (p0 <<< ((5 : Int32) &&& 31))) 0 T) fun v1 T2 =>
  bd (f_J9_min_7cf53 (p2 - (p0 <<< ((5 : Int32) &&& 31))) 32 T2) fun v3 T4 =>
  if v1 < v3 then (some ((((((-1 : Int32)).toUInt32 >>> ((v1 : Int32).toUInt32 &&& Int32.toUInt32 31)).toInt32) &&& ((-1 : Int32) <<< (((32 : Int32) - v3) &&& 31))), T4))
  else (some (0, T4))
set_option maxRecDepth 100000 in
set_option maxHeartbeats 4000000 in
theorem s_X11_maskOf {ad : Nat → Nat} {U T : Mm} {q : Int32 × Mm}  (p0 : Int32) (p1 : Int32) (p2 : Int32) (h : f_X11_maskOf p0 p1 p2 T = some q) : Cr 2 yX11_maskOf cX11_maskOf 5 (some .int) [.int p0, .int p1, .int p2] ad true U T eI q := by
  refine cr_of (by decide) (Nat.le_of_ble_eq_true rfl) fun x S0 hn9 C M => ?_
  have C : CB x RX11 cX11_maskOf := C
  refine Jr.eq (lv' := [(0, .int p0), (1, .int p1), (2, .int p2)]) (st' := []) rfl rfl ?_
  unfold f_X11_maskOf at h
  refine r_iload_n C dX11_maskOf_0 rfl 1 rfl ?_
  refine r_iload_n C dX11_maskOf_1 rfl 0 rfl ?_
  refine r_iconst (v := 5) C dX11_maskOf_2 (by decide) ?_
  refine r_ishl C dX11_maskOf_3 rfl ?_
  refine r_isub C dX11_maskOf_4 rfl ?_
  show Jr _ _ _ _ _ _ 5 _
  refine r_iconst (v := 0) C dX11_maskOf_5 (by decide) ?_
  refine r_callSI C M h [.int (p1 - (p0 <<< ((5 : Int32) &&& 31))), .int 0] [] mlX11_165 mcJ9_max_7cf53 (fun q9 e9 => s_J9_max_7cf53 (p1 - (p0 <<< ((5 : Int32) &&& 31))) 0  e9) (by decide) (by decide) rfl rfl (Nat.le_of_ble_eq_true rfl) dX11_maskOf_6 (fun v1 T2 h => ?_)
  refine r_istore_n (lv' := [(3, .int v1), (0, .int p0), (1, .int p1), (2, .int p2)]) C dX11_maskOf_9 rfl (by rw [hn9]; decide) rfl ?_
  refine r_iload_n C dX11_maskOf_10 rfl 3 rfl ?_
  refine r_iload_n C dX11_maskOf_11 rfl 1 rfl ?_
  refine r_iconst (v := 5) C dX11_maskOf_12 (by decide) ?_
  show Jr _ _ _ _ _ _ 13 _
  refine r_ishl C dX11_maskOf_13 rfl ?_
  refine r_isub C dX11_maskOf_14 rfl ?_
  refine r_bipush (v := 32) C dX11_maskOf_15 (by decide) ?_
  refine r_callSI C M h [.int (p2 - (p0 <<< ((5 : Int32) &&& 31))), .int 32] [] mlX11_156 mcJ9_min_7cf53 (fun q9 e9 => s_J9_min_7cf53 (p2 - (p0 <<< ((5 : Int32) &&& 31))) 32  e9) (by decide) (by decide) rfl rfl (Nat.le_of_ble_eq_true rfl) dX11_maskOf_17 (fun v3 T4 h => ?_)
  refine r_istore (lv' := [(4, .int v3), (3, .int v1), (0, .int p0), (1, .int p1), (2, .int p2)]) C dX11_maskOf_20 (by rw [hn9]; decide) rfl ?_
  refine r_iload_n C dX11_maskOf_22 rfl 1 rfl ?_
  show Jr _ _ _ _ _ _ 23 _
  refine r_iload C dX11_maskOf_23 0 rfl ?_
  refine r_ic_lt (tgt := 32) C dX11_maskOf_25 (by decide) h (fun h => ?_) (fun h => ?_)
  · refine r_iconst (v := (-1)) C dX11_maskOf_32 (by decide) ?_
    refine r_iload_n C dX11_maskOf_33 rfl 1 rfl ?_
    refine r_iushr C dX11_maskOf_34 rfl ?_
    refine r_iconst (v := (-1)) C dX11_maskOf_35 (by decide) ?_
    refine r_bipush (v := 32) C dX11_maskOf_36 (by decide) ?_
    show Jr _ _ _ _ _ _ 38 _
    refine r_iload C dX11_maskOf_38 0 rfl ?_
    refine r_isub C dX11_maskOf_40 rfl ?_
    refine r_ishl C dX11_maskOf_41 rfl ?_
    refine r_iand C dX11_maskOf_42 rfl ?_
    exact r_iret C M dX11_maskOf_43 h
  · refine r_iconst (v := 0) C dX11_maskOf_28 (by decide) ?_
    refine r_goto (tgt := 43) C dX11_maskOf_29 (by decide) ?_
    exact r_iret C M dX11_maskOf_43 h
theorem dX10_dotsFrom_0 : decode cX10_dotsFrom 0 = .ok (.lload_n 1, 1) := by decide +kernel
theorem dX10_dotsFrom_1 : decode cX10_dotsFrom 1 = .ok (.iload_n 3, 1) := by decide +kernel
theorem dX10_dotsFrom_2 : decode cX10_dotsFrom 2 = .ok (.aload_n 0, 1) := by decide +kernel
theorem dX10_dotsFrom_3 : decode cX10_dotsFrom 3 = .ok (.getfield 7, 3) := by decide +kernel
theorem dX10_dotsFrom_6 : decode cX10_dotsFrom 6 = .ok (.iconst 1, 1) := by decide +kernel
theorem dX10_dotsFrom_7 : decode cX10_dotsFrom 7 = .ok (.invokestatic 36, 3) := by decide +kernel
theorem dX10_dotsFrom_10 : decode cX10_dotsFrom 10 = .ok (.invokestatic 54, 3) := by decide +kernel
theorem dX10_dotsFrom_13 : decode cX10_dotsFrom 13 = .ok (.lshl, 1) := by decide +kernel
theorem dX10_dotsFrom_14 : decode cX10_dotsFrom 14 = .ok (.bipush 32, 2) := by decide +kernel
theorem dX10_dotsFrom_16 : decode cX10_dotsFrom 16 = .ok (.lushr, 1) := by decide +kernel
theorem dX10_dotsFrom_17 : decode cX10_dotsFrom 17 = .ok (.l2i, 1) := by decide +kernel
theorem dX10_dotsFrom_18 : decode cX10_dotsFrom 18 = .ok (.ireturn, 1) := by decide +kernel
noncomputable def f_X10_dotsFrom (p0 : Nat) (p1 : Int64) (p3 : Int32) (T : Mm) : Option (Int32 × Mm) :=
  bd (f_J9_max_7cf53 (gI T 1000 p0) 1 T) fun v1 T2 =>
  bd (f_J9_floorMod_7cf53 p3 v1 T2) fun v3 T4 =>
  some (((((p1 <<< ((v3 : Int32).toInt64 &&& 63))).toUInt64 >>> ((32 : Int32).toInt64.toUInt64 &&& Int64.toUInt64 63)).toInt64).toInt32, T4)
set_option maxRecDepth 100000 in
set_option maxHeartbeats 4000000 in
theorem s_X10_dotsFrom {ad : Nat → Nat} {U T : Mm} {q : Int32 × Mm}  (p0 : Nat) (p1 : Int64) (p3 : Int32) (hk0 : kS true p0 = 10) (h : f_X10_dotsFrom p0 p1 p3 T = some q) : Cr 2 yX10_dotsFrom cX10_dotsFrom 4 (some .int) [.ref (ad p0), .long p1, .int p3] ad true U T eI q := by
  refine cr_of (by decide) (Nat.le_of_ble_eq_true rfl) fun x S0 hn9 C M => ?_
  have C : CB x RX10 cX10_dotsFrom := C
  refine Jr.eq (lv' := [(0, .ref (ad p0)), (1, .long p1), (3, .int p3)]) (st' := []) rfl rfl ?_
  unfold f_X10_dotsFrom at h
  refine r_lload_n C dX10_dotsFrom_0 rfl 1 rfl ?_
  refine r_iload_n C dX10_dotsFrom_1 rfl 2 rfl ?_
  refine r_aload_n C dX10_dotsFrom_2 rfl 0 rfl ?_
  refine r_geti (f := 1000) C flX10_7 dX10_dotsFrom_3 hk0 (by decide) (by decide) rfl ?_
  refine r_iconst (v := 1) C dX10_dotsFrom_6 (by decide) ?_
  show Jr _ _ _ _ _ _ 7 _
  refine r_callSI C M h [.int (gI T 1000 p0), .int 1] [.int p3, .long p1] mlX10_36 mcJ9_max_7cf53 (fun q9 e9 => s_J9_max_7cf53 (gI T 1000 p0) 1  e9) (by decide) (by decide) rfl rfl (Nat.le_of_ble_eq_true rfl) dX10_dotsFrom_7 (fun v1 T2 h => ?_)
  refine r_callSI C M h [.int p3, .int v1] [.long p1] mlX10_54 mcJ9_floorMod_7cf53 (fun q9 e9 => s_J9_floorMod_7cf53 p3 v1  e9) (by decide) (by decide) rfl rfl (Nat.le_of_ble_eq_true rfl) dX10_dotsFrom_10 (fun v3 T4 h => ?_)
  refine r_lshl C dX10_dotsFrom_13 rfl ?_
  refine r_bipush (v := 32) C dX10_dotsFrom_14 (by decide) ?_
  refine r_lushr C dX10_dotsFrom_16 rfl ?_
  refine r_l2i C dX10_dotsFrom_17 rfl ?_
  show Jr _ _ _ _ _ _ 18 _
  exact r_iret C M dX10_dotsFrom_18 h
theorem dX0_paintRow_0 : decode cX0_paintRow 0 = .ok (.aload_n 0, 1) := by decide +kernel
theorem dX0_paintRow_1 : decode cX0_paintRow 1 = .ok (.getfield 21, 3) := by decide +kernel
theorem dX0_paintRow_4 : decode cX0_paintRow 4 = .ok (.iload_n 1, 1) := by decide +kernel
theorem dX0_paintRow_5 : decode cX0_paintRow 5 = .ok (.aload_n 0, 1) := by decide +kernel
theorem dX0_paintRow_6 : decode cX0_paintRow 6 = .ok (.getfield 59, 3) := by decide +kernel
theorem dX0_paintRow_9 : decode cX0_paintRow 9 = .ok (.isub, 1) := by decide +kernel
theorem dX0_paintRow_10 : decode cX0_paintRow 10 = .ok (.invokevirtual 136, 3) := by decide +kernel
theorem dX0_paintRow_13 : decode cX0_paintRow 13 = .ok (.lstore_n 2, 1) := by decide +kernel
theorem dX0_paintRow_14 : decode cX0_paintRow 14 = .ok (.aload_n 0, 1) := by decide +kernel
theorem dX0_paintRow_15 : decode cX0_paintRow 15 = .ok (.getfield 83, 3) := by decide +kernel
theorem dX0_paintRow_18 : decode cX0_paintRow 18 = .ok (.iconst 5, 1) := by decide +kernel
theorem dX0_paintRow_19 : decode cX0_paintRow 19 = .ok (.ishr, 1) := by decide +kernel
theorem dX0_paintRow_20 : decode cX0_paintRow 20 = .ok (.istore 4, 2) := by decide +kernel
theorem dX0_paintRow_22 : decode cX0_paintRow 22 = .ok (.aload_n 0, 1) := by decide +kernel
theorem dX0_paintRow_23 : decode cX0_paintRow 23 = .ok (.getfield 95, 3) := by decide +kernel
theorem dX0_paintRow_26 : decode cX0_paintRow 26 = .ok (.iconst 1, 1) := by decide +kernel
theorem dX0_paintRow_27 : decode cX0_paintRow 27 = .ok (.isub, 1) := by decide +kernel
theorem dX0_paintRow_28 : decode cX0_paintRow 28 = .ok (.iconst 5, 1) := by decide +kernel
theorem dX0_paintRow_29 : decode cX0_paintRow 29 = .ok (.ishr, 1) := by decide +kernel
theorem dX0_paintRow_30 : decode cX0_paintRow 30 = .ok (.istore 5, 2) := by decide +kernel
theorem dX0_paintRow_32 : decode cX0_paintRow 32 = .ok (.iload_n 1, 1) := by decide +kernel
theorem dX0_paintRow_33 : decode cX0_paintRow 33 = .ok (.bipush 25, 2) := by decide +kernel
theorem dX0_paintRow_35 : decode cX0_paintRow 35 = .ok (.imul, 1) := by decide +kernel
theorem dX0_paintRow_36 : decode cX0_paintRow 36 = .ok (.istore 6, 2) := by decide +kernel
theorem dX0_paintRow_38 : decode cX0_paintRow 38 = .ok (.iload 4, 2) := by decide +kernel
theorem dX0_paintRow_40 : decode cX0_paintRow 40 = .ok (.ifCond .lt 31, 3) := by decide +kernel
theorem dX0_paintRow_43 : decode cX0_paintRow 43 = .ok (.iload 5, 2) := by decide +kernel
theorem dX0_paintRow_45 : decode cX0_paintRow 45 = .ok (.aload_n 0, 1) := by decide +kernel
theorem dX0_paintRow_46 : decode cX0_paintRow 46 = .ok (.getfield 15, 3) := by decide +kernel
theorem dX0_paintRow_49 : decode cX0_paintRow 49 = .ok (.arraylength, 1) := by decide +kernel
theorem dX0_paintRow_50 : decode cX0_paintRow 50 = .ok (.if_icmp .ge 21, 3) := by decide +kernel
theorem dX0_paintRow_53 : decode cX0_paintRow 53 = .ok (.iload 6, 2) := by decide +kernel
theorem dX0_paintRow_55 : decode cX0_paintRow 55 = .ok (.ifCond .lt 16, 3) := by decide +kernel
theorem dX0_paintRow_58 : decode cX0_paintRow 58 = .ok (.iload 6, 2) := by decide +kernel
theorem dX0_paintRow_60 : decode cX0_paintRow 60 = .ok (.iload 5, 2) := by decide +kernel
theorem dX0_paintRow_62 : decode cX0_paintRow 62 = .ok (.iadd, 1) := by decide +kernel
theorem dX0_paintRow_63 : decode cX0_paintRow 63 = .ok (.aload_n 0, 1) := by decide +kernel
theorem dX0_paintRow_64 : decode cX0_paintRow 64 = .ok (.getfield 11, 3) := by decide +kernel
theorem dX0_paintRow_67 : decode cX0_paintRow 67 = .ok (.arraylength, 1) := by decide +kernel
theorem dX0_paintRow_68 : decode cX0_paintRow 68 = .ok (.if_icmp .lt 4, 3) := by decide +kernel
theorem dX0_paintRow_71 : decode cX0_paintRow 71 = .ok (.return_, 1) := by decide +kernel
theorem dX0_paintRow_72 : decode cX0_paintRow 72 = .ok (.iload 4, 2) := by decide +kernel
theorem dX0_paintRow_74 : decode cX0_paintRow 74 = .ok (.istore 7, 2) := by decide +kernel
theorem dX0_paintRow_76 : decode cX0_paintRow 76 = .ok (.iload 7, 2) := by decide +kernel
theorem dX0_paintRow_78 : decode cX0_paintRow 78 = .ok (.iload 5, 2) := by decide +kernel
theorem dX0_paintRow_80 : decode cX0_paintRow 80 = .ok (.if_icmp .gt 119, 3) := by decide +kernel
theorem dX0_paintRow_83 : decode cX0_paintRow 83 = .ok (.iload 7, 2) := by decide +kernel
theorem dX0_paintRow_85 : decode cX0_paintRow 85 = .ok (.aload_n 0, 1) := by decide +kernel
theorem dX0_paintRow_86 : decode cX0_paintRow 86 = .ok (.getfield 83, 3) := by decide +kernel
theorem dX0_paintRow_89 : decode cX0_paintRow 89 = .ok (.aload_n 0, 1) := by decide +kernel
theorem dX0_paintRow_90 : decode cX0_paintRow 90 = .ok (.getfield 95, 3) := by decide +kernel
theorem dX0_paintRow_93 : decode cX0_paintRow 93 = .ok (.invokestatic 140, 3) := by decide +kernel
theorem dX0_paintRow_96 : decode cX0_paintRow 96 = .ok (.istore 8, 2) := by decide +kernel
theorem dX0_paintRow_98 : decode cX0_paintRow 98 = .ok (.aload_n 0, 1) := by decide +kernel
theorem dX0_paintRow_99 : decode cX0_paintRow 99 = .ok (.getfield 21, 3) := by decide +kernel
theorem dX0_paintRow_102 : decode cX0_paintRow 102 = .ok (.lload_n 2, 1) := by decide +kernel
theorem dX0_paintRow_103 : decode cX0_paintRow 103 = .ok (.bipush 32, 2) := by decide +kernel
theorem dX0_paintRow_105 : decode cX0_paintRow 105 = .ok (.iload 7, 2) := by decide +kernel
theorem dX0_paintRow_107 : decode cX0_paintRow 107 = .ok (.imul, 1) := by decide +kernel
theorem dX0_paintRow_108 : decode cX0_paintRow 108 = .ok (.aload_n 0, 1) := by decide +kernel
theorem dX0_paintRow_109 : decode cX0_paintRow 109 = .ok (.getfield 53, 3) := by decide +kernel
theorem dX0_paintRow_112 : decode cX0_paintRow 112 = .ok (.isub, 1) := by decide +kernel
theorem dX0_paintRow_113 : decode cX0_paintRow 113 = .ok (.invokevirtual 144, 3) := by decide +kernel
theorem dX0_paintRow_116 : decode cX0_paintRow 116 = .ok (.istore 9, 2) := by decide +kernel
theorem dX0_paintRow_118 : decode cX0_paintRow 118 = .ok (.aload_n 0, 1) := by decide +kernel
theorem dX0_paintRow_119 : decode cX0_paintRow 119 = .ok (.getfield 15, 3) := by decide +kernel
theorem dX0_paintRow_122 : decode cX0_paintRow 122 = .ok (.iload 7, 2) := by decide +kernel
theorem dX0_paintRow_124 : decode cX0_paintRow 124 = .ok (.iaload, 1) := by decide +kernel
theorem dX0_paintRow_125 : decode cX0_paintRow 125 = .ok (.istore 10, 2) := by decide +kernel
theorem dX0_paintRow_127 : decode cX0_paintRow 127 = .ok (.iload 10, 2) := by decide +kernel
theorem dX0_paintRow_129 : decode cX0_paintRow 129 = .ok (.iload 9, 2) := by decide +kernel
theorem dX0_paintRow_131 : decode cX0_paintRow 131 = .ok (.iand, 1) := by decide +kernel
theorem dX0_paintRow_132 : decode cX0_paintRow 132 = .ok (.istore 11, 2) := by decide +kernel
theorem dX0_paintRow_134 : decode cX0_paintRow 134 = .ok (.iload 10, 2) := by decide +kernel
theorem dX0_paintRow_136 : decode cX0_paintRow 136 = .ok (.iload 9, 2) := by decide +kernel
theorem dX0_paintRow_138 : decode cX0_paintRow 138 = .ok (.iconst (-1), 1) := by decide +kernel
theorem dX0_paintRow_139 : decode cX0_paintRow 139 = .ok (.ixor, 1) := by decide +kernel
theorem dX0_paintRow_140 : decode cX0_paintRow 140 = .ok (.iand, 1) := by decide +kernel
theorem dX0_paintRow_141 : decode cX0_paintRow 141 = .ok (.aload_n 0, 1) := by decide +kernel
theorem dX0_paintRow_142 : decode cX0_paintRow 142 = .ok (.getfield 74, 3) := by decide +kernel
theorem dX0_paintRow_145 : decode cX0_paintRow 145 = .ok (.iand, 1) := by decide +kernel
theorem dX0_paintRow_146 : decode cX0_paintRow 146 = .ok (.iload 10, 2) := by decide +kernel
theorem dX0_paintRow_148 : decode cX0_paintRow 148 = .ok (.iconst (-1), 1) := by decide +kernel
theorem dX0_paintRow_149 : decode cX0_paintRow 149 = .ok (.ixor, 1) := by decide +kernel
theorem dX0_paintRow_150 : decode cX0_paintRow 150 = .ok (.aload_n 0, 1) := by decide +kernel
theorem dX0_paintRow_151 : decode cX0_paintRow 151 = .ok (.getfield 65, 3) := by decide +kernel
theorem dX0_paintRow_154 : decode cX0_paintRow 154 = .ok (.iand, 1) := by decide +kernel
theorem dX0_paintRow_155 : decode cX0_paintRow 155 = .ok (.ior, 1) := by decide +kernel
theorem dX0_paintRow_156 : decode cX0_paintRow 156 = .ok (.istore 12, 2) := by decide +kernel
theorem dX0_paintRow_158 : decode cX0_paintRow 158 = .ok (.iload 6, 2) := by decide +kernel
theorem dX0_paintRow_160 : decode cX0_paintRow 160 = .ok (.iload 7, 2) := by decide +kernel
theorem dX0_paintRow_162 : decode cX0_paintRow 162 = .ok (.iadd, 1) := by decide +kernel
theorem dX0_paintRow_163 : decode cX0_paintRow 163 = .ok (.istore 13, 2) := by decide +kernel
theorem dX0_paintRow_165 : decode cX0_paintRow 165 = .ok (.aload_n 0, 1) := by decide +kernel
theorem dX0_paintRow_166 : decode cX0_paintRow 166 = .ok (.getfield 11, 3) := by decide +kernel
theorem dX0_paintRow_169 : decode cX0_paintRow 169 = .ok (.iload 13, 2) := by decide +kernel
theorem dX0_paintRow_171 : decode cX0_paintRow 171 = .ok (.aload_n 0, 1) := by decide +kernel
theorem dX0_paintRow_172 : decode cX0_paintRow 172 = .ok (.getfield 11, 3) := by decide +kernel
theorem dX0_paintRow_175 : decode cX0_paintRow 175 = .ok (.iload 13, 2) := by decide +kernel
theorem dX0_paintRow_177 : decode cX0_paintRow 177 = .ok (.iaload, 1) := by decide +kernel
theorem dX0_paintRow_178 : decode cX0_paintRow 178 = .ok (.iload 12, 2) := by decide +kernel
theorem dX0_paintRow_180 : decode cX0_paintRow 180 = .ok (.iload 8, 2) := by decide +kernel
theorem dX0_paintRow_182 : decode cX0_paintRow 182 = .ok (.iand, 1) := by decide +kernel
theorem dX0_paintRow_183 : decode cX0_paintRow 183 = .ok (.iconst (-1), 1) := by decide +kernel
theorem dX0_paintRow_184 : decode cX0_paintRow 184 = .ok (.ixor, 1) := by decide +kernel
theorem dX0_paintRow_185 : decode cX0_paintRow 185 = .ok (.iand, 1) := by decide +kernel
theorem dX0_paintRow_186 : decode cX0_paintRow 186 = .ok (.iload 11, 2) := by decide +kernel
theorem dX0_paintRow_188 : decode cX0_paintRow 188 = .ok (.iload 8, 2) := by decide +kernel
theorem dX0_paintRow_190 : decode cX0_paintRow 190 = .ok (.iand, 1) := by decide +kernel
theorem dX0_paintRow_191 : decode cX0_paintRow 191 = .ok (.ior, 1) := by decide +kernel
theorem dX0_paintRow_192 : decode cX0_paintRow 192 = .ok (.iastore, 1) := by decide +kernel
theorem dX0_paintRow_193 : decode cX0_paintRow 193 = .ok (.iinc 7 1, 3) := by decide +kernel
theorem dX0_paintRow_196 : decode cX0_paintRow 196 = .ok (.goto (-120), 3) := by decide +kernel
theorem dX0_paintRow_199 : decode cX0_paintRow 199 = .ok (.return_, 1) := by decide +kernel
noncomputable def f_X0_paintRow_b76 (k76 : Int64 → Int32 → Int32 → Int32 → Mm → Option (Unit × Mm)) (a2 : Int64) (a5 : Int32) (a6 : Int32) (a7 : Int32) (T : Mm) : Option (Unit × Mm) :=
  if a5 < a7 then (some ((), T))
  else (bd (f_X11_maskOf a7 (gI T 6 24) (gI T 7 24) T) fun v1 T2 =>
  rf true (gR T2 10 24) 10 fun j3 =>
  bd (f_X10_dotsFrom j3 a2 (((32 : Int32) * a7) - (gI T2 11 24)) T2) fun v5 T6 =>
  ix a7 25 fun j7 =>
  lb ((gA T6 26 j7)) fun v9 =>
  lb ((v9 &&& v5)) fun v10 =>
  lb ((((v9 &&& (v5 ^^^ (-1))) &&& (gI T6 14 24)) ||| ((v9 ^^^ (-1)) &&& (gI T6 13 24)))) fun v11 =>
  lb ((a6 + a7)) fun v12 =>
  ix v12 20000 fun j13 =>
  ix v12 20000 fun j15 => lb (uA T6 25 j15 ((((gA T6 25 j13) &&& ((v11 &&& v1) ^^^ (-1))) ||| (v10 &&& v1)))) fun T17 =>
  k76 a2 a5 a6 (a7 + 1) T17)
set_option maxRecDepth 100000 in
set_option maxHeartbeats 4000000 in
theorem s_X0_paintRow_b76 {x : JX} {ad : Nat → Nat} {U : Mm} {S0 : Hp} {q : Unit × Mm}  {k76 : Int64 → Int32 → Int32 → Int32 → Mm → Option (Unit × Mm)} (hn9 : x_n x = 14) (C : CB x RX0 cX0_paintRow) (M : CMr x 3 none S0 ad true U eV q) (hk76 : ∀ (a2 : Int64) (a5 : Int32) (a6 : Int32) (a7 : Int32) (T : Mm), k76 a2 a5 a6 a7 T = some q → Jr x ad true U T [(0, .ref (ad 24)), (2, .long a2), (5, .int a5), (6, .int a6), (7, .int a7)] 76 []) (a2 : Int64) (a5 : Int32) (a6 : Int32) (a7 : Int32) (T : Mm) (h : f_X0_paintRow_b76 k76 a2 a5 a6 a7 T = some q) : Jr x ad true U T [(0, .ref (ad 24)), (2, .long a2), (5, .int a5), (6, .int a6), (7, .int a7)] 76 [] := by
  unfold f_X0_paintRow_b76 at h
  refine r_iload C dX0_paintRow_76 4 rfl ?_
  refine r_iload C dX0_paintRow_78 2 rfl ?_
  refine r_ic_gt (tgt := 199) C dX0_paintRow_80 (by decide) h (fun h => ?_) (fun h => ?_)
  · exact r_vret C M dX0_paintRow_199 h
  · refine r_iload C dX0_paintRow_83 4 rfl ?_
    refine r_aload_n C dX0_paintRow_85 rfl 0 rfl ?_
    refine r_geti (f := 6) C flX0_83 dX0_paintRow_86 kq_24 (by decide) (by decide) rfl ?_
    refine r_aload_n C dX0_paintRow_89 rfl 0 rfl ?_
    refine r_geti (f := 7) C flX0_95 dX0_paintRow_90 kq_24 (by decide) (by decide) rfl ?_
    show Jr _ _ _ _ _ _ 93 _
    refine r_callSI C M h [.int a7, .int (gI T 6 24), .int (gI T 7 24)] [] mlX0_140 mcX11_maskOf (fun q9 e9 => s_X11_maskOf a7 (gI T 6 24) (gI T 7 24)  e9) (by decide) (by decide) rfl rfl (Nat.le_of_ble_eq_true rfl) dX0_paintRow_93 (fun v1 T2 h => ?_)
    refine r_istore (lv' := [(8, .int v1), (0, .ref (ad 24)), (2, .long a2), (5, .int a5), (6, .int a6), (7, .int a7)]) C dX0_paintRow_96 (by rw [hn9]; decide) rfl ?_
    refine r_aload_n C dX0_paintRow_98 rfl 1 rfl ?_
    refine r_getr (f := 10) (c := 10) C flX0_21 dX0_paintRow_99 kq_24 (by decide) rfl h (fun j3 hj4 h => ?_)
    refine r_lload_n C dX0_paintRow_102 rfl 2 rfl ?_
    refine r_bipush (v := 32) C dX0_paintRow_103 (by decide) ?_
    show Jr _ _ _ _ _ _ 105 _
    refine r_iload C dX0_paintRow_105 5 rfl ?_
    refine r_imul C dX0_paintRow_107 rfl ?_
    refine r_aload_n C dX0_paintRow_108 rfl 1 rfl ?_
    refine r_geti (f := 11) C flX0_53 dX0_paintRow_109 kq_24 (by decide) (by decide) rfl ?_
    refine r_isub C dX0_paintRow_112 rfl ?_
    refine r_callVI C M h [.long a2, .int (((32 : Int32) * a7) - (gI T2 11 24))] [] mlX0_144 mcX10_dotsFrom (fun q9 e9 => s_X10_dotsFrom j3 a2 (((32 : Int32) * a7) - (gI T2 11 24)) hj4 e9) hj4 rfl (by decide) (by decide) rfl rfl (Nat.le_of_ble_eq_true rfl) dX0_paintRow_113 (fun v5 T6 h => ?_)
    show Jr _ _ _ _ _ _ 116 _
    refine r_istore (lv' := [(9, .int v5), (8, .int v1), (0, .ref (ad 24)), (2, .long a2), (5, .int a5), (6, .int a6), (7, .int a7)]) C dX0_paintRow_116 (by rw [hn9]; decide) rfl ?_
    refine r_aload_n C dX0_paintRow_118 rfl 2 rfl ?_
    refine r_getp (f := 1) (j := 26) C flX0_15 dX0_paintRow_119 kq_24 (by decide) rfl (fun W => pt_1 kq_24 W) ?_
    refine r_iload C dX0_paintRow_122 6 rfl ?_
    refine r_iald (n := 25) C dX0_paintRow_124 kq_26 lq_26 h (fun j7 hj8 h => ?_)
    refine r_lbI h (fun v9 h => ?_)
    refine r_istore (lv' := [(10, .int v9), (9, .int v5), (8, .int v1), (0, .ref (ad 24)), (2, .long a2), (5, .int a5), (6, .int a6), (7, .int a7)]) C dX0_paintRow_125 (by rw [hn9]; decide) rfl ?_
    show Jr _ _ _ _ _ _ 127 _
    refine r_iload C dX0_paintRow_127 0 rfl ?_
    refine r_iload C dX0_paintRow_129 1 rfl ?_
    refine r_iand C dX0_paintRow_131 rfl ?_
    refine r_lbI h (fun v10 h => ?_)
    refine r_istore (lv' := [(11, .int v10), (10, .int v9), (9, .int v5), (8, .int v1), (0, .ref (ad 24)), (2, .long a2), (5, .int a5), (6, .int a6), (7, .int a7)]) C dX0_paintRow_132 (by rw [hn9]; decide) rfl ?_
    refine r_iload C dX0_paintRow_134 1 rfl ?_
    refine r_iload C dX0_paintRow_136 2 rfl ?_
    show Jr _ _ _ _ _ _ 138 _
    refine r_iconst (v := (-1)) C dX0_paintRow_138 (by decide) ?_
    refine r_ixor C dX0_paintRow_139 rfl ?_
    refine r_iand C dX0_paintRow_140 rfl ?_
    refine r_aload_n C dX0_paintRow_141 rfl 4 rfl ?_
    refine r_geti (f := 14) C flX0_74 dX0_paintRow_142 kq_24 (by decide) (by decide) rfl ?_
    refine r_iand C dX0_paintRow_145 rfl ?_
    show Jr _ _ _ _ _ _ 146 _
    refine r_iload C dX0_paintRow_146 1 rfl ?_
    refine r_iconst (v := (-1)) C dX0_paintRow_148 (by decide) ?_
    refine r_ixor C dX0_paintRow_149 rfl ?_
    refine r_aload_n C dX0_paintRow_150 rfl 4 rfl ?_
    refine r_geti (f := 13) C flX0_65 dX0_paintRow_151 kq_24 (by decide) (by decide) rfl ?_
    refine r_iand C dX0_paintRow_154 rfl ?_
    show Jr _ _ _ _ _ _ 155 _
    refine r_ior C dX0_paintRow_155 rfl ?_
    refine r_lbI h (fun v11 h => ?_)
    refine r_istore (lv' := [(12, .int v11), (11, .int v10), (10, .int v9), (9, .int v5), (8, .int v1), (0, .ref (ad 24)), (2, .long a2), (5, .int a5), (6, .int a6), (7, .int a7)]) C dX0_paintRow_156 (by rw [hn9]; decide) rfl ?_
    refine r_iload C dX0_paintRow_158 8 rfl ?_
    refine r_iload C dX0_paintRow_160 9 rfl ?_
    refine r_iadd C dX0_paintRow_162 rfl ?_
    refine r_lbI h (fun v12 h => ?_)
    refine r_istore (lv' := [(13, .int v12), (12, .int v11), (11, .int v10), (10, .int v9), (9, .int v5), (8, .int v1), (0, .ref (ad 24)), (2, .long a2), (5, .int a5), (6, .int a6), (7, .int a7)]) C dX0_paintRow_163 (by rw [hn9]; decide) rfl ?_
    show Jr _ _ _ _ _ _ 165 _
    refine r_aload_n C dX0_paintRow_165 rfl 6 rfl ?_
    refine r_getp (f := 0) (j := 25) C flX0_11 dX0_paintRow_166 kq_24 (by decide) rfl (fun W => pt_0 kq_24 W) ?_
    refine r_iload C dX0_paintRow_169 0 rfl ?_
    refine r_aload_n C dX0_paintRow_171 rfl 6 rfl ?_
    refine r_getp (f := 0) (j := 25) C flX0_11 dX0_paintRow_172 kq_24 (by decide) rfl (fun W => pt_0 kq_24 W) ?_
    refine r_iload C dX0_paintRow_175 0 rfl ?_
    show Jr _ _ _ _ _ _ 177 _
    refine r_iald (n := 20000) C dX0_paintRow_177 kq_25 lq_25 h (fun j13 hj14 h => ?_)
    refine r_iload C dX0_paintRow_178 1 rfl ?_
    refine r_iload C dX0_paintRow_180 5 rfl ?_
    refine r_iand C dX0_paintRow_182 rfl ?_
    refine r_iconst (v := (-1)) C dX0_paintRow_183 (by decide) ?_
    refine r_ixor C dX0_paintRow_184 rfl ?_
    show Jr _ _ _ _ _ _ 185 _
    refine r_iand C dX0_paintRow_185 rfl ?_
    refine r_iload C dX0_paintRow_186 2 rfl ?_
    refine r_iload C dX0_paintRow_188 5 rfl ?_
    refine r_iand C dX0_paintRow_190 rfl ?_
    refine r_ior C dX0_paintRow_191 rfl ?_
    refine r_iast (n := 20000) C dX0_paintRow_192 kq_25 lq_25 h (fun j15 T17 hj16 h => ?_)
    show Jr _ _ _ _ _ _ 193 _
    refine r_iinc (q := 10) (v := (a7 + 1)) (lv' := [(7, .int (a7 + 1)), (13, .int v12), (12, .int v11), (11, .int v10), (10, .int v9), (9, .int v5), (8, .int v1), (0, .ref (ad 24)), (2, .long a2), (5, .int a5), (6, .int a6)]) C dX0_paintRow_193 rfl (by rw [show Int32.ofInt (1) = 1 by decide]) (by rw [hn9]; decide) rfl ?_
    refine r_goto (tgt := 76) C dX0_paintRow_196 (by decide) ?_
    refine Jr.sub [7, 8, 9, 10, 0] (lv' := [(0, .ref (ad 24)), (2, .long a2), (5, .int a5), (6, .int a6), (7, .int (a7 + 1))]) rfl ?_
    exact hk76 a2 a5 a6 (a7 + 1) T17 h
noncomputable def f_X0_paintRow_l76 (n : Nat) : Int64 → Int32 → Int32 → Int32 → Mm → Option (Unit × Mm) := Nat.rec (fun _ _ _ _ _ => none) (fun _ ih => f_X0_paintRow_b76 ih) n
theorem s_X0_paintRow_l76 {x : JX} {ad : Nat → Nat} {U : Mm} {S0 : Hp} {q : Unit × Mm}  (hn9 : x_n x = 14) (C : CB x RX0 cX0_paintRow) (M : CMr x 3 none S0 ad true U eV q) : ∀ (n : Nat), ∀ (a2 : Int64) (a5 : Int32) (a6 : Int32) (a7 : Int32) (T : Mm), f_X0_paintRow_l76  n a2 a5 a6 a7 T = some q → Jr x ad true U T [(0, .ref (ad 24)), (2, .long a2), (5, .int a5), (6, .int a6), (7, .int a7)] 76 [] := by
  intro n
  induction n with
  | zero => intro a2 a5 a6 a7 T  h; exact absurd h (by intro h; cases h)
  | succ n ih => exact fun a2 a5 a6 a7 T  h => s_X0_paintRow_b76 hn9 C M (ih) a2 a5 a6 a7 T  h
noncomputable def f_X0_paintRow (p1 : Int32) (T : Mm) : Option (Unit × Mm) :=
  rf true (gR T 10 24) 10 fun j1 =>
  bd (f_X10_rowAt j1 (p1 - (gI T 12 24)) T) fun v3 T4 =>
  lb (((gI T4 6 24) >>> ((5 : Int32) &&& 31))) fun v5 =>
  lb ((((gI T4 7 24) - 1) >>> ((5 : Int32) &&& 31))) fun v6 =>
  lb ((p1 * 25)) fun v7 =>
  if v5 < 0 then (some ((), T4))
  else (if 25 ≤ v6 then (some ((), T4))
  else (if v7 < 0 then (some ((), T4))
  else (if (v7 + v6) < 20000 then (f_X0_paintRow_l76 FU v3 v6 v7 v5 T4)
  else (some ((), T4)))))
set_option maxRecDepth 100000 in
set_option maxHeartbeats 4000000 in
theorem s_X0_paintRow {ad : Nat → Nat} {U T : Mm} {q : Unit × Mm}  (p1 : Int32) (h : f_X0_paintRow p1 T = some q) : Cr 3 yX0_paintRow cX0_paintRow 14 none [.ref (ad 24), .int p1] ad true U T eV q := by
  refine cr_of (by decide) (Nat.le_of_ble_eq_true rfl) fun x S0 hn9 C M => ?_
  have C : CB x RX0 cX0_paintRow := C
  refine Jr.eq (lv' := [(0, .ref (ad 24)), (1, .int p1)]) (st' := []) rfl rfl ?_
  unfold f_X0_paintRow at h
  refine r_aload_n C dX0_paintRow_0 rfl 0 rfl ?_
  refine r_getr (f := 10) (c := 10) C flX0_21 dX0_paintRow_1 kq_24 (by decide) rfl h (fun j1 hj2 h => ?_)
  refine r_iload_n C dX0_paintRow_4 rfl 1 rfl ?_
  refine r_aload_n C dX0_paintRow_5 rfl 0 rfl ?_
  refine r_geti (f := 12) C flX0_59 dX0_paintRow_6 kq_24 (by decide) (by decide) rfl ?_
  show Jr _ _ _ _ _ _ 9 _
  refine r_isub C dX0_paintRow_9 rfl ?_
  refine r_callVJ C M h [.int (p1 - (gI T 12 24))] [] mlX0_136 mcX10_rowAt (fun q9 e9 => s_X10_rowAt j1 (p1 - (gI T 12 24)) hj2 e9) hj2 rfl (by decide) (by decide) rfl rfl (Nat.le_of_ble_eq_true rfl) dX0_paintRow_10 (fun v3 T4 h => ?_)
  refine r_lstore_n (lv' := [(2, .long v3), (0, .ref (ad 24)), (1, .int p1)]) C dX0_paintRow_13 rfl (by rw [hn9]; decide) rfl ?_
  refine r_aload_n C dX0_paintRow_14 rfl 1 rfl ?_
  refine r_geti (f := 6) C flX0_83 dX0_paintRow_15 kq_24 (by decide) (by decide) rfl ?_
  refine r_iconst (v := 5) C dX0_paintRow_18 (by decide) ?_
  show Jr _ _ _ _ _ _ 19 _
  refine r_ishr C dX0_paintRow_19 rfl ?_
  refine r_lbI h (fun v5 h => ?_)
  refine r_istore (lv' := [(4, .int v5), (2, .long v3), (0, .ref (ad 24)), (1, .int p1)]) C dX0_paintRow_20 (by rw [hn9]; decide) rfl ?_
  refine r_aload_n C dX0_paintRow_22 rfl 2 rfl ?_
  refine r_geti (f := 7) C flX0_95 dX0_paintRow_23 kq_24 (by decide) (by decide) rfl ?_
  refine r_iconst (v := 1) C dX0_paintRow_26 (by decide) ?_
  refine r_isub C dX0_paintRow_27 rfl ?_
  show Jr _ _ _ _ _ _ 28 _
  refine r_iconst (v := 5) C dX0_paintRow_28 (by decide) ?_
  refine r_ishr C dX0_paintRow_29 rfl ?_
  refine r_lbI h (fun v6 h => ?_)
  refine r_istore (lv' := [(5, .int v6), (4, .int v5), (2, .long v3), (0, .ref (ad 24)), (1, .int p1)]) C dX0_paintRow_30 (by rw [hn9]; decide) rfl ?_
  refine r_iload_n C dX0_paintRow_32 rfl 4 rfl ?_
  refine r_bipush (v := 25) C dX0_paintRow_33 (by decide) ?_
  refine r_imul C dX0_paintRow_35 rfl ?_
  show Jr _ _ _ _ _ _ 36 _
  refine r_lbI h (fun v7 h => ?_)
  refine r_istore (lv' := [(6, .int v7), (5, .int v6), (4, .int v5), (2, .long v3), (0, .ref (ad 24)), (1, .int p1)]) C dX0_paintRow_36 (by rw [hn9]; decide) rfl ?_
  refine r_iload C dX0_paintRow_38 2 rfl ?_
  refine r_if_lt (tgt := 71) C dX0_paintRow_40 (by decide) h (fun h => ?_) (fun h => ?_)
  · exact r_vret C M dX0_paintRow_71 h
  · refine r_iload C dX0_paintRow_43 1 rfl ?_
    refine r_aload_n C dX0_paintRow_45 rfl 4 rfl ?_
    refine r_getp (f := 1) (j := 26) C flX0_15 dX0_paintRow_46 kq_24 (by decide) rfl (fun W => pt_1 kq_24 W) ?_
    refine r_alen (n := 0) (v := 25) C dX0_paintRow_49 kq_26 (by decide) (by decide) (congrArg Int32.ofNat lq_26) ?_
    refine r_ic_ge (tgt := 71) C dX0_paintRow_50 (by decide) h (fun h => ?_) (fun h => ?_)
    · exact r_vret C M dX0_paintRow_71 h
    · refine r_iload C dX0_paintRow_53 0 rfl ?_
      refine r_if_lt (tgt := 71) C dX0_paintRow_55 (by decide) h (fun h => ?_) (fun h => ?_)
      · exact r_vret C M dX0_paintRow_71 h
      · refine r_iload C dX0_paintRow_58 0 rfl ?_
        refine r_iload C dX0_paintRow_60 1 rfl ?_
        refine r_iadd C dX0_paintRow_62 rfl ?_
        refine r_aload_n C dX0_paintRow_63 rfl 4 rfl ?_
        refine r_getp (f := 0) (j := 25) C flX0_11 dX0_paintRow_64 kq_24 (by decide) rfl (fun W => pt_0 kq_24 W) ?_
        show Jr _ _ _ _ _ _ 67 _
        refine r_alen (n := 0) (v := 20000) C dX0_paintRow_67 kq_25 (by decide) (by decide) (congrArg Int32.ofNat lq_25) ?_
        refine r_ic_lt (tgt := 72) C dX0_paintRow_68 (by decide) h (fun h => ?_) (fun h => ?_)
        · refine r_iload C dX0_paintRow_72 2 rfl ?_
          refine r_istore (lv' := [(7, .int v5), (6, .int v7), (5, .int v6), (4, .int v5), (2, .long v3), (0, .ref (ad 24)), (1, .int p1)]) C dX0_paintRow_74 (by rw [hn9]; decide) rfl ?_
          refine Jr.sub [5, 4, 2, 1, 0] (lv' := [(0, .ref (ad 24)), (2, .long v3), (5, .int v6), (6, .int v7), (7, .int v5)]) rfl ?_
          exact s_X0_paintRow_l76 hn9 C M  FU v3 v6 v7 v5 T4 h
        · exact r_vret C M dX0_paintRow_71 h
theorem dX9_markGlyph_0 : decode cX9_markGlyph 0 = .ok (.aload_n 0, 1) := by decide +kernel
theorem dX9_markGlyph_1 : decode cX9_markGlyph 1 = .ok (.getfield 57, 3) := by decide +kernel
theorem dX9_markGlyph_4 : decode cX9_markGlyph 4 = .ok (.getfield 129, 3) := by decide +kernel
theorem dX9_markGlyph_7 : decode cX9_markGlyph 7 = .ok (.getfield 133, 3) := by decide +kernel
theorem dX9_markGlyph_10 : decode cX9_markGlyph 10 = .ok (.bipush 96, 2) := by decide +kernel
theorem dX9_markGlyph_12 : decode cX9_markGlyph 12 = .ok (.idiv, 1) := by decide +kernel
theorem dX9_markGlyph_13 : decode cX9_markGlyph 13 = .ok (.aload_n 0, 1) := by decide +kernel
theorem dX9_markGlyph_14 : decode cX9_markGlyph 14 = .ok (.getfield 21, 3) := by decide +kernel
theorem dX9_markGlyph_17 : decode cX9_markGlyph 17 = .ok (.iload_n 1, 1) := by decide +kernel
theorem dX9_markGlyph_18 : decode cX9_markGlyph 18 = .ok (.iconst 0, 1) := by decide +kernel
theorem dX9_markGlyph_19 : decode cX9_markGlyph 19 = .ok (.invokevirtual 524, 3) := by decide +kernel
theorem dX9_markGlyph_22 : decode cX9_markGlyph 22 = .ok (.iadd, 1) := by decide +kernel
theorem dX9_markGlyph_23 : decode cX9_markGlyph 23 = .ok (.istore_n 2, 1) := by decide +kernel
theorem dX9_markGlyph_24 : decode cX9_markGlyph 24 = .ok (.aload_n 0, 1) := by decide +kernel
theorem dX9_markGlyph_25 : decode cX9_markGlyph 25 = .ok (.getfield 57, 3) := by decide +kernel
theorem dX9_markGlyph_28 : decode cX9_markGlyph 28 = .ok (.getfield 129, 3) := by decide +kernel
theorem dX9_markGlyph_31 : decode cX9_markGlyph 31 = .ok (.getfield 138, 3) := by decide +kernel
theorem dX9_markGlyph_34 : decode cX9_markGlyph 34 = .ok (.bipush 96, 2) := by decide +kernel
theorem dX9_markGlyph_36 : decode cX9_markGlyph 36 = .ok (.idiv, 1) := by decide +kernel
theorem dX9_markGlyph_37 : decode cX9_markGlyph 37 = .ok (.aload_n 0, 1) := by decide +kernel
theorem dX9_markGlyph_38 : decode cX9_markGlyph 38 = .ok (.getfield 21, 3) := by decide +kernel
theorem dX9_markGlyph_41 : decode cX9_markGlyph 41 = .ok (.iload_n 1, 1) := by decide +kernel
theorem dX9_markGlyph_42 : decode cX9_markGlyph 42 = .ok (.iconst 1, 1) := by decide +kernel
theorem dX9_markGlyph_43 : decode cX9_markGlyph 43 = .ok (.invokevirtual 524, 3) := by decide +kernel
theorem dX9_markGlyph_46 : decode cX9_markGlyph 46 = .ok (.isub, 1) := by decide +kernel
theorem dX9_markGlyph_47 : decode cX9_markGlyph 47 = .ok (.istore_n 3, 1) := by decide +kernel
theorem dX9_markGlyph_48 : decode cX9_markGlyph 48 = .ok (.aload_n 0, 1) := by decide +kernel
theorem dX9_markGlyph_49 : decode cX9_markGlyph 49 = .ok (.getfield 21, 3) := by decide +kernel
theorem dX9_markGlyph_52 : decode cX9_markGlyph 52 = .ok (.iload_n 1, 1) := by decide +kernel
theorem dX9_markGlyph_53 : decode cX9_markGlyph 53 = .ok (.iconst 2, 1) := by decide +kernel
theorem dX9_markGlyph_54 : decode cX9_markGlyph 54 = .ok (.invokevirtual 524, 3) := by decide +kernel
theorem dX9_markGlyph_57 : decode cX9_markGlyph 57 = .ok (.istore 4, 2) := by decide +kernel
theorem dX9_markGlyph_59 : decode cX9_markGlyph 59 = .ok (.aload_n 0, 1) := by decide +kernel
theorem dX9_markGlyph_60 : decode cX9_markGlyph 60 = .ok (.getfield 21, 3) := by decide +kernel
theorem dX9_markGlyph_63 : decode cX9_markGlyph 63 = .ok (.iload_n 1, 1) := by decide +kernel
theorem dX9_markGlyph_64 : decode cX9_markGlyph 64 = .ok (.iconst 3, 1) := by decide +kernel
theorem dX9_markGlyph_65 : decode cX9_markGlyph 65 = .ok (.invokevirtual 524, 3) := by decide +kernel
theorem dX9_markGlyph_68 : decode cX9_markGlyph 68 = .ok (.istore 5, 2) := by decide +kernel
theorem dX9_markGlyph_70 : decode cX9_markGlyph 70 = .ok (.aload_n 0, 1) := by decide +kernel
theorem dX9_markGlyph_71 : decode cX9_markGlyph 71 = .ok (.getfield 12, 3) := by decide +kernel
theorem dX9_markGlyph_74 : decode cX9_markGlyph 74 = .ok (.aload_n 0, 1) := by decide +kernel
theorem dX9_markGlyph_75 : decode cX9_markGlyph 75 = .ok (.getfield 57, 3) := by decide +kernel
theorem dX9_markGlyph_78 : decode cX9_markGlyph 78 = .ok (.getfield 539, 3) := by decide +kernel
theorem dX9_markGlyph_81 : decode cX9_markGlyph 81 = .ok (.aload_n 0, 1) := by decide +kernel
theorem dX9_markGlyph_82 : decode cX9_markGlyph 82 = .ok (.getfield 57, 3) := by decide +kernel
theorem dX9_markGlyph_85 : decode cX9_markGlyph 85 = .ok (.invokevirtual 542, 3) := by decide +kernel
theorem dX9_markGlyph_88 : decode cX9_markGlyph 88 = .ok (.aload_n 0, 1) := by decide +kernel
theorem dX9_markGlyph_89 : decode cX9_markGlyph 89 = .ok (.invokevirtual 118, 3) := by decide +kernel
theorem dX9_markGlyph_92 : decode cX9_markGlyph 92 = .ok (.ifCond .ne 82, 3) := by decide +kernel
theorem dX9_markGlyph_95 : decode cX9_markGlyph 95 = .ok (.aload_n 0, 1) := by decide +kernel
theorem dX9_markGlyph_96 : decode cX9_markGlyph 96 = .ok (.getfield 12, 3) := by decide +kernel
theorem dX9_markGlyph_99 : decode cX9_markGlyph 99 = .ok (.aload_n 0, 1) := by decide +kernel
theorem dX9_markGlyph_100 : decode cX9_markGlyph 100 = .ok (.getfield 57, 3) := by decide +kernel
theorem dX9_markGlyph_103 : decode cX9_markGlyph 103 = .ok (.getfield 129, 3) := by decide +kernel
theorem dX9_markGlyph_106 : decode cX9_markGlyph 106 = .ok (.iload_n 2, 1) := by decide +kernel
theorem dX9_markGlyph_107 : decode cX9_markGlyph 107 = .ok (.iload_n 3, 1) := by decide +kernel
theorem dX9_markGlyph_108 : decode cX9_markGlyph 108 = .ok (.iload 4, 2) := by decide +kernel
theorem dX9_markGlyph_110 : decode cX9_markGlyph 110 = .ok (.iload 5, 2) := by decide +kernel
theorem dX9_markGlyph_112 : decode cX9_markGlyph 112 = .ok (.invokevirtual 546, 3) := by decide +kernel
theorem dX9_markGlyph_115 : decode cX9_markGlyph 115 = .ok (.ifCond .eq 59, 3) := by decide +kernel
theorem dX9_markGlyph_118 : decode cX9_markGlyph 118 = .ok (.aload_n 0, 1) := by decide +kernel
theorem dX9_markGlyph_119 : decode cX9_markGlyph 119 = .ok (.getfield 12, 3) := by decide +kernel
theorem dX9_markGlyph_122 : decode cX9_markGlyph 122 = .ok (.getfield 549, 3) := by decide +kernel
theorem dX9_markGlyph_125 : decode cX9_markGlyph 125 = .ok (.istore 6, 2) := by decide +kernel
theorem dX9_markGlyph_127 : decode cX9_markGlyph 127 = .ok (.iload 6, 2) := by decide +kernel
theorem dX9_markGlyph_129 : decode cX9_markGlyph 129 = .ok (.aload_n 0, 1) := by decide +kernel
theorem dX9_markGlyph_130 : decode cX9_markGlyph 130 = .ok (.getfield 12, 3) := by decide +kernel
theorem dX9_markGlyph_133 : decode cX9_markGlyph 133 = .ok (.getfield 552, 3) := by decide +kernel
theorem dX9_markGlyph_136 : decode cX9_markGlyph 136 = .ok (.if_icmp .ge 38, 3) := by decide +kernel
theorem dX9_markGlyph_139 : decode cX9_markGlyph 139 = .ok (.aload_n 0, 1) := by decide +kernel
theorem dX9_markGlyph_140 : decode cX9_markGlyph 140 = .ok (.getfield 12, 3) := by decide +kernel
theorem dX9_markGlyph_143 : decode cX9_markGlyph 143 = .ok (.iload_n 2, 1) := by decide +kernel
theorem dX9_markGlyph_144 : decode cX9_markGlyph 144 = .ok (.aload_n 0, 1) := by decide +kernel
theorem dX9_markGlyph_145 : decode cX9_markGlyph 145 = .ok (.getfield 21, 3) := by decide +kernel
theorem dX9_markGlyph_148 : decode cX9_markGlyph 148 = .ok (.iload_n 1, 1) := by decide +kernel
theorem dX9_markGlyph_149 : decode cX9_markGlyph 149 = .ok (.iload 6, 2) := by decide +kernel
theorem dX9_markGlyph_151 : decode cX9_markGlyph 151 = .ok (.iload_n 3, 1) := by decide +kernel
theorem dX9_markGlyph_152 : decode cX9_markGlyph 152 = .ok (.isub, 1) := by decide +kernel
theorem dX9_markGlyph_153 : decode cX9_markGlyph 153 = .ok (.invokevirtual 555, 3) := by decide +kernel
theorem dX9_markGlyph_156 : decode cX9_markGlyph 156 = .ok (.invokevirtual 558, 3) := by decide +kernel
theorem dX9_markGlyph_159 : decode cX9_markGlyph 159 = .ok (.aload_n 0, 1) := by decide +kernel
theorem dX9_markGlyph_160 : decode cX9_markGlyph 160 = .ok (.getfield 12, 3) := by decide +kernel
theorem dX9_markGlyph_163 : decode cX9_markGlyph 163 = .ok (.iload 6, 2) := by decide +kernel
theorem dX9_markGlyph_165 : decode cX9_markGlyph 165 = .ok (.invokevirtual 561, 3) := by decide +kernel
theorem dX9_markGlyph_168 : decode cX9_markGlyph 168 = .ok (.iinc 6 1, 3) := by decide +kernel
theorem dX9_markGlyph_171 : decode cX9_markGlyph 171 = .ok (.goto (-44), 3) := by decide +kernel
theorem dX9_markGlyph_174 : decode cX9_markGlyph 174 = .ok (.return_, 1) := by decide +kernel
noncomputable def f_X9_markGlyph_b127 (k127 : Int32 → Int32 → Int32 → Int32 → Mm → Option (Unit × Mm)) (a1 : Int32) (a2 : Int32) (a3 : Int32) (a6 : Int32) (T : Mm) : Option (Unit × Mm) :=
  if (gI T 9 24) ≤ a6 then (some ((), T))
  else (bd (f_X2_rowOf a1 (a6 - a3) T) fun v1 T2 =>
  bd (f_X0_layWord a2 v1 T2) fun _ T3 =>
  bd (f_X0_paintRow a6 T3) fun _ T4 =>
  k127 a1 a2 a3 (a6 + 1) T4)
set_option maxRecDepth 100000 in
set_option maxHeartbeats 4000000 in
theorem s_X9_markGlyph_b127 {x : JX} {ad : Nat → Nat} {U : Mm} {S0 : Hp} {q : Unit × Mm}  {k127 : Int32 → Int32 → Int32 → Int32 → Mm → Option (Unit × Mm)} (hn9 : x_n x = 7) (C : CB x RX9 cX9_markGlyph) (M : CMr x 4 none S0 ad true U eV q) (hk127 : ∀ (a1 : Int32) (a2 : Int32) (a3 : Int32) (a6 : Int32) (T : Mm), k127 a1 a2 a3 a6 T = some q → Jr x ad true U T [(0, .ref (ad 23)), (1, .int a1), (2, .int a2), (3, .int a3), (6, .int a6)] 127 []) (a1 : Int32) (a2 : Int32) (a3 : Int32) (a6 : Int32) (T : Mm) (h : f_X9_markGlyph_b127 k127 a1 a2 a3 a6 T = some q) : Jr x ad true U T [(0, .ref (ad 23)), (1, .int a1), (2, .int a2), (3, .int a3), (6, .int a6)] 127 [] := by
  unfold f_X9_markGlyph_b127 at h
  refine r_iload C dX9_markGlyph_127 4 rfl ?_
  refine r_aload_n C dX9_markGlyph_129 rfl 0 rfl ?_
  refine r_getp (f := 901) (j := 24) C flX9_12 dX9_markGlyph_130 kq_23 (by decide) rfl (fun W => pt_901 kq_23 W) ?_
  refine r_geti (f := 9) C flX9_552 dX9_markGlyph_133 kq_24 (by decide) (by decide) rfl ?_
  refine r_ic_ge (tgt := 174) C dX9_markGlyph_136 (by decide) h (fun h => ?_) (fun h => ?_)
  · exact r_vret C M dX9_markGlyph_174 h
  · refine r_aload_n C dX9_markGlyph_139 rfl 0 rfl ?_
    refine r_getp (f := 901) (j := 24) C flX9_12 dX9_markGlyph_140 kq_23 (by decide) rfl (fun W => pt_901 kq_23 W) ?_
    refine r_iload_n C dX9_markGlyph_143 rfl 2 rfl ?_
    refine r_aload_n C dX9_markGlyph_144 rfl 0 rfl ?_
    refine r_getp (f := 902) (j := 27) C flX9_21 dX9_markGlyph_145 kq_23 (by decide) rfl (fun W => pt_902 kq_23 W) ?_
    show Jr _ _ _ _ _ _ 148 _
    refine r_iload_n C dX9_markGlyph_148 rfl 1 rfl ?_
    refine r_iload C dX9_markGlyph_149 4 rfl ?_
    refine r_iload_n C dX9_markGlyph_151 rfl 3 rfl ?_
    refine r_isub C dX9_markGlyph_152 rfl ?_
    refine r_callVI C M h [.int a1, .int (a6 - a3)] [.int a2, .ref (ad 24)] mlX9_555 mcX2_rowOf (fun q9 e9 => s_X2_rowOf a1 (a6 - a3)  e9) kq_27 rfl (by decide) (by decide) rfl rfl (Nat.le_of_ble_eq_true rfl) dX9_markGlyph_153 (fun v1 T2 h => ?_)
    refine r_callVN C M h [.int a2, .int v1] [] mlX9_558 mcX0_layWord (fun q9 e9 => s_X0_layWord a2 v1  e9) kq_24 rfl (by decide) (by decide) rfl rfl (Nat.le_of_ble_eq_true rfl) dX9_markGlyph_156 (fun _ T3 h => ?_)
    show Jr _ _ _ _ _ _ 159 _
    refine r_aload_n C dX9_markGlyph_159 rfl 0 rfl ?_
    refine r_getp (f := 901) (j := 24) C flX9_12 dX9_markGlyph_160 kq_23 (by decide) rfl (fun W => pt_901 kq_23 W) ?_
    refine r_iload C dX9_markGlyph_163 4 rfl ?_
    refine r_callVN C M h [.int a6] [] mlX9_561 mcX0_paintRow (fun q9 e9 => s_X0_paintRow a6  e9) kq_24 rfl (by decide) (by decide) rfl rfl (Nat.le_of_ble_eq_true rfl) dX9_markGlyph_165 (fun _ T4 h => ?_)
    refine r_iinc (q := 4) (v := (a6 + 1)) (lv' := [(6, .int (a6 + 1)), (0, .ref (ad 23)), (1, .int a1), (2, .int a2), (3, .int a3)]) C dX9_markGlyph_168 rfl (by rw [show Int32.ofInt (1) = 1 by decide]) (by rw [hn9]; decide) rfl ?_
    refine r_goto (tgt := 127) C dX9_markGlyph_171 (by decide) ?_
    refine Jr.sub [1, 2, 3, 4, 0] (lv' := [(0, .ref (ad 23)), (1, .int a1), (2, .int a2), (3, .int a3), (6, .int (a6 + 1))]) rfl ?_
    exact hk127 a1 a2 a3 (a6 + 1) T4 h
noncomputable def f_X9_markGlyph_l127 (n : Nat) : Int32 → Int32 → Int32 → Int32 → Mm → Option (Unit × Mm) := Nat.rec (fun _ _ _ _ _ => none) (fun _ ih => f_X9_markGlyph_b127 ih) n
theorem s_X9_markGlyph_l127 {x : JX} {ad : Nat → Nat} {U : Mm} {S0 : Hp} {q : Unit × Mm}  (hn9 : x_n x = 7) (C : CB x RX9 cX9_markGlyph) (M : CMr x 4 none S0 ad true U eV q) : ∀ (n : Nat), ∀ (a1 : Int32) (a2 : Int32) (a3 : Int32) (a6 : Int32) (T : Mm), f_X9_markGlyph_l127  n a1 a2 a3 a6 T = some q → Jr x ad true U T [(0, .ref (ad 23)), (1, .int a1), (2, .int a2), (3, .int a3), (6, .int a6)] 127 [] := by
  intro n
  induction n with
  | zero => intro a1 a2 a3 a6 T  h; exact absurd h (by intro h; cases h)
  | succ n ih => exact fun a1 a2 a3 a6 T  h => s_X9_markGlyph_b127 hn9 C M (ih) a1 a2 a3 a6 T  h
noncomputable def f_X9_markGlyph (p1 : Int32) (T : Mm) : Option (Unit × Mm) :=
  bd (f_X2_head p1 0 T) fun v1 T2 =>
  lb ((((gI T 706 46) / 96) + v1)) fun v3 =>
  bd (f_X2_head p1 1 T2) fun v4 T5 =>
  lb ((((gI T2 707 46) / 96) - v4)) fun v6 =>
  bd (f_X2_head p1 2 T5) fun v7 T8 =>
  bd (f_X2_head p1 3 T8) fun v9 T10 =>
  bd (f_X0_ink 50 45 T10) fun _ T11 =>
  bd (f_X9_isMuch T11) fun v12 T13 =>
  if v12 = 0 then (bd (f_X0_mark 46 v3 v6 v7 v9 T13) fun v14 T15 =>
  if v14 = 0 then (some ((), T15))
  else (lb ((gI T15 8 24)) fun v16 =>
  f_X9_markGlyph_l127 FU p1 v3 v6 v16 T15))
  else (some ((), T13))
set_option maxRecDepth 100000 in
set_option maxHeartbeats 4000000 in
theorem s_X9_markGlyph {ad : Nat → Nat} {U T : Mm} {q : Unit × Mm}  (p1 : Int32) (h : f_X9_markGlyph p1 T = some q) : Cr 4 yX9_markGlyph cX9_markGlyph 7 none [.ref (ad 23), .int p1] ad true U T eV q := by
  refine cr_of (by decide) (Nat.le_of_ble_eq_true rfl) fun x S0 hn9 C M => ?_
  have C : CB x RX9 cX9_markGlyph := C
  refine Jr.eq (lv' := [(0, .ref (ad 23)), (1, .int p1)]) (st' := []) rfl rfl ?_
  unfold f_X9_markGlyph at h
  refine r_aload_n C dX9_markGlyph_0 rfl 0 rfl ?_
  refine r_getp (f := 909) (j := 45) C flX9_57 dX9_markGlyph_1 kq_23 (by decide) rfl (fun W => pt_909 kq_23 W) ?_
  refine r_getp (f := 100) (j := 46) C flX9_129 dX9_markGlyph_4 kq_45 (by decide) rfl (fun W => pt_100 kq_45 W) ?_
  refine r_geti (f := 706) C flX9_133 dX9_markGlyph_7 kq_46 (by decide) (by decide) rfl ?_
  refine r_bipush (v := 96) C dX9_markGlyph_10 (by decide) ?_
  show Jr _ _ _ _ _ _ 12 _
  refine r_idiv C dX9_markGlyph_12 (by decide) rfl ?_
  refine r_aload_n C dX9_markGlyph_13 rfl 0 rfl ?_
  refine r_getp (f := 902) (j := 27) C flX9_21 dX9_markGlyph_14 kq_23 (by decide) rfl (fun W => pt_902 kq_23 W) ?_
  refine r_iload_n C dX9_markGlyph_17 rfl 1 rfl ?_
  refine r_iconst (v := 0) C dX9_markGlyph_18 (by decide) ?_
  refine r_callVI C M h [.int p1, .int 0] [.int ((gI T 706 46) / 96)] mlX9_524 mcX2_head (fun q9 e9 => s_X2_head p1 0  e9) kq_27 rfl (by decide) (by decide) rfl rfl (Nat.le_of_ble_eq_true rfl) dX9_markGlyph_19 (fun v1 T2 h => ?_)
  show Jr _ _ _ _ _ _ 22 _
  refine r_iadd C dX9_markGlyph_22 rfl ?_
  refine r_lbI h (fun v3 h => ?_)
  refine r_istore_n (lv' := [(2, .int v3), (0, .ref (ad 23)), (1, .int p1)]) C dX9_markGlyph_23 rfl (by rw [hn9]; decide) rfl ?_
  refine r_aload_n C dX9_markGlyph_24 rfl 1 rfl ?_
  refine r_getp (f := 909) (j := 45) C flX9_57 dX9_markGlyph_25 kq_23 (by decide) rfl (fun W => pt_909 kq_23 W) ?_
  refine r_getp (f := 100) (j := 46) C flX9_129 dX9_markGlyph_28 kq_45 (by decide) rfl (fun W => pt_100 kq_45 W) ?_
  refine r_geti (f := 707) C flX9_138 dX9_markGlyph_31 kq_46 (by decide) (by decide) rfl ?_
  show Jr _ _ _ _ _ _ 34 _
  refine r_bipush (v := 96) C dX9_markGlyph_34 (by decide) ?_
  refine r_idiv C dX9_markGlyph_36 (by decide) rfl ?_
  refine r_aload_n C dX9_markGlyph_37 rfl 1 rfl ?_
  refine r_getp (f := 902) (j := 27) C flX9_21 dX9_markGlyph_38 kq_23 (by decide) rfl (fun W => pt_902 kq_23 W) ?_
  refine r_iload_n C dX9_markGlyph_41 rfl 2 rfl ?_
  refine r_iconst (v := 1) C dX9_markGlyph_42 (by decide) ?_
  show Jr _ _ _ _ _ _ 43 _
  refine r_callVI C M h [.int p1, .int 1] [.int ((gI T2 707 46) / 96)] mlX9_524 mcX2_head (fun q9 e9 => s_X2_head p1 1  e9) kq_27 rfl (by decide) (by decide) rfl rfl (Nat.le_of_ble_eq_true rfl) dX9_markGlyph_43 (fun v4 T5 h => ?_)
  refine r_isub C dX9_markGlyph_46 rfl ?_
  refine r_lbI h (fun v6 h => ?_)
  refine r_istore_n (lv' := [(3, .int v6), (2, .int v3), (0, .ref (ad 23)), (1, .int p1)]) C dX9_markGlyph_47 rfl (by rw [hn9]; decide) rfl ?_
  refine r_aload_n C dX9_markGlyph_48 rfl 2 rfl ?_
  refine r_getp (f := 902) (j := 27) C flX9_21 dX9_markGlyph_49 kq_23 (by decide) rfl (fun W => pt_902 kq_23 W) ?_
  refine r_iload_n C dX9_markGlyph_52 rfl 3 rfl ?_
  show Jr _ _ _ _ _ _ 53 _
  refine r_iconst (v := 2) C dX9_markGlyph_53 (by decide) ?_
  refine r_callVI C M h [.int p1, .int 2] [] mlX9_524 mcX2_head (fun q9 e9 => s_X2_head p1 2  e9) kq_27 rfl (by decide) (by decide) rfl rfl (Nat.le_of_ble_eq_true rfl) dX9_markGlyph_54 (fun v7 T8 h => ?_)
  refine r_istore (lv' := [(4, .int v7), (3, .int v6), (2, .int v3), (0, .ref (ad 23)), (1, .int p1)]) C dX9_markGlyph_57 (by rw [hn9]; decide) rfl ?_
  refine r_aload_n C dX9_markGlyph_59 rfl 3 rfl ?_
  refine r_getp (f := 902) (j := 27) C flX9_21 dX9_markGlyph_60 kq_23 (by decide) rfl (fun W => pt_902 kq_23 W) ?_
  refine r_iload_n C dX9_markGlyph_63 rfl 4 rfl ?_
  show Jr _ _ _ _ _ _ 64 _
  refine r_iconst (v := 3) C dX9_markGlyph_64 (by decide) ?_
  refine r_callVI C M h [.int p1, .int 3] [] mlX9_524 mcX2_head (fun q9 e9 => s_X2_head p1 3  e9) kq_27 rfl (by decide) (by decide) rfl rfl (Nat.le_of_ble_eq_true rfl) dX9_markGlyph_65 (fun v9 T10 h => ?_)
  refine r_istore (lv' := [(5, .int v9), (4, .int v7), (3, .int v6), (2, .int v3), (0, .ref (ad 23)), (1, .int p1)]) C dX9_markGlyph_68 (by rw [hn9]; decide) rfl ?_
  refine r_aload_n C dX9_markGlyph_70 rfl 4 rfl ?_
  refine r_getp (f := 901) (j := 24) C flX9_12 dX9_markGlyph_71 kq_23 (by decide) rfl (fun W => pt_901 kq_23 W) ?_
  refine r_aload_n C dX9_markGlyph_74 rfl 4 rfl ?_
  show Jr _ _ _ _ _ _ 75 _
  refine r_getp (f := 909) (j := 45) C flX9_57 dX9_markGlyph_75 kq_23 (by decide) rfl (fun W => pt_909 kq_23 W) ?_
  refine r_getp (f := 102) (j := 50) C flX9_539 dX9_markGlyph_78 kq_45 (by decide) rfl (fun W => pt_102 kq_45 W) ?_
  refine r_aload_n C dX9_markGlyph_81 rfl 4 rfl ?_
  refine r_getp (f := 909) (j := 45) C flX9_57 dX9_markGlyph_82 kq_23 (by decide) rfl (fun W => pt_909 kq_23 W) ?_
  refine r_callVN C M h [.ref (ad 50), .ref (ad 45)] [] mlX9_542 mcX0_ink (fun q9 e9 => s_X0_ink 50 45 kq_50 kq_45 e9) kq_24 rfl (by decide) (by decide) rfl rfl (Nat.le_of_ble_eq_true rfl) dX9_markGlyph_85 (fun _ T11 h => ?_)
  refine r_aload_n C dX9_markGlyph_88 rfl 4 rfl ?_
  show Jr _ _ _ _ _ _ 89 _
  refine r_callVI C M h [] [] mlX9_118 mcX9_isMuch (fun q9 e9 => s_X9_isMuch   e9) kq_23 rfl (by decide) (by decide) rfl rfl (Nat.le_of_ble_eq_true rfl) dX9_markGlyph_89 (fun v12 T13 h => ?_)
  refine r_if_ne (tgt := 174) C dX9_markGlyph_92 (by decide) h (fun h => ?_) (fun h => ?_)
  · exact r_vret C M dX9_markGlyph_174 h
  · refine r_aload_n C dX9_markGlyph_95 rfl 4 rfl ?_
    refine r_getp (f := 901) (j := 24) C flX9_12 dX9_markGlyph_96 kq_23 (by decide) rfl (fun W => pt_901 kq_23 W) ?_
    refine r_aload_n C dX9_markGlyph_99 rfl 4 rfl ?_
    refine r_getp (f := 909) (j := 45) C flX9_57 dX9_markGlyph_100 kq_23 (by decide) rfl (fun W => pt_909 kq_23 W) ?_
    refine r_getp (f := 100) (j := 46) C flX9_129 dX9_markGlyph_103 kq_45 (by decide) rfl (fun W => pt_100 kq_45 W) ?_
    show Jr _ _ _ _ _ _ 106 _
    refine r_iload_n C dX9_markGlyph_106 rfl 3 rfl ?_
    refine r_iload_n C dX9_markGlyph_107 rfl 2 rfl ?_
    refine r_iload C dX9_markGlyph_108 1 rfl ?_
    refine r_iload C dX9_markGlyph_110 0 rfl ?_
    refine r_callVI C M h [.ref (ad 46), .int v3, .int v6, .int v7, .int v9] [] mlX9_546 mcX0_mark (fun q9 e9 => s_X0_mark 46 v3 v6 v7 v9 kq_46 e9) kq_24 rfl (by decide) (by decide) rfl rfl (Nat.le_of_ble_eq_true rfl) dX9_markGlyph_112 (fun v14 T15 h => ?_)
    refine r_if_eq (tgt := 174) C dX9_markGlyph_115 (by decide) h (fun h => ?_) (fun h => ?_)
    · exact r_vret C M dX9_markGlyph_174 h
    · refine r_aload_n C dX9_markGlyph_118 rfl 4 rfl ?_
      refine r_getp (f := 901) (j := 24) C flX9_12 dX9_markGlyph_119 kq_23 (by decide) rfl (fun W => pt_901 kq_23 W) ?_
      refine r_geti (f := 8) C flX9_549 dX9_markGlyph_122 kq_24 (by decide) (by decide) rfl ?_
      refine r_lbI h (fun v16 h => ?_)
      refine r_istore (lv' := [(6, .int v16), (5, .int v9), (4, .int v7), (3, .int v6), (2, .int v3), (0, .ref (ad 23)), (1, .int p1)]) C dX9_markGlyph_125 (by rw [hn9]; decide) rfl ?_
      refine Jr.sub [5, 6, 4, 3, 0] (lv' := [(0, .ref (ad 23)), (1, .int p1), (2, .int v3), (3, .int v6), (6, .int v16)]) rfl ?_
      exact s_X9_markGlyph_l127 hn9 C M  FU p1 v3 v6 v16 T15 h
theorem dX9_show_0 : decode cX9_show 0 = .ok (.aload_n 0, 1) := by decide +kernel
theorem dX9_show_1 : decode cX9_show 1 = .ok (.getfield 57, 3) := by decide +kernel
theorem dX9_show_4 : decode cX9_show 4 = .ok (.getfield 129, 3) := by decide +kernel
theorem dX9_show_7 : decode cX9_show 7 = .ok (.astore_n 2, 1) := by decide +kernel
theorem dX9_show_8 : decode cX9_show 8 = .ok (.aload_n 0, 1) := by decide +kernel
theorem dX9_show_9 : decode cX9_show 9 = .ok (.getfield 21, 3) := by decide +kernel
theorem dX9_show_12 : decode cX9_show 12 = .ok (.aload_n 0, 1) := by decide +kernel
theorem dX9_show_13 : decode cX9_show 13 = .ok (.getfield 57, 3) := by decide +kernel
theorem dX9_show_16 : decode cX9_show 16 = .ok (.invokevirtual 159, 3) := by decide +kernel
theorem dX9_show_19 : decode cX9_show 19 = .ok (.invokevirtual 163, 3) := by decide +kernel
theorem dX9_show_22 : decode cX9_show 22 = .ok (.istore_n 3, 1) := by decide +kernel
theorem dX9_show_23 : decode cX9_show 23 = .ok (.aload_n 0, 1) := by decide +kernel
theorem dX9_show_24 : decode cX9_show 24 = .ok (.getfield 21, 3) := by decide +kernel
theorem dX9_show_27 : decode cX9_show 27 = .ok (.iload_n 3, 1) := by decide +kernel
theorem dX9_show_28 : decode cX9_show 28 = .ok (.iload_n 1, 1) := by decide +kernel
theorem dX9_show_29 : decode cX9_show 29 = .ok (.invokevirtual 527, 3) := by decide +kernel
theorem dX9_show_32 : decode cX9_show 32 = .ok (.istore 4, 2) := by decide +kernel
theorem dX9_show_34 : decode cX9_show 34 = .ok (.aload_n 0, 1) := by decide +kernel
theorem dX9_show_35 : decode cX9_show 35 = .ok (.iload_n 3, 1) := by decide +kernel
theorem dX9_show_36 : decode cX9_show 36 = .ok (.iload 4, 2) := by decide +kernel
theorem dX9_show_38 : decode cX9_show 38 = .ok (.invokevirtual 530, 3) := by decide +kernel
theorem dX9_show_41 : decode cX9_show 41 = .ok (.istore 5, 2) := by decide +kernel
theorem dX9_show_43 : decode cX9_show 43 = .ok (.aload_n 2, 1) := by decide +kernel
theorem dX9_show_44 : decode cX9_show 44 = .ok (.getfield 133, 3) := by decide +kernel
theorem dX9_show_47 : decode cX9_show 47 = .ok (.iload 5, 2) := by decide +kernel
theorem dX9_show_49 : decode cX9_show 49 = .ok (.iadd, 1) := by decide +kernel
theorem dX9_show_50 : decode cX9_show 50 = .ok (.aload_n 2, 1) := by decide +kernel
theorem dX9_show_51 : decode cX9_show 51 = .ok (.getfield 133, 3) := by decide +kernel
theorem dX9_show_54 : decode cX9_show 54 = .ok (.aload_n 2, 1) := by decide +kernel
theorem dX9_show_55 : decode cX9_show 55 = .ok (.getfield 150, 3) := by decide +kernel
theorem dX9_show_58 : decode cX9_show 58 = .ok (.if_icmp .le 10, 3) := by decide +kernel
theorem dX9_show_61 : decode cX9_show 61 = .ok (.aload_n 2, 1) := by decide +kernel
theorem dX9_show_62 : decode cX9_show 62 = .ok (.invokevirtual 533, 3) := by decide +kernel
theorem dX9_show_65 : decode cX9_show 65 = .ok (.goto 7, 3) := by decide +kernel
theorem dX9_show_68 : decode cX9_show 68 = .ok (.aload_n 2, 1) := by decide +kernel
theorem dX9_show_69 : decode cX9_show 69 = .ok (.getfield 150, 3) := by decide +kernel
theorem dX9_show_72 : decode cX9_show 72 = .ok (.if_icmp .le 61, 3) := by decide +kernel
theorem dX9_show_75 : decode cX9_show 75 = .ok (.aload_n 0, 1) := by decide +kernel
theorem dX9_show_76 : decode cX9_show 76 = .ok (.getfield 57, 3) := by decide +kernel
theorem dX9_show_79 : decode cX9_show 79 = .ok (.getfield 459, 3) := by decide +kernel
theorem dX9_show_82 : decode cX9_show 82 = .ok (.ifCond .ne 4, 3) := by decide +kernel
theorem dX9_show_85 : decode cX9_show 85 = .ok (.return_, 1) := by decide +kernel
theorem dX9_show_86 : decode cX9_show 86 = .ok (.aload_n 0, 1) := by decide +kernel
theorem dX9_show_87 : decode cX9_show 87 = .ok (.invokevirtual 262, 3) := by decide +kernel
theorem dX9_show_90 : decode cX9_show 90 = .ok (.aload_n 0, 1) := by decide +kernel
theorem dX9_show_91 : decode cX9_show 91 = .ok (.aload_n 2, 1) := by decide +kernel
theorem dX9_show_92 : decode cX9_show 92 = .ok (.getfield 144, 3) := by decide +kernel
theorem dX9_show_95 : decode cX9_show 95 = .ok (.invokevirtual 253, 3) := by decide +kernel
theorem dX9_show_98 : decode cX9_show 98 = .ok (.aload_n 0, 1) := by decide +kernel
theorem dX9_show_99 : decode cX9_show 99 = .ok (.getfield 21, 3) := by decide +kernel
theorem dX9_show_102 : decode cX9_show 102 = .ok (.aload_n 0, 1) := by decide +kernel
theorem dX9_show_103 : decode cX9_show 103 = .ok (.getfield 57, 3) := by decide +kernel
theorem dX9_show_106 : decode cX9_show 106 = .ok (.invokevirtual 159, 3) := by decide +kernel
theorem dX9_show_109 : decode cX9_show 109 = .ok (.invokevirtual 163, 3) := by decide +kernel
theorem dX9_show_112 : decode cX9_show 112 = .ok (.istore_n 3, 1) := by decide +kernel
theorem dX9_show_113 : decode cX9_show 113 = .ok (.aload_n 0, 1) := by decide +kernel
theorem dX9_show_114 : decode cX9_show 114 = .ok (.getfield 21, 3) := by decide +kernel
theorem dX9_show_117 : decode cX9_show 117 = .ok (.iload_n 3, 1) := by decide +kernel
theorem dX9_show_118 : decode cX9_show 118 = .ok (.iload_n 1, 1) := by decide +kernel
theorem dX9_show_119 : decode cX9_show 119 = .ok (.invokevirtual 527, 3) := by decide +kernel
theorem dX9_show_122 : decode cX9_show 122 = .ok (.istore 4, 2) := by decide +kernel
theorem dX9_show_124 : decode cX9_show 124 = .ok (.aload_n 0, 1) := by decide +kernel
theorem dX9_show_125 : decode cX9_show 125 = .ok (.iload_n 3, 1) := by decide +kernel
theorem dX9_show_126 : decode cX9_show 126 = .ok (.iload 4, 2) := by decide +kernel
theorem dX9_show_128 : decode cX9_show 128 = .ok (.invokevirtual 530, 3) := by decide +kernel
theorem dX9_show_131 : decode cX9_show 131 = .ok (.istore 5, 2) := by decide +kernel
theorem dX9_show_133 : decode cX9_show 133 = .ok (.iload 4, 2) := by decide +kernel
theorem dX9_show_135 : decode cX9_show 135 = .ok (.ifCond .lt 9, 3) := by decide +kernel
theorem dX9_show_138 : decode cX9_show 138 = .ok (.aload_n 0, 1) := by decide +kernel
theorem dX9_show_139 : decode cX9_show 139 = .ok (.iload 4, 2) := by decide +kernel
theorem dX9_show_141 : decode cX9_show 141 = .ok (.invokevirtual 536, 3) := by decide +kernel
theorem dX9_show_144 : decode cX9_show 144 = .ok (.aload_n 2, 1) := by decide +kernel
theorem dX9_show_145 : decode cX9_show 145 = .ok (.aload_n 2, 1) := by decide +kernel
theorem dX9_show_146 : decode cX9_show 146 = .ok (.getfield 133, 3) := by decide +kernel
theorem dX9_show_149 : decode cX9_show 149 = .ok (.iload 5, 2) := by decide +kernel
theorem dX9_show_151 : decode cX9_show 151 = .ok (.iadd, 1) := by decide +kernel
theorem dX9_show_152 : decode cX9_show 152 = .ok (.i2l, 1) := by decide +kernel
theorem dX9_show_153 : decode cX9_show 153 = .ok (.invokevirtual 246, 3) := by decide +kernel
theorem dX9_show_156 : decode cX9_show 156 = .ok (.aload_n 2, 1) := by decide +kernel
theorem dX9_show_157 : decode cX9_show 157 = .ok (.iload 5, 2) := by decide +kernel
theorem dX9_show_159 : decode cX9_show 159 = .ok (.putfield 243, 3) := by decide +kernel
theorem dX9_show_162 : decode cX9_show 162 = .ok (.return_, 1) := by decide +kernel
noncomputable def f_X9_show_144 (G : Int32 → Mm → Option (Unit × Mm)) (a5 : Int32) (T : Mm) : Option (Unit × Mm) :=
  bd (f_X7_moveX 46 ((((gI T 706 46) + a5)).toInt64) T) fun _ T1 =>
  lb (uI T1 710 46 a5) fun T2 =>
  some ((), T2)
set_option maxRecDepth 100000 in
set_option maxHeartbeats 4000000 in
theorem s_X9_show_144 {x : JX} {ad : Nat → Nat} {U : Mm} {S0 : Hp} {q : Unit × Mm} {D : Nat} {G : Int32 → Mm → Option (Unit × Mm)}  (hn9 : x_n x = 6) (C : CB x RX9 cX9_show) (M : CMr x (D + 4) none S0 ad true U eV q) (hD : 40 ≤ D) (hG : ∀ (i : Int32) (T : Mm) (q : Unit × Mm), G i T = some q → Cr D yX9_goMacro cX9_goMacro 3 none [.ref (ad 23), .int i] ad true U T eV q) (a5 : Int32) (T : Mm) (h : f_X9_show_144 G  a5 T = some q) : Jr x ad true U T [(2, .ref (ad 46)), (5, .int a5)] 144 [] := by
  unfold f_X9_show_144 at h
  refine r_aload_n C dX9_show_144 rfl 0 rfl ?_
  refine r_aload_n C dX9_show_145 rfl 0 rfl ?_
  refine r_geti (f := 706) C flX9_133 dX9_show_146 kq_46 (by decide) (by decide) rfl ?_
  refine r_iload C dX9_show_149 1 rfl ?_
  refine r_iadd C dX9_show_151 rfl ?_
  show Jr _ _ _ _ _ _ 152 _
  refine r_i2l C dX9_show_152 rfl ?_
  refine r_callVN C M h [.long ((((gI T 706 46) + a5)).toInt64)] [] mlX9_246 mcX7_moveX (fun q9 e9 => s_X7_moveX 46 ((((gI T 706 46) + a5)).toInt64) kq_46 e9) kq_46 rfl (by omega) (by decide) rfl rfl (Nat.le_of_ble_eq_true rfl) dX9_show_153 (fun _ T1 h => ?_)
  refine r_aload_n C dX9_show_156 rfl 0 rfl ?_
  refine r_iload C dX9_show_157 1 rfl ?_
  refine r_puti (f := 710) C flX9_243 (by decide) rfl rfl dX9_show_159 kq_46 rfl h (fun T2 h => ?_)
  exact r_vret C M dX9_show_162 h
noncomputable def f_X9_show_133 (G : Int32 → Mm → Option (Unit × Mm)) (a4 : Int32) (a5 : Int32) (T : Mm) : Option (Unit × Mm) :=
  if a4 < 0 then (f_X9_show_144 G a5 T)
  else (bd (f_X9_markGlyph a4 T) fun _ T1 =>
  f_X9_show_144 G a5 T1)
set_option maxRecDepth 100000 in
set_option maxHeartbeats 4000000 in
theorem s_X9_show_133 {x : JX} {ad : Nat → Nat} {U : Mm} {S0 : Hp} {q : Unit × Mm} {D : Nat} {G : Int32 → Mm → Option (Unit × Mm)}  (hn9 : x_n x = 6) (C : CB x RX9 cX9_show) (M : CMr x (D + 4) none S0 ad true U eV q) (hD : 40 ≤ D) (hG : ∀ (i : Int32) (T : Mm) (q : Unit × Mm), G i T = some q → Cr D yX9_goMacro cX9_goMacro 3 none [.ref (ad 23), .int i] ad true U T eV q) (a4 : Int32) (a5 : Int32) (T : Mm) (h : f_X9_show_133 G  a4 a5 T = some q) : Jr x ad true U T [(0, .ref (ad 23)), (2, .ref (ad 46)), (4, .int a4), (5, .int a5)] 133 [] := by
  unfold f_X9_show_133 at h
  refine r_iload C dX9_show_133 2 rfl ?_
  refine r_if_lt (tgt := 144) C dX9_show_135 (by decide) h (fun h => ?_) (fun h => ?_)
  · refine Jr.sub [1, 3] (lv' := [(2, .ref (ad 46)), (5, .int a5)]) rfl ?_
    exact s_X9_show_144 hn9 C M hD hG  a5 T h
  · refine r_aload_n C dX9_show_138 rfl 0 rfl ?_
    refine r_iload C dX9_show_139 2 rfl ?_
    refine r_callVN C M h [.int a4] [] mlX9_536 mcX9_markGlyph (fun q9 e9 => s_X9_markGlyph a4  e9) kq_23 rfl (by omega) (by decide) rfl rfl (Nat.le_of_ble_eq_true rfl) dX9_show_141 (fun _ T1 h => ?_)
    refine Jr.sub [1, 3] (lv' := [(2, .ref (ad 46)), (5, .int a5)]) rfl ?_
    exact s_X9_show_144 hn9 C M hD hG  a5 T1 h
noncomputable def f_X9_show_72 (G : Int32 → Mm → Option (Unit × Mm)) (a1 : Int32) (a4 : Int32) (a5 : Int32) (b0 : Int32) (b1 : Int32) (T : Mm) : Option (Unit × Mm) :=
  if b1 ≤ b0 then (f_X9_show_133 G a4 a5 T)
  else (if (gI T 109 45) = 0 then (some ((), T))
  else (bd (f_X9_carriageReturn T) fun _ T1 =>
  bd (f_X9_line G (gI T1 708 46) T1) fun _ T2 =>
  bd (f_X1_wishes 45 T2) fun v3 T4 =>
  gd (kS true v3 = 14) <|
  bd (f_X2_inUse v3 T4) fun v6 T7 =>
  bd (f_X2_glyphOf v6 a1 T7) fun v8 T9 =>
  bd (f_X9_advance v6 v8 T9) fun v10 T11 =>
  f_X9_show_133 G v8 v10 T11))
set_option maxRecDepth 100000 in
set_option maxHeartbeats 4000000 in
theorem s_X9_show_72 {x : JX} {ad : Nat → Nat} {U : Mm} {S0 : Hp} {q : Unit × Mm} {D : Nat} {G : Int32 → Mm → Option (Unit × Mm)}  (hn9 : x_n x = 6) (C : CB x RX9 cX9_show) (M : CMr x (D + 4) none S0 ad true U eV q) (hD : 40 ≤ D) (hG : ∀ (i : Int32) (T : Mm) (q : Unit × Mm), G i T = some q → Cr D yX9_goMacro cX9_goMacro 3 none [.ref (ad 23), .int i] ad true U T eV q) (a1 : Int32) (a4 : Int32) (a5 : Int32) (b0 : Int32) (b1 : Int32) (T : Mm) (h : f_X9_show_72 G  a1 a4 a5 b0 b1 T = some q) : Jr x ad true U T [(0, .ref (ad 23)), (1, .int a1), (2, .ref (ad 46)), (4, .int a4), (5, .int a5)] 72 [.int b0, .int b1] := by
  unfold f_X9_show_72 at h
  refine r_ic_le (tgt := 133) C dX9_show_72 (by decide) h (fun h => ?_) (fun h => ?_)
  · refine Jr.sub [0, 2, 3, 4] (lv' := [(0, .ref (ad 23)), (2, .ref (ad 46)), (4, .int a4), (5, .int a5)]) rfl ?_
    exact s_X9_show_133 hn9 C M hD hG  a4 a5 T h
  · refine r_aload_n C dX9_show_75 rfl 0 rfl ?_
    refine r_getp (f := 909) (j := 45) C flX9_57 dX9_show_76 kq_23 (by decide) rfl (fun W => pt_909 kq_23 W) ?_
    refine r_geti (f := 109) C flX9_459 dX9_show_79 kq_45 (by decide) (by decide) rfl ?_
    refine r_if_ne (tgt := 86) C dX9_show_82 (by decide) h (fun h => ?_) (fun h => ?_)
    · refine r_aload_n C dX9_show_86 rfl 0 rfl ?_
      refine r_callVN C M h [] [] mlX9_262 mcX9_carriageReturn (fun q9 e9 => s_X9_carriageReturn   e9) kq_23 rfl (by omega) (by decide) rfl rfl (Nat.le_of_ble_eq_true rfl) dX9_show_87 (fun _ T1 h => ?_)
      refine r_aload_n C dX9_show_90 rfl 0 rfl ?_
      refine r_aload_n C dX9_show_91 rfl 2 rfl ?_
      refine r_geti (f := 708) C flX9_144 dX9_show_92 kq_46 (by decide) (by decide) rfl ?_
      show Jr _ _ _ _ _ _ 95 _
      refine r_callVN C M h [.int (gI T1 708 46)] [] mlX9_253 mcX9_line (fun q9 e9 => s_X9_line hD (fun i9 T9 q9 e9 => hG i9 T9 q9 e9) (gI T1 708 46)  e9) kq_23 rfl (by omega) (by decide) rfl rfl (Nat.le_of_ble_eq_true rfl) dX9_show_95 (fun _ T2 h => ?_)
      refine r_aload_n C dX9_show_98 rfl 0 rfl ?_
      refine r_getp (f := 902) (j := 27) C flX9_21 dX9_show_99 kq_23 (by decide) rfl (fun W => pt_902 kq_23 W) ?_
      refine r_aload_n C dX9_show_102 rfl 0 rfl ?_
      refine r_getp (f := 909) (j := 45) C flX9_57 dX9_show_103 kq_23 (by decide) rfl (fun W => pt_909 kq_23 W) ?_
      refine r_callVR C M h [] [.ref (ad 27)] mlX9_159 mcX1_wishes (fun q9 e9 => s_X1_wishes 45 kq_45 e9) kq_45 rfl (by omega) (by decide) rfl rfl (Nat.le_of_ble_eq_true rfl) dX9_show_106 (fun v3 T4 h => ?_)
      refine r_gd h (fun hk5 h => ?_)
      show Jr _ _ _ _ _ _ 109 _
      refine r_callVI C M h [.ref (ad v3)] [] mlX9_163 mcX2_inUse (fun q9 e9 => s_X2_inUse v3 hk5 e9) kq_27 rfl (by omega) (by decide) rfl rfl (Nat.le_of_ble_eq_true rfl) dX9_show_109 (fun v6 T7 h => ?_)
      refine r_istore_n (lv' := [(3, .int v6), (0, .ref (ad 23)), (1, .int a1), (2, .ref (ad 46)), (4, .int a4), (5, .int a5)]) C dX9_show_112 rfl (by rw [hn9]; decide) rfl ?_
      refine r_aload_n C dX9_show_113 rfl 1 rfl ?_
      refine r_getp (f := 902) (j := 27) C flX9_21 dX9_show_114 kq_23 (by decide) rfl (fun W => pt_902 kq_23 W) ?_
      refine r_iload_n C dX9_show_117 rfl 0 rfl ?_
      refine r_iload_n C dX9_show_118 rfl 2 rfl ?_
      show Jr _ _ _ _ _ _ 119 _
      refine r_callVI C M h [.int v6, .int a1] [] mlX9_527 mcX2_glyphOf (fun q9 e9 => s_X2_glyphOf v6 a1  e9) kq_27 rfl (by omega) (by decide) rfl rfl (Nat.le_of_ble_eq_true rfl) dX9_show_119 (fun v8 T9 h => ?_)
      refine r_istore (lv' := [(4, .int v8), (3, .int v6), (0, .ref (ad 23)), (1, .int a1), (2, .ref (ad 46)), (5, .int a5)]) C dX9_show_122 (by rw [hn9]; decide) rfl ?_
      refine r_aload_n C dX9_show_124 rfl 2 rfl ?_
      refine r_iload_n C dX9_show_125 rfl 1 rfl ?_
      refine r_iload C dX9_show_126 0 rfl ?_
      refine r_callVI C M h [.int v6, .int v8] [] mlX9_530 mcX9_advance (fun q9 e9 => s_X9_advance v6 v8  e9) kq_23 rfl (by omega) (by decide) rfl rfl (Nat.le_of_ble_eq_true rfl) dX9_show_128 (fun v10 T11 h => ?_)
      show Jr _ _ _ _ _ _ 131 _
      refine r_istore (lv' := [(5, .int v10), (4, .int v8), (3, .int v6), (0, .ref (ad 23)), (1, .int a1), (2, .ref (ad 46))]) C dX9_show_131 (by rw [hn9]; decide) rfl ?_
      refine Jr.sub [3, 5, 1, 0] (lv' := [(0, .ref (ad 23)), (2, .ref (ad 46)), (4, .int v8), (5, .int v10)]) rfl ?_
      exact s_X9_show_133 hn9 C M hD hG  v8 v10 T11 h
    · exact r_vret C M dX9_show_85 h
noncomputable def f_X9_show (G : Int32 → Mm → Option (Unit × Mm)) (p1 : Int32) (T : Mm) : Option (Unit × Mm) :=
  bd (f_X1_wishes 45 T) fun v1 T2 =>
  gd (kS true v1 = 14) <|
  bd (f_X2_inUse v1 T2) fun v4 T5 =>
  bd (f_X2_glyphOf v4 p1 T5) fun v6 T7 =>
  bd (f_X9_advance v4 v6 T7) fun v8 T9 =>
  if (gI T9 706 46) ≤ (gI T9 703 46) then (f_X9_show_72 G p1 v6 v8 (gI T9 703 46) ((gI T9 706 46) + v8) T9)
  else (bd (f_X7_across 46 T9) fun v10 T11 =>
  f_X9_show_72 G p1 v6 v8 v10 ((gI T9 706 46) + v8) T11)
set_option maxRecDepth 100000 in
set_option maxHeartbeats 4000000 in
theorem s_X9_show {ad : Nat → Nat} {U T : Mm} {q : Unit × Mm} {D : Nat} {G : Int32 → Mm → Option (Unit × Mm)}  (hD : 40 ≤ D) (hG : ∀ (i : Int32) (T : Mm) (q : Unit × Mm), G i T = some q → Cr D yX9_goMacro cX9_goMacro 3 none [.ref (ad 23), .int i] ad true U T eV q) (p1 : Int32) (h : f_X9_show G p1 T = some q) : Cr (D + 4) yX9_show cX9_show 6 none [.ref (ad 23), .int p1] ad true U T eV q := by
  refine cr_of (by decide) (Nat.le_of_ble_eq_true rfl) fun x S0 hn9 C M => ?_
  have C : CB x RX9 cX9_show := C
  refine Jr.eq (lv' := [(0, .ref (ad 23)), (1, .int p1)]) (st' := []) rfl rfl ?_
  unfold f_X9_show at h
  refine r_aload_n C dX9_show_0 rfl 0 rfl ?_
  refine r_getp (f := 909) (j := 45) C flX9_57 dX9_show_1 kq_23 (by decide) rfl (fun W => pt_909 kq_23 W) ?_
  refine r_getp (f := 100) (j := 46) C flX9_129 dX9_show_4 kq_45 (by decide) rfl (fun W => pt_100 kq_45 W) ?_
  refine r_astore_n (lv' := [(2, .ref (ad 46)), (0, .ref (ad 23)), (1, .int p1)]) C dX9_show_7 rfl (by rw [hn9]; decide) rfl ?_
  refine r_aload_n C dX9_show_8 rfl 1 rfl ?_
  show Jr _ _ _ _ _ _ 9 _
  refine r_getp (f := 902) (j := 27) C flX9_21 dX9_show_9 kq_23 (by decide) rfl (fun W => pt_902 kq_23 W) ?_
  refine r_aload_n C dX9_show_12 rfl 1 rfl ?_
  refine r_getp (f := 909) (j := 45) C flX9_57 dX9_show_13 kq_23 (by decide) rfl (fun W => pt_909 kq_23 W) ?_
  refine r_callVR C M h [] [.ref (ad 27)] mlX9_159 mcX1_wishes (fun q9 e9 => s_X1_wishes 45 kq_45 e9) kq_45 rfl (by omega) (by decide) rfl rfl (Nat.le_of_ble_eq_true rfl) dX9_show_16 (fun v1 T2 h => ?_)
  refine r_gd h (fun hk3 h => ?_)
  refine r_callVI C M h [.ref (ad v1)] [] mlX9_163 mcX2_inUse (fun q9 e9 => s_X2_inUse v1 hk3 e9) kq_27 rfl (by omega) (by decide) rfl rfl (Nat.le_of_ble_eq_true rfl) dX9_show_19 (fun v4 T5 h => ?_)
  refine r_istore_n (lv' := [(3, .int v4), (2, .ref (ad 46)), (0, .ref (ad 23)), (1, .int p1)]) C dX9_show_22 rfl (by rw [hn9]; decide) rfl ?_
  show Jr _ _ _ _ _ _ 23 _
  refine r_aload_n C dX9_show_23 rfl 2 rfl ?_
  refine r_getp (f := 902) (j := 27) C flX9_21 dX9_show_24 kq_23 (by decide) rfl (fun W => pt_902 kq_23 W) ?_
  refine r_iload_n C dX9_show_27 rfl 0 rfl ?_
  refine r_iload_n C dX9_show_28 rfl 3 rfl ?_
  refine r_callVI C M h [.int v4, .int p1] [] mlX9_527 mcX2_glyphOf (fun q9 e9 => s_X2_glyphOf v4 p1  e9) kq_27 rfl (by omega) (by decide) rfl rfl (Nat.le_of_ble_eq_true rfl) dX9_show_29 (fun v6 T7 h => ?_)
  refine r_istore (lv' := [(4, .int v6), (3, .int v4), (2, .ref (ad 46)), (0, .ref (ad 23)), (1, .int p1)]) C dX9_show_32 (by rw [hn9]; decide) rfl ?_
  show Jr _ _ _ _ _ _ 34 _
  refine r_aload_n C dX9_show_34 rfl 3 rfl ?_
  refine r_iload_n C dX9_show_35 rfl 1 rfl ?_
  refine r_iload C dX9_show_36 0 rfl ?_
  refine r_callVI C M h [.int v4, .int v6] [] mlX9_530 mcX9_advance (fun q9 e9 => s_X9_advance v4 v6  e9) kq_23 rfl (by omega) (by decide) rfl rfl (Nat.le_of_ble_eq_true rfl) dX9_show_38 (fun v8 T9 h => ?_)
  refine r_istore (lv' := [(5, .int v8), (4, .int v6), (3, .int v4), (2, .ref (ad 46)), (0, .ref (ad 23)), (1, .int p1)]) C dX9_show_41 (by rw [hn9]; decide) rfl ?_
  refine r_aload_n C dX9_show_43 rfl 3 rfl ?_
  show Jr _ _ _ _ _ _ 44 _
  refine r_geti (f := 706) C flX9_133 dX9_show_44 kq_46 (by decide) (by decide) rfl ?_
  refine r_iload C dX9_show_47 0 rfl ?_
  refine r_iadd C dX9_show_49 rfl ?_
  refine r_aload_n C dX9_show_50 rfl 3 rfl ?_
  refine r_geti (f := 706) C flX9_133 dX9_show_51 kq_46 (by decide) (by decide) rfl ?_
  refine r_aload_n C dX9_show_54 rfl 3 rfl ?_
  show Jr _ _ _ _ _ _ 55 _
  refine r_geti (f := 703) C flX9_150 dX9_show_55 kq_46 (by decide) (by decide) rfl ?_
  refine r_ic_le (tgt := 68) C dX9_show_58 (by decide) h (fun h => ?_) (fun h => ?_)
  · refine r_aload_n C dX9_show_68 rfl 3 rfl ?_
    refine r_geti (f := 703) C flX9_150 dX9_show_69 kq_46 (by decide) (by decide) rfl ?_
    refine Jr.sub [4, 5, 3, 1, 0] (lv' := [(0, .ref (ad 23)), (1, .int p1), (2, .ref (ad 46)), (4, .int v6), (5, .int v8)]) rfl ?_
    exact s_X9_show_72 hn9 C M hD hG  p1 v6 v8 (gI T9 703 46) ((gI T9 706 46) + v8) T9 h
  · refine r_aload_n C dX9_show_61 rfl 3 rfl ?_
    refine r_callVI C M h [] [.int ((gI T9 706 46) + v8)] mlX9_533 mcX7_across (fun q9 e9 => s_X7_across 46 kq_46 e9) kq_46 rfl (by omega) (by decide) rfl rfl (Nat.le_of_ble_eq_true rfl) dX9_show_62 (fun v10 T11 h => ?_)
    refine r_goto (tgt := 72) C dX9_show_65 (by decide) ?_
    refine Jr.sub [4, 5, 3, 1, 0] (lv' := [(0, .ref (ad 23)), (1, .int p1), (2, .ref (ad 46)), (4, .int v6), (5, .int v8)]) rfl ?_
    exact s_X9_show_72 hn9 C M hD hG  p1 v6 v8 v10 ((gI T9 706 46) + v8) T11 h
