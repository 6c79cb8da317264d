theorem dX2_setNumber_0 : decode cX2_setNumber 0 = .ok (.iload_n 1, 1) := by decide +kernel
theorem dX2_setNumber_1 : decode cX2_setNumber 1 = .ok (.bipush 7, 2) := by decide +kernel
theorem dX2_setNumber_3 : decode cX2_setNumber 3 = .ok (.imul, 1) := by decide +kernel
theorem dX2_setNumber_4 : decode cX2_setNumber 4 = .ok (.iload_n 2, 1) := by decide +kernel
theorem dX2_setNumber_5 : decode cX2_setNumber 5 = .ok (.iadd, 1) := by decide +kernel
theorem dX2_setNumber_6 : decode cX2_setNumber 6 = .ok (.istore 4, 2) := by decide +kernel
theorem dX2_setNumber_8 : decode cX2_setNumber 8 = .ok (.iload 4, 2) := by decide +kernel
theorem dX2_setNumber_10 : decode cX2_setNumber 10 = .ok (.ifCond .lt 21, 3) := by decide +kernel
theorem dX2_setNumber_13 : decode cX2_setNumber 13 = .ok (.iload 4, 2) := by decide +kernel
theorem dX2_setNumber_15 : decode cX2_setNumber 15 = .ok (.aload_n 0, 1) := by decide +kernel
theorem dX2_setNumber_16 : decode cX2_setNumber 16 = .ok (.getfield 18, 3) := by decide +kernel
theorem dX2_setNumber_19 : decode cX2_setNumber 19 = .ok (.arraylength, 1) := by decide +kernel
theorem dX2_setNumber_20 : decode cX2_setNumber 20 = .ok (.if_icmp .ge 11, 3) := by decide +kernel
theorem dX2_setNumber_23 : decode cX2_setNumber 23 = .ok (.aload_n 0, 1) := by decide +kernel
theorem dX2_setNumber_24 : decode cX2_setNumber 24 = .ok (.getfield 18, 3) := by decide +kernel
theorem dX2_setNumber_27 : decode cX2_setNumber 27 = .ok (.iload 4, 2) := by decide +kernel
theorem dX2_setNumber_29 : decode cX2_setNumber 29 = .ok (.iload_n 3, 1) := by decide +kernel
theorem dX2_setNumber_30 : decode cX2_setNumber 30 = .ok (.iastore, 1) := by decide +kernel
theorem dX2_setNumber_31 : decode cX2_setNumber 31 = .ok (.return_, 1) := by decide +kernel
noncomputable def f_X2_setNumber (p1 : Int32) (p2 : Int32) (p3 : Int32) (T : Mm) : Option (Unit × Mm) :=
  lb (((p1 * 7) + p2)) fun v1 =>
  if v1 < 0 then (some ((), T))
  else (if 119 ≤ v1 then (some ((), T))
  else (ix v1 119 fun j2 => lb (uA T 30 j2 (p3)) fun T4 =>
  some ((), T4)))
set_option maxRecDepth 100000 in
set_option maxHeartbeats 4000000 in
theorem s_X2_setNumber {ad : Nat → Nat} {U T : Mm} {q : Unit × Mm}  (p1 : Int32) (p2 : Int32) (p3 : Int32) (h : f_X2_setNumber p1 p2 p3 T = some q) : Cr 1 yX2_setNumber cX2_setNumber 5 none [.ref (ad 27), .int p1, .int p2, .int p3] ad true U T eV q := by
  refine cr_of (by decide) (Nat.le_of_ble_eq_true rfl) fun x S0 hn9 C M => ?_
  have C : CB x RX2 cX2_setNumber := C
  refine Jr.eq (lv' := [(0, .ref (ad 27)), (1, .int p1), (2, .int p2), (3, .int p3)]) (st' := []) rfl rfl ?_
  unfold f_X2_setNumber at h
  refine r_iload_n C dX2_setNumber_0 rfl 1 rfl ?_
  refine r_bipush (v := 7) C dX2_setNumber_1 (by decide) ?_
  refine r_imul C dX2_setNumber_3 rfl ?_
  refine r_iload_n C dX2_setNumber_4 rfl 2 rfl ?_
  refine r_iadd C dX2_setNumber_5 rfl ?_
  show Jr _ _ _ _ _ _ 6 _
  refine r_lbI h (fun v1 h => ?_)
  refine r_istore (lv' := [(4, .int v1), (0, .ref (ad 27)), (1, .int p1), (2, .int p2), (3, .int p3)]) C dX2_setNumber_6 (by rw [hn9]; decide) rfl ?_
  refine r_iload C dX2_setNumber_8 0 rfl ?_
  refine r_if_lt (tgt := 31) C dX2_setNumber_10 (by decide) h (fun h => ?_) (fun h => ?_)
  · exact r_vret C M dX2_setNumber_31 h
  · refine r_iload C dX2_setNumber_13 0 rfl ?_
    refine r_aload_n C dX2_setNumber_15 rfl 1 rfl ?_
    refine r_getp (f := 201) (j := 30) C flX2_18 dX2_setNumber_16 kq_27 (by decide) rfl (fun W => pt_201 kq_27 W) ?_
    refine r_alen (n := 0) (v := 119) C dX2_setNumber_19 kq_30 (by decide) (by decide) (congrArg Int32.ofNat lq_30) ?_
    refine r_ic_ge (tgt := 31) C dX2_setNumber_20 (by decide) h (fun h => ?_) (fun h => ?_)
    · exact r_vret C M dX2_setNumber_31 h
    · refine r_aload_n C dX2_setNumber_23 rfl 1 rfl ?_
      refine r_getp (f := 201) (j := 30) C flX2_18 dX2_setNumber_24 kq_27 (by decide) rfl (fun W => pt_201 kq_27 W) ?_
      refine r_iload C dX2_setNumber_27 0 rfl ?_
      refine r_iload_n C dX2_setNumber_29 rfl 4 rfl ?_
      refine r_iast (n := 119) C dX2_setNumber_30 kq_30 lq_30 h (fun j2 T4 hj3 h => ?_)
      show Jr _ _ _ _ _ _ 31 _
      exact r_vret C M dX2_setNumber_31 h
theorem dX2_send_0 : decode cX2_send 0 = .ok (.aload_n 2, 1) := by decide +kernel
theorem dX2_send_1 : decode cX2_send 1 = .ok (.iconst 1, 1) := by decide +kernel
theorem dX2_send_2 : decode cX2_send 2 = .ok (.invokevirtual 63, 3) := by decide +kernel
theorem dX2_send_5 : decode cX2_send 5 = .ok (.istore_n 3, 1) := by decide +kernel
theorem dX2_send_6 : decode cX2_send 6 = .ok (.aload_n 2, 1) := by decide +kernel
theorem dX2_send_7 : decode cX2_send 7 = .ok (.getfield 69, 3) := by decide +kernel
theorem dX2_send_10 : decode cX2_send 10 = .ok (.bipush 9, 2) := by decide +kernel
theorem dX2_send_12 : decode cX2_send 12 = .ok (.if_icmp .lt 19, 3) := by decide +kernel
theorem dX2_send_15 : decode cX2_send 15 = .ok (.iload_n 3, 1) := by decide +kernel
theorem dX2_send_16 : decode cX2_send 16 = .ok (.iconst 1, 1) := by decide +kernel
theorem dX2_send_17 : decode cX2_send 17 = .ok (.if_icmp .lt 14, 3) := by decide +kernel
theorem dX2_send_20 : decode cX2_send 20 = .ok (.iload_n 3, 1) := by decide +kernel
theorem dX2_send_21 : decode cX2_send 21 = .ok (.sipush 7200, 3) := by decide +kernel
theorem dX2_send_24 : decode cX2_send 24 = .ok (.if_icmp .gt 7, 3) := by decide +kernel
theorem dX2_send_27 : decode cX2_send 27 = .ok (.iconst 1, 1) := by decide +kernel
theorem dX2_send_28 : decode cX2_send 28 = .ok (.goto 4, 3) := by decide +kernel
theorem dX2_send_31 : decode cX2_send 31 = .ok (.iconst 0, 1) := by decide +kernel
theorem dX2_send_32 : decode cX2_send 32 = .ok (.istore 4, 2) := by decide +kernel
theorem dX2_send_34 : decode cX2_send 34 = .ok (.iload 4, 2) := by decide +kernel
theorem dX2_send_36 : decode cX2_send 36 = .ok (.ifCond .eq 13, 3) := by decide +kernel
theorem dX2_send_39 : decode cX2_send 39 = .ok (.iload_n 1, 1) := by decide +kernel
theorem dX2_send_40 : decode cX2_send 40 = .ok (.ifCond .lt 9, 3) := by decide +kernel
theorem dX2_send_43 : decode cX2_send 43 = .ok (.iload_n 1, 1) := by decide +kernel
theorem dX2_send_44 : decode cX2_send 44 = .ok (.bipush 16, 2) := by decide +kernel
theorem dX2_send_46 : decode cX2_send 46 = .ok (.if_icmp .lt 4, 3) := by decide +kernel
theorem dX2_send_49 : decode cX2_send 49 = .ok (.return_, 1) := by decide +kernel
theorem dX2_send_50 : decode cX2_send 50 = .ok (.aload_n 0, 1) := by decide +kernel
theorem dX2_send_51 : decode cX2_send 51 = .ok (.iload_n 1, 1) := by decide +kernel
theorem dX2_send_52 : decode cX2_send 52 = .ok (.invokevirtual 73, 3) := by decide +kernel
theorem dX2_send_55 : decode cX2_send 55 = .ok (.aload_n 0, 1) := by decide +kernel
theorem dX2_send_56 : decode cX2_send 56 = .ok (.getfield 14, 3) := by decide +kernel
theorem dX2_send_59 : decode cX2_send 59 = .ok (.iload_n 1, 1) := by decide +kernel
theorem dX2_send_60 : decode cX2_send 60 = .ok (.invokevirtual 77, 3) := by decide +kernel
theorem dX2_send_63 : decode cX2_send 63 = .ok (.aload_n 0, 1) := by decide +kernel
theorem dX2_send_64 : decode cX2_send 64 = .ok (.iload_n 1, 1) := by decide +kernel
theorem dX2_send_65 : decode cX2_send 65 = .ok (.iconst 1, 1) := by decide +kernel
theorem dX2_send_66 : decode cX2_send 66 = .ok (.aload_n 2, 1) := by decide +kernel
theorem dX2_send_67 : decode cX2_send 67 = .ok (.iconst 0, 1) := by decide +kernel
theorem dX2_send_68 : decode cX2_send 68 = .ok (.invokevirtual 80, 3) := by decide +kernel
theorem dX2_send_71 : decode cX2_send 71 = .ok (.ifCond .ne 7, 3) := by decide +kernel
theorem dX2_send_74 : decode cX2_send 74 = .ok (.iconst 0, 1) := by decide +kernel
theorem dX2_send_75 : decode cX2_send 75 = .ok (.goto 4, 3) := by decide +kernel
theorem dX2_send_78 : decode cX2_send 78 = .ok (.iconst 1, 1) := by decide +kernel
theorem dX2_send_79 : decode cX2_send 79 = .ok (.invokevirtual 83, 3) := by decide +kernel
theorem dX2_send_82 : decode cX2_send 82 = .ok (.aload_n 0, 1) := by decide +kernel
theorem dX2_send_83 : decode cX2_send 83 = .ok (.iload_n 1, 1) := by decide +kernel
theorem dX2_send_84 : decode cX2_send 84 = .ok (.iconst 2, 1) := by decide +kernel
theorem dX2_send_85 : decode cX2_send 85 = .ok (.iload_n 3, 1) := by decide +kernel
theorem dX2_send_86 : decode cX2_send 86 = .ok (.invokevirtual 83, 3) := by decide +kernel
theorem dX2_send_89 : decode cX2_send 89 = .ok (.aload_n 0, 1) := by decide +kernel
theorem dX2_send_90 : decode cX2_send 90 = .ok (.iload_n 1, 1) := by decide +kernel
theorem dX2_send_91 : decode cX2_send 91 = .ok (.iconst 3, 1) := by decide +kernel
theorem dX2_send_92 : decode cX2_send 92 = .ok (.aload_n 2, 1) := by decide +kernel
theorem dX2_send_93 : decode cX2_send 93 = .ok (.iconst 3, 1) := by decide +kernel
theorem dX2_send_94 : decode cX2_send 94 = .ok (.invokevirtual 80, 3) := by decide +kernel
theorem dX2_send_97 : decode cX2_send 97 = .ok (.invokevirtual 83, 3) := by decide +kernel
theorem dX2_send_100 : decode cX2_send 100 = .ok (.aload_n 0, 1) := by decide +kernel
theorem dX2_send_101 : decode cX2_send 101 = .ok (.iload_n 1, 1) := by decide +kernel
theorem dX2_send_102 : decode cX2_send 102 = .ok (.iconst 4, 1) := by decide +kernel
theorem dX2_send_103 : decode cX2_send 103 = .ok (.aload_n 2, 1) := by decide +kernel
theorem dX2_send_104 : decode cX2_send 104 = .ok (.iconst 4, 1) := by decide +kernel
theorem dX2_send_105 : decode cX2_send 105 = .ok (.invokevirtual 80, 3) := by decide +kernel
theorem dX2_send_108 : decode cX2_send 108 = .ok (.invokevirtual 83, 3) := by decide +kernel
theorem dX2_send_111 : decode cX2_send 111 = .ok (.aload_n 0, 1) := by decide +kernel
theorem dX2_send_112 : decode cX2_send 112 = .ok (.iload_n 1, 1) := by decide +kernel
theorem dX2_send_113 : decode cX2_send 113 = .ok (.iconst 5, 1) := by decide +kernel
theorem dX2_send_114 : decode cX2_send 114 = .ok (.aload_n 2, 1) := by decide +kernel
theorem dX2_send_115 : decode cX2_send 115 = .ok (.iconst 5, 1) := by decide +kernel
theorem dX2_send_116 : decode cX2_send 116 = .ok (.invokevirtual 80, 3) := by decide +kernel
theorem dX2_send_119 : decode cX2_send 119 = .ok (.i2b, 1) := by decide +kernel
theorem dX2_send_120 : decode cX2_send 120 = .ok (.invokevirtual 83, 3) := by decide +kernel
theorem dX2_send_123 : decode cX2_send 123 = .ok (.aload_n 0, 1) := by decide +kernel
theorem dX2_send_124 : decode cX2_send 124 = .ok (.iload_n 1, 1) := by decide +kernel
theorem dX2_send_125 : decode cX2_send 125 = .ok (.bipush 6, 2) := by decide +kernel
theorem dX2_send_127 : decode cX2_send 127 = .ok (.aload_n 2, 1) := by decide +kernel
theorem dX2_send_128 : decode cX2_send 128 = .ok (.bipush 6, 2) := by decide +kernel
theorem dX2_send_130 : decode cX2_send 130 = .ok (.invokevirtual 80, 3) := by decide +kernel
theorem dX2_send_133 : decode cX2_send 133 = .ok (.invokevirtual 83, 3) := by decide +kernel
theorem dX2_send_136 : decode cX2_send 136 = .ok (.aload_n 0, 1) := by decide +kernel
theorem dX2_send_137 : decode cX2_send 137 = .ok (.iload_n 1, 1) := by decide +kernel
theorem dX2_send_138 : decode cX2_send 138 = .ok (.iconst 0, 1) := by decide +kernel
theorem dX2_send_139 : decode cX2_send 139 = .ok (.aload_n 2, 1) := by decide +kernel
theorem dX2_send_140 : decode cX2_send 140 = .ok (.bipush 7, 2) := by decide +kernel
theorem dX2_send_142 : decode cX2_send 142 = .ok (.invokevirtual 63, 3) := by decide +kernel
theorem dX2_send_145 : decode cX2_send 145 = .ok (.invokevirtual 83, 3) := by decide +kernel
theorem dX2_send_148 : decode cX2_send 148 = .ok (.return_, 1) := by decide +kernel
noncomputable def f_X2_send_79 (a1 : Int32) (a2 : Nat) (a3 : Int32) (b0 : Int32) (b1 : Int32) (b2 : Int32) (T : Mm) : Option (Unit × Mm) :=
  bd (f_X2_setNumber b2 b1 b0 T) fun _ T1 =>
  bd (f_X2_setNumber a1 2 a3 T1) fun _ T2 =>
  bd (f_X5_dataByte a2 3 T2) fun v3 T4 =>
  bd (f_X2_setNumber a1 3 v3 T4) fun _ T5 =>
  bd (f_X5_dataByte a2 4 T5) fun v6 T7 =>
  bd (f_X2_setNumber a1 4 v6 T7) fun _ T8 =>
  bd (f_X5_dataByte a2 5 T8) fun v9 T10 =>
  bd (f_X2_setNumber a1 5 ((v9).toInt8.toInt32) T10) fun _ T11 =>
  bd (f_X5_dataByte a2 6 T11) fun v12 T13 =>
  bd (f_X2_setNumber a1 6 v12 T13) fun _ T14 =>
  bd (f_X5_dataTwo a2 7 T14) fun v15 T16 =>
  bd (f_X2_setNumber a1 0 v15 T16) fun _ T17 =>
  some ((), T17)
set_option maxRecDepth 100000 in
set_option maxHeartbeats 4000000 in
theorem s_X2_send_79 {x : JX} {ad : Nat → Nat} {U : Mm} {S0 : Hp} {q : Unit × Mm}  (hn9 : x_n x = 5) (C : CB x RX2 cX2_send) (M : CMr x 3 none S0 ad true U eV q) (a1 : Int32) (a2 : Nat) (a3 : Int32) (b0 : Int32) (b1 : Int32) (b2 : Int32) (T : Mm) (ha2 : kS true a2 = 5) (h : f_X2_send_79  a1 a2 a3 b0 b1 b2 T = some q) : Jr x ad true U T [(0, .ref (ad 27)), (1, .int a1), (2, .ref (ad a2)), (3, .int a3)] 79 [.int b0, .int b1, .int b2, .ref (ad 27)] := by
  unfold f_X2_send_79 at h
  refine r_callVN C M h [.int b2, .int b1, .int b0] [] mlX2_83 mcX2_setNumber (fun q9 e9 => s_X2_setNumber b2 b1 b0  e9) kq_27 rfl (by decide) (by decide) rfl rfl (Nat.le_of_ble_eq_true rfl) dX2_send_79 (fun _ T1 h => ?_)
  refine r_aload_n C dX2_send_82 rfl 0 rfl ?_
  refine r_iload_n C dX2_send_83 rfl 1 rfl ?_
  refine r_iconst (v := 2) C dX2_send_84 (by decide) ?_
  refine r_iload_n C dX2_send_85 rfl 3 rfl ?_
  show Jr _ _ _ _ _ _ 86 _
  refine r_callVN C M h [.int a1, .int 2, .int a3] [] mlX2_83 mcX2_setNumber (fun q9 e9 => s_X2_setNumber a1 2 a3  e9) kq_27 rfl (by decide) (by decide) rfl rfl (Nat.le_of_ble_eq_true rfl) dX2_send_86 (fun _ T2 h => ?_)
  refine r_aload_n C dX2_send_89 rfl 0 rfl ?_
  refine r_iload_n C dX2_send_90 rfl 1 rfl ?_
  refine r_iconst (v := 3) C dX2_send_91 (by decide) ?_
  refine r_aload_n C dX2_send_92 rfl 2 rfl ?_
  refine r_iconst (v := 3) C dX2_send_93 (by decide) ?_
  show Jr _ _ _ _ _ _ 94 _
  refine r_callVI C M h [.int 3] [.int 3, .int a1, .ref (ad 27)] mlX2_80 mcX5_dataByte (fun q9 e9 => s_X5_dataByte a2 3 ha2 e9) ha2 rfl (by decide) (by decide) rfl rfl (Nat.le_of_ble_eq_true rfl) dX2_send_94 (fun v3 T4 h => ?_)
  refine r_callVN C M h [.int a1, .int 3, .int v3] [] mlX2_83 mcX2_setNumber (fun q9 e9 => s_X2_setNumber a1 3 v3  e9) kq_27 rfl (by decide) (by decide) rfl rfl (Nat.le_of_ble_eq_true rfl) dX2_send_97 (fun _ T5 h => ?_)
  refine r_aload_n C dX2_send_100 rfl 0 rfl ?_
  refine r_iload_n C dX2_send_101 rfl 1 rfl ?_
  refine r_iconst (v := 4) C dX2_send_102 (by decide) ?_
  refine r_aload_n C dX2_send_103 rfl 2 rfl ?_
  show Jr _ _ _ _ _ _ 104 _
  refine r_iconst (v := 4) C dX2_send_104 (by decide) ?_
  refine r_callVI C M h [.int 4] [.int 4, .int a1, .ref (ad 27)] mlX2_80 mcX5_dataByte (fun q9 e9 => s_X5_dataByte a2 4 ha2 e9) ha2 rfl (by decide) (by decide) rfl rfl (Nat.le_of_ble_eq_true rfl) dX2_send_105 (fun v6 T7 h => ?_)
  refine r_callVN C M h [.int a1, .int 4, .int v6] [] mlX2_83 mcX2_setNumber (fun q9 e9 => s_X2_setNumber a1 4 v6  e9) kq_27 rfl (by decide) (by decide) rfl rfl (Nat.le_of_ble_eq_true rfl) dX2_send_108 (fun _ T8 h => ?_)
  refine r_aload_n C dX2_send_111 rfl 0 rfl ?_
  refine r_iload_n C dX2_send_112 rfl 1 rfl ?_
  refine r_iconst (v := 5) C dX2_send_113 (by decide) ?_
  show Jr _ _ _ _ _ _ 114 _
  refine r_aload_n C dX2_send_114 rfl 2 rfl ?_
  refine r_iconst (v := 5) C dX2_send_115 (by decide) ?_
  refine r_callVI C M h [.int 5] [.int 5, .int a1, .ref (ad 27)] mlX2_80 mcX5_dataByte (fun q9 e9 => s_X5_dataByte a2 5 ha2 e9) ha2 rfl (by decide) (by decide) rfl rfl (Nat.le_of_ble_eq_true rfl) dX2_send_116 (fun v9 T10 h => ?_)
  refine r_i2b C dX2_send_119 rfl ?_
  refine r_callVN C M h [.int a1, .int 5, .int ((v9).toInt8.toInt32)] [] mlX2_83 mcX2_setNumber (fun q9 e9 => s_X2_setNumber a1 5 ((v9).toInt8.toInt32)  e9) kq_27 rfl (by decide) (by decide) rfl rfl (Nat.le_of_ble_eq_true rfl) dX2_send_120 (fun _ T11 h => ?_)
  refine r_aload_n C dX2_send_123 rfl 0 rfl ?_
  show Jr _ _ _ _ _ _ 124 _
  refine r_iload_n C dX2_send_124 rfl 1 rfl ?_
  refine r_bipush (v := 6) C dX2_send_125 (by decide) ?_
  refine r_aload_n C dX2_send_127 rfl 2 rfl ?_
  refine r_bipush (v := 6) C dX2_send_128 (by decide) ?_
  refine r_callVI C M h [.int 6] [.int 6, .int a1, .ref (ad 27)] mlX2_80 mcX5_dataByte (fun q9 e9 => s_X5_dataByte a2 6 ha2 e9) ha2 rfl (by decide) (by decide) rfl rfl (Nat.le_of_ble_eq_true rfl) dX2_send_130 (fun v12 T13 h => ?_)
  refine r_callVN C M h [.int a1, .int 6, .int v12] [] mlX2_83 mcX2_setNumber (fun q9 e9 => s_X2_setNumber a1 6 v12  e9) kq_27 rfl (by decide) (by decide) rfl rfl (Nat.le_of_ble_eq_true rfl) dX2_send_133 (fun _ T14 h => ?_)
  show Jr _ _ _ _ _ _ 136 _
  refine r_aload_n C dX2_send_136 rfl 0 rfl ?_
  refine r_iload_n C dX2_send_137 rfl 1 rfl ?_
  refine r_iconst (v := 0) C dX2_send_138 (by decide) ?_
  refine r_aload_n C dX2_send_139 rfl 2 rfl ?_
  refine r_bipush (v := 7) C dX2_send_140 (by decide) ?_
  refine r_callVI C M h [.int 7] [.int 0, .int a1, .ref (ad 27)] mlX2_63 mcX5_dataTwo (fun q9 e9 => s_X5_dataTwo a2 7 ha2 e9) ha2 rfl (by decide) (by decide) rfl rfl (Nat.le_of_ble_eq_true rfl) dX2_send_142 (fun v15 T16 h => ?_)
  show Jr _ _ _ _ _ _ 145 _
  refine r_callVN C M h [.int a1, .int 0, .int v15] [] mlX2_83 mcX2_setNumber (fun q9 e9 => s_X2_setNumber a1 0 v15  e9) kq_27 rfl (by decide) (by decide) rfl rfl (Nat.le_of_ble_eq_true rfl) dX2_send_145 (fun _ T17 h => ?_)
  exact r_vret C M dX2_send_148 h
noncomputable def f_X2_send_32 (a1 : Int32) (a2 : Nat) (a3 : Int32) (b0 : Int32) (T : Mm) : Option (Unit × Mm) :=
  if b0 = 0 then (some ((), T))
  else (if a1 < 0 then (some ((), T))
  else (if a1 < 16 then (bd (f_X2_remove a1 T) fun _ T1 =>
  bd (f_X8_put 28 a1 T1) fun _ T2 =>
  bd (f_X5_dataByte a2 0 T2) fun v3 T4 =>
  if v3 = 0 then (f_X2_send_79 a1 a2 a3 0 1 a1 T4)
  else (f_X2_send_79 a1 a2 a3 1 1 a1 T4))
  else (some ((), T))))
set_option maxRecDepth 100000 in
set_option maxHeartbeats 4000000 in
theorem s_X2_send_32 {x : JX} {ad : Nat → Nat} {U : Mm} {S0 : Hp} {q : Unit × Mm}  (hn9 : x_n x = 5) (C : CB x RX2 cX2_send) (M : CMr x 3 none S0 ad true U eV q) (a1 : Int32) (a2 : Nat) (a3 : Int32) (b0 : Int32) (T : Mm) (ha2 : kS true a2 = 5) (h : f_X2_send_32  a1 a2 a3 b0 T = some q) : Jr x ad true U T [(0, .ref (ad 27)), (1, .int a1), (2, .ref (ad a2)), (3, .int a3)] 32 [.int b0] := by
  unfold f_X2_send_32 at h
  refine r_istore (lv' := [(4, .int b0), (0, .ref (ad 27)), (1, .int a1), (2, .ref (ad a2)), (3, .int a3)]) C dX2_send_32 (by rw [hn9]; decide) rfl ?_
  refine r_iload C dX2_send_34 0 rfl ?_
  refine r_if_eq (tgt := 49) C dX2_send_36 (by decide) h (fun h => ?_) (fun h => ?_)
  · exact r_vret C M dX2_send_49 h
  · refine r_iload_n C dX2_send_39 rfl 2 rfl ?_
    refine r_if_lt (tgt := 49) C dX2_send_40 (by decide) h (fun h => ?_) (fun h => ?_)
    · exact r_vret C M dX2_send_49 h
    · refine r_iload_n C dX2_send_43 rfl 2 rfl ?_
      refine r_bipush (v := 16) C dX2_send_44 (by decide) ?_
      refine r_ic_lt (tgt := 50) C dX2_send_46 (by decide) h (fun h => ?_) (fun h => ?_)
      · refine r_aload_n C dX2_send_50 rfl 1 rfl ?_
        refine r_iload_n C dX2_send_51 rfl 2 rfl ?_
        refine r_callVN C M h [.int a1] [] mlX2_73 mcX2_remove (fun q9 e9 => s_X2_remove a1  e9) kq_27 rfl (by decide) (by decide) rfl rfl (Nat.le_of_ble_eq_true rfl) dX2_send_52 (fun _ T1 h => ?_)
        refine r_aload_n C dX2_send_55 rfl 1 rfl ?_
        refine r_getp (f := 200) (j := 28) C flX2_14 dX2_send_56 kq_27 (by decide) rfl (fun W => pt_200 kq_27 W) ?_
        show Jr _ _ _ _ _ _ 59 _
        refine r_iload_n C dX2_send_59 rfl 2 rfl ?_
        refine r_callVN C M h [.int a1] [] mlX2_77 mcX8_put (fun q9 e9 => s_X8_put 28 a1 kq_28 e9) kq_28 rfl (by decide) (by decide) rfl rfl (Nat.le_of_ble_eq_true rfl) dX2_send_60 (fun _ T2 h => ?_)
        refine r_aload_n C dX2_send_63 rfl 1 rfl ?_
        refine r_iload_n C dX2_send_64 rfl 2 rfl ?_
        refine r_iconst (v := 1) C dX2_send_65 (by decide) ?_
        refine r_aload_n C dX2_send_66 rfl 3 rfl ?_
        show Jr _ _ _ _ _ _ 67 _
        refine r_iconst (v := 0) C dX2_send_67 (by decide) ?_
        refine r_callVI C M h [.int 0] [.int 1, .int a1, .ref (ad 27)] mlX2_80 mcX5_dataByte (fun q9 e9 => s_X5_dataByte a2 0 ha2 e9) ha2 rfl (by decide) (by decide) rfl rfl (Nat.le_of_ble_eq_true rfl) dX2_send_68 (fun v3 T4 h => ?_)
        refine r_if_ne (tgt := 78) C dX2_send_71 (by decide) h (fun h => ?_) (fun h => ?_)
        · refine r_iconst (v := 1) C dX2_send_78 (by decide) ?_
          refine Jr.sub [1, 2, 3, 4] (lv' := [(0, .ref (ad 27)), (1, .int a1), (2, .ref (ad a2)), (3, .int a3)]) rfl ?_
          exact s_X2_send_79 hn9 C M  a1 a2 a3 1 1 a1 T4 ha2 h
        · refine r_iconst (v := 0) C dX2_send_74 (by decide) ?_
          refine r_goto (tgt := 79) C dX2_send_75 (by decide) ?_
          refine Jr.sub [1, 2, 3, 4] (lv' := [(0, .ref (ad 27)), (1, .int a1), (2, .ref (ad a2)), (3, .int a3)]) rfl ?_
          exact s_X2_send_79 hn9 C M  a1 a2 a3 0 1 a1 T4 ha2 h
      · exact r_vret C M dX2_send_49 h
noncomputable def f_X2_send (p1 : Int32) (p2 : Nat) (T : Mm) : Option (Unit × Mm) :=
  bd (f_X5_dataTwo p2 1 T) fun v1 T2 =>
  if (gI T2 512 p2) < 9 then (f_X2_send_32 p1 p2 v1 0 T2)
  else (if v1 < 1 then (f_X2_send_32 p1 p2 v1 0 T2)
  else (if 7200 < v1 then (f_X2_send_32 p1 p2 v1 0 T2)
  else (f_X2_send_32 p1 p2 v1 1 T2)))
set_option maxRecDepth 100000 in
set_option maxHeartbeats 4000000 in
theorem s_X2_send {ad : Nat → Nat} {U T : Mm} {q : Unit × Mm}  (p1 : Int32) (p2 : Nat) (hk2 : kS true p2 = 5) (h : f_X2_send p1 p2 T = some q) : Cr 3 yX2_send cX2_send 5 none [.ref (ad 27), .int p1, .ref (ad p2)] ad true U T eV q := by
  refine cr_of (by decide) (Nat.le_of_ble_eq_true rfl) fun x S0 hn9 C M => ?_
  have C : CB x RX2 cX2_send := C
  refine Jr.eq (lv' := [(0, .ref (ad 27)), (1, .int p1), (2, .ref (ad p2))]) (st' := []) rfl rfl ?_
  unfold f_X2_send at h
  refine r_aload_n C dX2_send_0 rfl 2 rfl ?_
  refine r_iconst (v := 1) C dX2_send_1 (by decide) ?_
  refine r_callVI C M h [.int 1] [] mlX2_63 mcX5_dataTwo (fun q9 e9 => s_X5_dataTwo p2 1 hk2 e9) hk2 rfl (by decide) (by decide) rfl rfl (Nat.le_of_ble_eq_true rfl) dX2_send_2 (fun v1 T2 h => ?_)
  refine r_istore_n (lv' := [(3, .int v1), (0, .ref (ad 27)), (1, .int p1), (2, .ref (ad p2))]) C dX2_send_5 rfl (by rw [hn9]; decide) rfl ?_
  refine r_aload_n C dX2_send_6 rfl 3 rfl ?_
  show Jr _ _ _ _ _ _ 7 _
  refine r_geti (f := 512) C flX2_69 dX2_send_7 hk2 (by decide) (by decide) rfl ?_
  refine r_bipush (v := 9) C dX2_send_10 (by decide) ?_
  refine r_ic_lt (tgt := 31) C dX2_send_12 (by decide) h (fun h => ?_) (fun h => ?_)
  · refine r_iconst (v := 0) C dX2_send_31 (by decide) ?_
    refine Jr.sub [1, 2, 3, 0] (lv' := [(0, .ref (ad 27)), (1, .int p1), (2, .ref (ad p2)), (3, .int v1)]) rfl ?_
    exact s_X2_send_32 hn9 C M  p1 p2 v1 0 T2 hk2 h
  · refine r_iload_n C dX2_send_15 rfl 0 rfl ?_
    refine r_iconst (v := 1) C dX2_send_16 (by decide) ?_
    refine r_ic_lt (tgt := 31) C dX2_send_17 (by decide) h (fun h => ?_) (fun h => ?_)
    · refine r_iconst (v := 0) C dX2_send_31 (by decide) ?_
      refine Jr.sub [1, 2, 3, 0] (lv' := [(0, .ref (ad 27)), (1, .int p1), (2, .ref (ad p2)), (3, .int v1)]) rfl ?_
      exact s_X2_send_32 hn9 C M  p1 p2 v1 0 T2 hk2 h
    · refine r_iload_n C dX2_send_20 rfl 0 rfl ?_
      refine r_sipush (v := 7200) C dX2_send_21 (by decide) ?_
      refine r_ic_gt (tgt := 31) C dX2_send_24 (by decide) h (fun h => ?_) (fun h => ?_)
      · refine r_iconst (v := 0) C dX2_send_31 (by decide) ?_
        refine Jr.sub [1, 2, 3, 0] (lv' := [(0, .ref (ad 27)), (1, .int p1), (2, .ref (ad p2)), (3, .int v1)]) rfl ?_
        exact s_X2_send_32 hn9 C M  p1 p2 v1 0 T2 hk2 h
      · refine r_iconst (v := 1) C dX2_send_27 (by decide) ?_
        refine r_goto (tgt := 32) C dX2_send_28 (by decide) ?_
        refine Jr.sub [1, 2, 3, 0] (lv' := [(0, .ref (ad 27)), (1, .int p1), (2, .ref (ad p2)), (3, .int v1)]) rfl ?_
        exact s_X2_send_32 hn9 C M  p1 p2 v1 1 T2 hk2 h
theorem dX9_obeyFont_0 : decode cX9_obeyFont 0 = .ok (.aload_n 0, 1) := by decide +kernel
theorem dX9_obeyFont_1 : decode cX9_obeyFont 1 = .ok (.getfield 82, 3) := by decide +kernel
theorem dX9_obeyFont_4 : decode cX9_obeyFont 4 = .ok (.getfield 217, 3) := by decide +kernel
theorem dX9_obeyFont_7 : decode cX9_obeyFont 7 = .ok (.bipush 40, 2) := by decide +kernel
theorem dX9_obeyFont_9 : decode cX9_obeyFont 9 = .ok (.if_icmp .ne 7, 3) := by decide +kernel
theorem dX9_obeyFont_12 : decode cX9_obeyFont 12 = .ok (.iconst 1, 1) := by decide +kernel
theorem dX9_obeyFont_13 : decode cX9_obeyFont 13 = .ok (.goto 4, 3) := by decide +kernel
theorem dX9_obeyFont_16 : decode cX9_obeyFont 16 = .ok (.iconst 0, 1) := by decide +kernel
theorem dX9_obeyFont_17 : decode cX9_obeyFont 17 = .ok (.istore_n 1, 1) := by decide +kernel
theorem dX9_obeyFont_18 : decode cX9_obeyFont 18 = .ok (.iload_n 1, 1) := by decide +kernel
theorem dX9_obeyFont_19 : decode cX9_obeyFont 19 = .ok (.ifCond .ne 16, 3) := by decide +kernel
theorem dX9_obeyFont_22 : decode cX9_obeyFont 22 = .ok (.aload_n 0, 1) := by decide +kernel
theorem dX9_obeyFont_23 : decode cX9_obeyFont 23 = .ok (.getfield 82, 3) := by decide +kernel
theorem dX9_obeyFont_26 : decode cX9_obeyFont 26 = .ok (.getfield 217, 3) := by decide +kernel
theorem dX9_obeyFont_29 : decode cX9_obeyFont 29 = .ok (.bipush 41, 2) := by decide +kernel
theorem dX9_obeyFont_31 : decode cX9_obeyFont 31 = .ok (.if_icmp .eq 4, 3) := by decide +kernel
theorem dX9_obeyFont_34 : decode cX9_obeyFont 34 = .ok (.return_, 1) := by decide +kernel
theorem dX9_obeyFont_35 : decode cX9_obeyFont 35 = .ok (.iload_n 1, 1) := by decide +kernel
theorem dX9_obeyFont_36 : decode cX9_obeyFont 36 = .ok (.ifCond .eq 13, 3) := by decide +kernel
theorem dX9_obeyFont_39 : decode cX9_obeyFont 39 = .ok (.aload_n 0, 1) := by decide +kernel
theorem dX9_obeyFont_40 : decode cX9_obeyFont 40 = .ok (.getfield 57, 3) := by decide +kernel
theorem dX9_obeyFont_43 : decode cX9_obeyFont 43 = .ok (.getfield 386, 3) := by decide +kernel
theorem dX9_obeyFont_46 : decode cX9_obeyFont 46 = .ok (.goto 10, 3) := by decide +kernel
theorem dX9_obeyFont_49 : decode cX9_obeyFont 49 = .ok (.aload_n 0, 1) := by decide +kernel
theorem dX9_obeyFont_50 : decode cX9_obeyFont 50 = .ok (.getfield 57, 3) := by decide +kernel
theorem dX9_obeyFont_53 : decode cX9_obeyFont 53 = .ok (.getfield 389, 3) := by decide +kernel
theorem dX9_obeyFont_56 : decode cX9_obeyFont 56 = .ok (.astore_n 2, 1) := by decide +kernel
theorem dX9_obeyFont_57 : decode cX9_obeyFont 57 = .ok (.iconst 0, 1) := by decide +kernel
theorem dX9_obeyFont_58 : decode cX9_obeyFont 58 = .ok (.istore_n 3, 1) := by decide +kernel
theorem dX9_obeyFont_59 : decode cX9_obeyFont 59 = .ok (.aload_n 0, 1) := by decide +kernel
theorem dX9_obeyFont_60 : decode cX9_obeyFont 60 = .ok (.getfield 82, 3) := by decide +kernel
theorem dX9_obeyFont_63 : decode cX9_obeyFont 63 = .ok (.getfield 299, 3) := by decide +kernel
theorem dX9_obeyFont_66 : decode cX9_obeyFont 66 = .ok (.ifCond .ne 19, 3) := by decide +kernel
theorem dX9_obeyFont_69 : decode cX9_obeyFont 69 = .ok (.aload_n 0, 1) := by decide +kernel
theorem dX9_obeyFont_70 : decode cX9_obeyFont 70 = .ok (.aload_n 2, 1) := by decide +kernel
theorem dX9_obeyFont_71 : decode cX9_obeyFont 71 = .ok (.aload_n 0, 1) := by decide +kernel
theorem dX9_obeyFont_72 : decode cX9_obeyFont 72 = .ok (.getfield 82, 3) := by decide +kernel
theorem dX9_obeyFont_75 : decode cX9_obeyFont 75 = .ok (.invokevirtual 333, 3) := by decide +kernel
theorem dX9_obeyFont_78 : decode cX9_obeyFont 78 = .ok (.invokevirtual 392, 3) := by decide +kernel
theorem dX9_obeyFont_81 : decode cX9_obeyFont 81 = .ok (.istore_n 3, 1) := by decide +kernel
theorem dX9_obeyFont_82 : decode cX9_obeyFont 82 = .ok (.goto 117, 3) := by decide +kernel
theorem dX9_obeyFont_85 : decode cX9_obeyFont 85 = .ok (.aload_n 0, 1) := by decide +kernel
theorem dX9_obeyFont_86 : decode cX9_obeyFont 86 = .ok (.getfield 82, 3) := by decide +kernel
theorem dX9_obeyFont_89 : decode cX9_obeyFont 89 = .ok (.getfield 299, 3) := by decide +kernel
theorem dX9_obeyFont_92 : decode cX9_obeyFont 92 = .ok (.bipush 115, 2) := by decide +kernel
theorem dX9_obeyFont_94 : decode cX9_obeyFont 94 = .ok (.if_icmp .ne 31, 3) := by decide +kernel
theorem dX9_obeyFont_97 : decode cX9_obeyFont 97 = .ok (.aload_n 0, 1) := by decide +kernel
theorem dX9_obeyFont_98 : decode cX9_obeyFont 98 = .ok (.getfield 82, 3) := by decide +kernel
theorem dX9_obeyFont_101 : decode cX9_obeyFont 101 = .ok (.getfield 327, 3) := by decide +kernel
theorem dX9_obeyFont_104 : decode cX9_obeyFont 104 = .ok (.bipush 87, 2) := by decide +kernel
theorem dX9_obeyFont_106 : decode cX9_obeyFont 106 = .ok (.if_icmp .eq 19, 3) := by decide +kernel
theorem dX9_obeyFont_109 : decode cX9_obeyFont 109 = .ok (.aload_n 0, 1) := by decide +kernel
theorem dX9_obeyFont_110 : decode cX9_obeyFont 110 = .ok (.aload_n 2, 1) := by decide +kernel
theorem dX9_obeyFont_111 : decode cX9_obeyFont 111 = .ok (.aload_n 0, 1) := by decide +kernel
theorem dX9_obeyFont_112 : decode cX9_obeyFont 112 = .ok (.getfield 82, 3) := by decide +kernel
theorem dX9_obeyFont_115 : decode cX9_obeyFont 115 = .ok (.invokevirtual 333, 3) := by decide +kernel
theorem dX9_obeyFont_118 : decode cX9_obeyFont 118 = .ok (.invokevirtual 396, 3) := by decide +kernel
theorem dX9_obeyFont_121 : decode cX9_obeyFont 121 = .ok (.istore_n 3, 1) := by decide +kernel
theorem dX9_obeyFont_122 : decode cX9_obeyFont 122 = .ok (.goto 77, 3) := by decide +kernel
theorem dX9_obeyFont_125 : decode cX9_obeyFont 125 = .ok (.aload_n 0, 1) := by decide +kernel
theorem dX9_obeyFont_126 : decode cX9_obeyFont 126 = .ok (.getfield 82, 3) := by decide +kernel
theorem dX9_obeyFont_129 : decode cX9_obeyFont 129 = .ok (.getfield 299, 3) := by decide +kernel
theorem dX9_obeyFont_132 : decode cX9_obeyFont 132 = .ok (.bipush 115, 2) := by decide +kernel
theorem dX9_obeyFont_134 : decode cX9_obeyFont 134 = .ok (.if_icmp .ne 35, 3) := by decide +kernel
theorem dX9_obeyFont_137 : decode cX9_obeyFont 137 = .ok (.iload_n 1, 1) := by decide +kernel
theorem dX9_obeyFont_138 : decode cX9_obeyFont 138 = .ok (.ifCond .eq 31, 3) := by decide +kernel
theorem dX9_obeyFont_141 : decode cX9_obeyFont 141 = .ok (.aload_n 0, 1) := by decide +kernel
theorem dX9_obeyFont_142 : decode cX9_obeyFont 142 = .ok (.getfield 21, 3) := by decide +kernel
theorem dX9_obeyFont_145 : decode cX9_obeyFont 145 = .ok (.aload_n 0, 1) := by decide +kernel
theorem dX9_obeyFont_146 : decode cX9_obeyFont 146 = .ok (.getfield 57, 3) := by decide +kernel
theorem dX9_obeyFont_149 : decode cX9_obeyFont 149 = .ok (.getfield 399, 3) := by decide +kernel
theorem dX9_obeyFont_152 : decode cX9_obeyFont 152 = .ok (.aload_n 0, 1) := by decide +kernel
theorem dX9_obeyFont_153 : decode cX9_obeyFont 153 = .ok (.getfield 57, 3) := by decide +kernel
theorem dX9_obeyFont_156 : decode cX9_obeyFont 156 = .ok (.getfield 402, 3) := by decide +kernel
theorem dX9_obeyFont_159 : decode cX9_obeyFont 159 = .ok (.aload_n 0, 1) := by decide +kernel
theorem dX9_obeyFont_160 : decode cX9_obeyFont 160 = .ok (.getfield 82, 3) := by decide +kernel
theorem dX9_obeyFont_163 : decode cX9_obeyFont 163 = .ok (.invokevirtual 405, 3) := by decide +kernel
theorem dX9_obeyFont_166 : decode cX9_obeyFont 166 = .ok (.goto 33, 3) := by decide +kernel
theorem dX9_obeyFont_169 : decode cX9_obeyFont 169 = .ok (.aload_n 0, 1) := by decide +kernel
theorem dX9_obeyFont_170 : decode cX9_obeyFont 170 = .ok (.getfield 82, 3) := by decide +kernel
theorem dX9_obeyFont_173 : decode cX9_obeyFont 173 = .ok (.getfield 299, 3) := by decide +kernel
theorem dX9_obeyFont_176 : decode cX9_obeyFont 176 = .ok (.bipush 115, 2) := by decide +kernel
theorem dX9_obeyFont_178 : decode cX9_obeyFont 178 = .ok (.if_icmp .ne 21, 3) := by decide +kernel
theorem dX9_obeyFont_181 : decode cX9_obeyFont 181 = .ok (.aload_n 0, 1) := by decide +kernel
theorem dX9_obeyFont_182 : decode cX9_obeyFont 182 = .ok (.getfield 21, 3) := by decide +kernel
theorem dX9_obeyFont_185 : decode cX9_obeyFont 185 = .ok (.aload_n 0, 1) := by decide +kernel
theorem dX9_obeyFont_186 : decode cX9_obeyFont 186 = .ok (.getfield 57, 3) := by decide +kernel
theorem dX9_obeyFont_189 : decode cX9_obeyFont 189 = .ok (.getfield 399, 3) := by decide +kernel
theorem dX9_obeyFont_192 : decode cX9_obeyFont 192 = .ok (.aload_n 0, 1) := by decide +kernel
theorem dX9_obeyFont_193 : decode cX9_obeyFont 193 = .ok (.getfield 82, 3) := by decide +kernel
theorem dX9_obeyFont_196 : decode cX9_obeyFont 196 = .ok (.invokevirtual 409, 3) := by decide +kernel
theorem dX9_obeyFont_199 : decode cX9_obeyFont 199 = .ok (.iload_n 3, 1) := by decide +kernel
theorem dX9_obeyFont_200 : decode cX9_obeyFont 200 = .ok (.ifCond .eq 7, 3) := by decide +kernel
theorem dX9_obeyFont_203 : decode cX9_obeyFont 203 = .ok (.aload_n 0, 1) := by decide +kernel
theorem dX9_obeyFont_204 : decode cX9_obeyFont 204 = .ok (.invokevirtual 271, 3) := by decide +kernel
theorem dX9_obeyFont_207 : decode cX9_obeyFont 207 = .ok (.return_, 1) := by decide +kernel
noncomputable def f_X9_obeyFont_199 (a3 : Int32) (T : Mm) : Option (Unit × Mm) :=
  if a3 = 0 then (some ((), T))
  else (bd (f_X9_followPitch T) fun _ T1 =>
  some ((), T1))
set_option maxRecDepth 100000 in
set_option maxHeartbeats 4000000 in
theorem s_X9_obeyFont_199 {x : JX} {ad : Nat → Nat} {U : Mm} {S0 : Hp} {q : Unit × Mm}  (hn9 : x_n x = 4) (C : CB x RX9 cX9_obeyFont) (M : CMr x 6 none S0 ad true U eV q) (a3 : Int32) (T : Mm) (h : f_X9_obeyFont_199  a3 T = some q) : Jr x ad true U T [(0, .ref (ad 23)), (3, .int a3)] 199 [] := by
  unfold f_X9_obeyFont_199 at h
  refine r_iload_n C dX9_obeyFont_199 rfl 1 rfl ?_
  refine r_if_eq (tgt := 207) C dX9_obeyFont_200 (by decide) h (fun h => ?_) (fun h => ?_)
  · exact r_vret C M dX9_obeyFont_207 h
  · refine r_aload_n C dX9_obeyFont_203 rfl 0 rfl ?_
    refine r_callVN C M h [] [] mlX9_271 mcX9_followPitch (fun q9 e9 => s_X9_followPitch   e9) kq_23 rfl (by decide) (by decide) rfl rfl (Nat.le_of_ble_eq_true rfl) dX9_obeyFont_204 (fun _ T1 h => ?_)
    exact r_vret C M dX9_obeyFont_207 h
noncomputable def f_X9_obeyFont_169 (a3 : Int32) (T : Mm) : Option (Unit × Mm) :=
  rf true (gR T 913 23) 5 fun j1 =>
  if (gI T 504 j1) = 115 then (rf true (gR T 913 23) 5 fun j3 =>
  bd (f_X2_send (gI T 116 45) j3 T) fun _ T5 =>
  f_X9_obeyFont_199 a3 T5)
  else (f_X9_obeyFont_199 a3 T)
set_option maxRecDepth 100000 in
set_option maxHeartbeats 4000000 in
theorem s_X9_obeyFont_169 {x : JX} {ad : Nat → Nat} {U : Mm} {S0 : Hp} {q : Unit × Mm}  (hn9 : x_n x = 4) (C : CB x RX9 cX9_obeyFont) (M : CMr x 6 none S0 ad true U eV q) (a3 : Int32) (T : Mm) (h : f_X9_obeyFont_169  a3 T = some q) : Jr x ad true U T [(0, .ref (ad 23)), (3, .int a3)] 169 [] := by
  unfold f_X9_obeyFont_169 at h
  refine r_aload_n C dX9_obeyFont_169 rfl 0 rfl ?_
  refine r_getr (f := 913) (c := 5) C flX9_82 dX9_obeyFont_170 kq_23 (by decide) rfl h (fun j1 hj2 h => ?_)
  refine r_geti (f := 504) C flX9_299 dX9_obeyFont_173 hj2 (by decide) (by decide) rfl ?_
  refine r_bipush (v := 115) C dX9_obeyFont_176 (by decide) ?_
  refine r_ic_ne (tgt := 199) C dX9_obeyFont_178 (by decide) h (fun h => ?_) (fun h => ?_)
  · exact s_X9_obeyFont_199 hn9 C M  a3 T h
  · refine r_aload_n C dX9_obeyFont_181 rfl 0 rfl ?_
    refine r_getp (f := 902) (j := 27) C flX9_21 dX9_obeyFont_182 kq_23 (by decide) rfl (fun W => pt_902 kq_23 W) ?_
    refine r_aload_n C dX9_obeyFont_185 rfl 0 rfl ?_
    refine r_getp (f := 909) (j := 45) C flX9_57 dX9_obeyFont_186 kq_23 (by decide) rfl (fun W => pt_909 kq_23 W) ?_
    refine r_geti (f := 116) C flX9_399 dX9_obeyFont_189 kq_45 (by decide) (by decide) rfl ?_
    show Jr _ _ _ _ _ _ 192 _
    refine r_aload_n C dX9_obeyFont_192 rfl 0 rfl ?_
    refine r_getr (f := 913) (c := 5) C flX9_82 dX9_obeyFont_193 kq_23 (by decide) rfl h (fun j3 hj4 h => ?_)
    refine r_callVN C M h [.int (gI T 116 45), .ref (ad j3)] [] mlX9_409 mcX2_send (fun q9 e9 => s_X2_send (gI T 116 45) j3 hj4 e9) kq_27 rfl (by decide) (by decide) rfl rfl (Nat.le_of_ble_eq_true rfl) dX9_obeyFont_196 (fun _ T5 h => ?_)
    exact s_X9_obeyFont_199 hn9 C M  a3 T5 h
noncomputable def f_X9_obeyFont_125 (a1 : Int32) (a3 : Int32) (T : Mm) : Option (Unit × Mm) :=
  rf true (gR T 913 23) 5 fun j1 =>
  if (gI T 504 j1) = 115 then (if a1 = 0 then (f_X9_obeyFont_169 a3 T)
  else (rf true (gR T 913 23) 5 fun j3 =>
  bd (f_X2_sendGlyph (gI T 116 45) (gI T 117 45) j3 T) fun _ T5 =>
  f_X9_obeyFont_199 a3 T5))
  else (f_X9_obeyFont_169 a3 T)
set_option maxRecDepth 100000 in
set_option maxHeartbeats 4000000 in
theorem s_X9_obeyFont_125 {x : JX} {ad : Nat → Nat} {U : Mm} {S0 : Hp} {q : Unit × Mm}  (hn9 : x_n x = 4) (C : CB x RX9 cX9_obeyFont) (M : CMr x 6 none S0 ad true U eV q) (a1 : Int32) (a3 : Int32) (T : Mm) (h : f_X9_obeyFont_125  a1 a3 T = some q) : Jr x ad true U T [(0, .ref (ad 23)), (1, .int a1), (3, .int a3)] 125 [] := by
  unfold f_X9_obeyFont_125 at h
  refine r_aload_n C dX9_obeyFont_125 rfl 0 rfl ?_
  refine r_getr (f := 913) (c := 5) C flX9_82 dX9_obeyFont_126 kq_23 (by decide) rfl h (fun j1 hj2 h => ?_)
  refine r_geti (f := 504) C flX9_299 dX9_obeyFont_129 hj2 (by decide) (by decide) rfl ?_
  refine r_bipush (v := 115) C dX9_obeyFont_132 (by decide) ?_
  refine r_ic_ne (tgt := 169) C dX9_obeyFont_134 (by decide) h (fun h => ?_) (fun h => ?_)
  · refine Jr.sub [0, 2] (lv' := [(0, .ref (ad 23)), (3, .int a3)]) rfl ?_
    exact s_X9_obeyFont_169 hn9 C M  a3 T h
  · refine r_iload_n C dX9_obeyFont_137 rfl 1 rfl ?_
    refine r_if_eq (tgt := 169) C dX9_obeyFont_138 (by decide) h (fun h => ?_) (fun h => ?_)
    · refine Jr.sub [0, 2] (lv' := [(0, .ref (ad 23)), (3, .int a3)]) rfl ?_
      exact s_X9_obeyFont_169 hn9 C M  a3 T h
    · refine r_aload_n C dX9_obeyFont_141 rfl 0 rfl ?_
      refine r_getp (f := 902) (j := 27) C flX9_21 dX9_obeyFont_142 kq_23 (by decide) rfl (fun W => pt_902 kq_23 W) ?_
      refine r_aload_n C dX9_obeyFont_145 rfl 0 rfl ?_
      refine r_getp (f := 909) (j := 45) C flX9_57 dX9_obeyFont_146 kq_23 (by decide) rfl (fun W => pt_909 kq_23 W) ?_
      refine r_geti (f := 116) C flX9_399 dX9_obeyFont_149 kq_45 (by decide) (by decide) rfl ?_
      show Jr _ _ _ _ _ _ 152 _
      refine r_aload_n C dX9_obeyFont_152 rfl 0 rfl ?_
      refine r_getp (f := 909) (j := 45) C flX9_57 dX9_obeyFont_153 kq_23 (by decide) rfl (fun W => pt_909 kq_23 W) ?_
      refine r_geti (f := 117) C flX9_402 dX9_obeyFont_156 kq_45 (by decide) (by decide) rfl ?_
      refine r_aload_n C dX9_obeyFont_159 rfl 0 rfl ?_
      refine r_getr (f := 913) (c := 5) C flX9_82 dX9_obeyFont_160 kq_23 (by decide) rfl h (fun j3 hj4 h => ?_)
      refine r_callVN C M h [.int (gI T 116 45), .int (gI T 117 45), .ref (ad j3)] [] mlX9_405 mcX2_sendGlyph (fun q9 e9 => s_X2_sendGlyph (gI T 116 45) (gI T 117 45) j3 hj4 e9) kq_27 rfl (by decide) (by decide) rfl rfl (Nat.le_of_ble_eq_true rfl) dX9_obeyFont_163 (fun _ T5 h => ?_)
      show Jr _ _ _ _ _ _ 166 _
      refine r_goto (tgt := 199) C dX9_obeyFont_166 (by decide) ?_
      refine Jr.sub [0, 2] (lv' := [(0, .ref (ad 23)), (3, .int a3)]) rfl ?_
      exact s_X9_obeyFont_199 hn9 C M  a3 T5 h
noncomputable def f_X9_obeyFont_56 (a1 : Int32) (b0 : Nat) (T : Mm) : Option (Unit × Mm) :=
  rf true (gR T 913 23) 5 fun j1 =>
  if (gI T 504 j1) = 0 then (rf true (gR T 913 23) 5 fun j13 =>
  bd (f_X5_n j13 T) fun v15 T16 =>
  bd (f_X9_fontField b0 v15 T16) fun v17 T18 =>
  f_X9_obeyFont_199 v17 T18)
  else (rf true (gR T 913 23) 5 fun j3 =>
  if (gI T 504 j3) = 115 then (rf true (gR T 913 23) 5 fun j5 =>
  if (gI T 505 j5) = 87 then (f_X9_obeyFont_125 a1 0 T)
  else (rf true (gR T 913 23) 5 fun j7 =>
  bd (f_X5_n j7 T) fun v9 T10 =>
  bd (f_X9_styleField b0 v9 T10) fun v11 T12 =>
  f_X9_obeyFont_199 v11 T12))
  else (f_X9_obeyFont_125 a1 0 T))
set_option maxRecDepth 100000 in
set_option maxHeartbeats 4000000 in
theorem s_X9_obeyFont_56 {x : JX} {ad : Nat → Nat} {U : Mm} {S0 : Hp} {q : Unit × Mm}  (hn9 : x_n x = 4) (C : CB x RX9 cX9_obeyFont) (M : CMr x 6 none S0 ad true U eV q) (a1 : Int32) (b0 : Nat) (T : Mm) (hb0 : kS true b0 = 14) (h : f_X9_obeyFont_56  a1 b0 T = some q) : Jr x ad true U T [(0, .ref (ad 23)), (1, .int a1)] 56 [.ref (ad b0)] := by
  unfold f_X9_obeyFont_56 at h
  refine r_astore_n (lv' := [(2, .ref (ad b0)), (0, .ref (ad 23)), (1, .int a1)]) C dX9_obeyFont_56 rfl (by rw [hn9]; decide) rfl ?_
  refine r_iconst (v := 0) C dX9_obeyFont_57 (by decide) ?_
  refine r_istore_n (lv' := [(3, .int 0), (2, .ref (ad b0)), (0, .ref (ad 23)), (1, .int a1)]) C dX9_obeyFont_58 rfl (by rw [hn9]; decide) rfl ?_
  refine r_aload_n C dX9_obeyFont_59 rfl 2 rfl ?_
  refine r_getr (f := 913) (c := 5) C flX9_82 dX9_obeyFont_60 kq_23 (by decide) rfl h (fun j1 hj2 h => ?_)
  show Jr _ _ _ _ _ _ 63 _
  refine r_geti (f := 504) C flX9_299 dX9_obeyFont_63 hj2 (by decide) (by decide) rfl ?_
  refine r_if_ne (tgt := 85) C dX9_obeyFont_66 (by decide) h (fun h => ?_) (fun h => ?_)
  · refine r_aload_n C dX9_obeyFont_85 rfl 2 rfl ?_
    refine r_getr (f := 913) (c := 5) C flX9_82 dX9_obeyFont_86 kq_23 (by decide) rfl h (fun j3 hj4 h => ?_)
    refine r_geti (f := 504) C flX9_299 dX9_obeyFont_89 hj4 (by decide) (by decide) rfl ?_
    refine r_bipush (v := 115) C dX9_obeyFont_92 (by decide) ?_
    refine r_ic_ne (tgt := 125) C dX9_obeyFont_94 (by decide) h (fun h => ?_) (fun h => ?_)
    · refine Jr.sub [2, 3, 0] (lv' := [(0, .ref (ad 23)), (1, .int a1), (3, .int 0)]) rfl ?_
      exact s_X9_obeyFont_125 hn9 C M  a1 0 T h
    · refine r_aload_n C dX9_obeyFont_97 rfl 2 rfl ?_
      refine r_getr (f := 913) (c := 5) C flX9_82 dX9_obeyFont_98 kq_23 (by decide) rfl h (fun j5 hj6 h => ?_)
      refine r_geti (f := 505) C flX9_327 dX9_obeyFont_101 hj6 (by decide) (by decide) rfl ?_
      refine r_bipush (v := 87) C dX9_obeyFont_104 (by decide) ?_
      refine r_ic_eq (tgt := 125) C dX9_obeyFont_106 (by decide) h (fun h => ?_) (fun h => ?_)
      · refine Jr.sub [2, 3, 0] (lv' := [(0, .ref (ad 23)), (1, .int a1), (3, .int 0)]) rfl ?_
        exact s_X9_obeyFont_125 hn9 C M  a1 0 T h
      · refine r_aload_n C dX9_obeyFont_109 rfl 2 rfl ?_
        refine r_aload_n C dX9_obeyFont_110 rfl 1 rfl ?_
        refine r_aload_n C dX9_obeyFont_111 rfl 2 rfl ?_
        refine r_getr (f := 913) (c := 5) C flX9_82 dX9_obeyFont_112 kq_23 (by decide) rfl h (fun j7 hj8 h => ?_)
        refine r_callVI C M h [] [.ref (ad b0), .ref (ad 23)] mlX9_333 mcX5_n (fun q9 e9 => s_X5_n j7 hj8 e9) hj8 rfl (by decide) (by decide) rfl rfl (Nat.le_of_ble_eq_true rfl) dX9_obeyFont_115 (fun v9 T10 h => ?_)
        show Jr _ _ _ _ _ _ 118 _
        refine r_callVI C M h [.ref (ad b0), .int v9] [] mlX9_396 mcX9_styleField (fun q9 e9 => s_X9_styleField b0 v9 hb0 e9) kq_23 rfl (by decide) (by decide) rfl rfl (Nat.le_of_ble_eq_true rfl) dX9_obeyFont_118 (fun v11 T12 h => ?_)
        refine r_istore_n (lv' := [(3, .int v11), (2, .ref (ad b0)), (0, .ref (ad 23)), (1, .int a1)]) C dX9_obeyFont_121 rfl (by rw [hn9]; decide) rfl ?_
        refine r_goto (tgt := 199) C dX9_obeyFont_122 (by decide) ?_
        refine Jr.sub [2, 0] (lv' := [(0, .ref (ad 23)), (3, .int v11)]) rfl ?_
        exact s_X9_obeyFont_199 hn9 C M  v11 T12 h
  · refine r_aload_n C dX9_obeyFont_69 rfl 2 rfl ?_
    refine r_aload_n C dX9_obeyFont_70 rfl 1 rfl ?_
    refine r_aload_n C dX9_obeyFont_71 rfl 2 rfl ?_
    refine r_getr (f := 913) (c := 5) C flX9_82 dX9_obeyFont_72 kq_23 (by decide) rfl h (fun j13 hj14 h => ?_)
    refine r_callVI C M h [] [.ref (ad b0), .ref (ad 23)] mlX9_333 mcX5_n (fun q9 e9 => s_X5_n j13 hj14 e9) hj14 rfl (by decide) (by decide) rfl rfl (Nat.le_of_ble_eq_true rfl) dX9_obeyFont_75 (fun v15 T16 h => ?_)
    show Jr _ _ _ _ _ _ 78 _
    refine r_callVI C M h [.ref (ad b0), .int v15] [] mlX9_392 mcX9_fontField (fun q9 e9 => s_X9_fontField b0 v15 hb0 e9) kq_23 rfl (by decide) (by decide) rfl rfl (Nat.le_of_ble_eq_true rfl) dX9_obeyFont_78 (fun v17 T18 h => ?_)
    refine r_istore_n (lv' := [(3, .int v17), (2, .ref (ad b0)), (0, .ref (ad 23)), (1, .int a1)]) C dX9_obeyFont_81 rfl (by rw [hn9]; decide) rfl ?_
    refine r_goto (tgt := 199) C dX9_obeyFont_82 (by decide) ?_
    refine Jr.sub [2, 0] (lv' := [(0, .ref (ad 23)), (3, .int v17)]) rfl ?_
    exact s_X9_obeyFont_199 hn9 C M  v17 T18 h
noncomputable def f_X9_obeyFont_35 (a1 : Int32) (T : Mm) : Option (Unit × Mm) :=
  if a1 = 0 then (f_X9_obeyFont_56 a1 53 T)
  else (f_X9_obeyFont_56 a1 52 T)
set_option maxRecDepth 100000 in
set_option maxHeartbeats 4000000 in
theorem s_X9_obeyFont_35 {x : JX} {ad : Nat → Nat} {U : Mm} {S0 : Hp} {q : Unit × Mm}  (hn9 : x_n x = 4) (C : CB x RX9 cX9_obeyFont) (M : CMr x 6 none S0 ad true U eV q) (a1 : Int32) (T : Mm) (h : f_X9_obeyFont_35  a1 T = some q) : Jr x ad true U T [(0, .ref (ad 23)), (1, .int a1)] 35 [] := by
  unfold f_X9_obeyFont_35 at h
  refine r_iload_n C dX9_obeyFont_35 rfl 1 rfl ?_
  refine r_if_eq (tgt := 49) C dX9_obeyFont_36 (by decide) h (fun h => ?_) (fun h => ?_)
  · refine r_aload_n C dX9_obeyFont_49 rfl 0 rfl ?_
    refine r_getp (f := 909) (j := 45) C flX9_57 dX9_obeyFont_50 kq_23 (by decide) rfl (fun W => pt_909 kq_23 W) ?_
    refine r_getp (f := 104) (j := 53) C flX9_389 dX9_obeyFont_53 kq_45 (by decide) rfl (fun W => pt_104 kq_45 W) ?_
    exact s_X9_obeyFont_56 hn9 C M  a1 53 T kq_53 h
  · refine r_aload_n C dX9_obeyFont_39 rfl 0 rfl ?_
    refine r_getp (f := 909) (j := 45) C flX9_57 dX9_obeyFont_40 kq_23 (by decide) rfl (fun W => pt_909 kq_23 W) ?_
    refine r_getp (f := 103) (j := 52) C flX9_386 dX9_obeyFont_43 kq_45 (by decide) rfl (fun W => pt_103 kq_45 W) ?_
    refine r_goto (tgt := 56) C dX9_obeyFont_46 (by decide) ?_
    exact s_X9_obeyFont_56 hn9 C M  a1 52 T kq_52 h
noncomputable def f_X9_obeyFont_17 (b0 : Int32) (T : Mm) : Option (Unit × Mm) :=
  if b0 = 0 then (rf true (gR T 913 23) 5 fun j1 =>
  if (gI T 503 j1) = 41 then (f_X9_obeyFont_35 b0 T)
  else (some ((), T)))
  else (f_X9_obeyFont_35 b0 T)
set_option maxRecDepth 100000 in
set_option maxHeartbeats 4000000 in
theorem s_X9_obeyFont_17 {x : JX} {ad : Nat → Nat} {U : Mm} {S0 : Hp} {q : Unit × Mm}  (hn9 : x_n x = 4) (C : CB x RX9 cX9_obeyFont) (M : CMr x 6 none S0 ad true U eV q) (b0 : Int32) (T : Mm) (h : f_X9_obeyFont_17  b0 T = some q) : Jr x ad true U T [(0, .ref (ad 23))] 17 [.int b0] := by
  unfold f_X9_obeyFont_17 at h
  refine r_istore_n (lv' := [(1, .int b0), (0, .ref (ad 23))]) C dX9_obeyFont_17 rfl (by rw [hn9]; decide) rfl ?_
  refine r_iload_n C dX9_obeyFont_18 rfl 0 rfl ?_
  refine r_if_ne (tgt := 35) C dX9_obeyFont_19 (by decide) h (fun h => ?_) (fun h => ?_)
  · refine Jr.sub [1, 0] (lv' := [(0, .ref (ad 23)), (1, .int b0)]) rfl ?_
    exact s_X9_obeyFont_35 hn9 C M  b0 T h
  · refine r_aload_n C dX9_obeyFont_22 rfl 1 rfl ?_
    refine r_getr (f := 913) (c := 5) C flX9_82 dX9_obeyFont_23 kq_23 (by decide) rfl h (fun j1 hj2 h => ?_)
    refine r_geti (f := 503) C flX9_217 dX9_obeyFont_26 hj2 (by decide) (by decide) rfl ?_
    refine r_bipush (v := 41) C dX9_obeyFont_29 (by decide) ?_
    refine r_ic_eq (tgt := 35) C dX9_obeyFont_31 (by decide) h (fun h => ?_) (fun h => ?_)
    · refine Jr.sub [1, 0] (lv' := [(0, .ref (ad 23)), (1, .int b0)]) rfl ?_
      exact s_X9_obeyFont_35 hn9 C M  b0 T h
    · exact r_vret C M dX9_obeyFont_34 h
noncomputable def f_X9_obeyFont (T : Mm) : Option (Unit × Mm) :=
  rf true (gR T 913 23) 5 fun j1 =>
  if (gI T 503 j1) = 40 then (f_X9_obeyFont_17 1 T)
  else (f_X9_obeyFont_17 0 T)
set_option maxRecDepth 100000 in
set_option maxHeartbeats 4000000 in
theorem s_X9_obeyFont {ad : Nat → Nat} {U T : Mm} {q : Unit × Mm}  (h : f_X9_obeyFont  T = some q) : Cr 6 yX9_obeyFont cX9_obeyFont 4 none [.ref (ad 23)] ad true U T eV q := by
  refine cr_of (by decide) (Nat.le_of_ble_eq_true rfl) fun x S0 hn9 C M => ?_
  have C : CB x RX9 cX9_obeyFont := C
  refine Jr.eq (lv' := [(0, .ref (ad 23))]) (st' := []) rfl rfl ?_
  unfold f_X9_obeyFont at h
  refine r_aload_n C dX9_obeyFont_0 rfl 0 rfl ?_
  refine r_getr (f := 913) (c := 5) C flX9_82 dX9_obeyFont_1 kq_23 (by decide) rfl h (fun j1 hj2 h => ?_)
  refine r_geti (f := 503) C flX9_217 dX9_obeyFont_4 hj2 (by decide) (by decide) rfl ?_
  refine r_bipush (v := 40) C dX9_obeyFont_7 (by decide) ?_
  refine r_ic_ne (tgt := 16) C dX9_obeyFont_9 (by decide) h (fun h => ?_) (fun h => ?_)
  · refine r_iconst (v := 0) C dX9_obeyFont_16 (by decide) ?_
    exact s_X9_obeyFont_17 hn9 C M  0 T h
  · refine r_iconst (v := 1) C dX9_obeyFont_12 (by decide) ?_
    refine r_goto (tgt := 17) C dX9_obeyFont_13 (by decide) ?_
    exact s_X9_obeyFont_17 hn9 C M  1 T h
theorem dX9_obey_0 : decode cX9_obey 0 = .ok (.aload_n 0, 1) := by decide +kernel
theorem dX9_obey_1 : decode cX9_obey 1 = .ok (.getfield 82, 3) := by decide +kernel
theorem dX9_obey_4 : decode cX9_obey 4 = .ok (.getfield 217, 3) := by decide +kernel
theorem dX9_obey_7 : decode cX9_obey 7 = .ok (.bipush 8, 2) := by decide +kernel
theorem dX9_obey_9 : decode cX9_obey 9 = .ok (.ishl, 1) := by decide +kernel
theorem dX9_obey_10 : decode cX9_obey 10 = .ok (.aload_n 0, 1) := by decide +kernel
theorem dX9_obey_11 : decode cX9_obey 11 = .ok (.getfield 82, 3) := by decide +kernel
theorem dX9_obey_14 : decode cX9_obey 14 = .ok (.getfield 299, 3) := by decide +kernel
theorem dX9_obey_17 : decode cX9_obey 17 = .ok (.ior, 1) := by decide +kernel
theorem dX9_obey_18 : decode cX9_obey 18 = .ok (.lookupswitch 272 #[(9825, 120), (9830, 162), (9835, 134), (9836, 106), (9840, 176), (9843, 148), (10850, 258), (10851, 202), (10864, 195), (10866, 244), (10868, 230), (10870, 216)], 106) := by decide +kernel
theorem dX9_obey_124 : decode cX9_obey 124 = .ok (.aload_n 0, 1) := by decide +kernel
theorem dX9_obey_125 : decode cX9_obey 125 = .ok (.aload_n 0, 1) := by decide +kernel
theorem dX9_obey_126 : decode cX9_obey 126 = .ok (.getfield 82, 3) := by decide +kernel
theorem dX9_obey_129 : decode cX9_obey 129 = .ok (.invokevirtual 333, 3) := by decide +kernel
theorem dX9_obey_132 : decode cX9_obey 132 = .ok (.invokevirtual 347, 3) := by decide +kernel
theorem dX9_obey_135 : decode cX9_obey 135 = .ok (.goto 159, 3) := by decide +kernel
theorem dX9_obey_138 : decode cX9_obey 138 = .ok (.aload_n 0, 1) := by decide +kernel
theorem dX9_obey_139 : decode cX9_obey 139 = .ok (.aload_n 0, 1) := by decide +kernel
theorem dX9_obey_140 : decode cX9_obey 140 = .ok (.getfield 82, 3) := by decide +kernel
theorem dX9_obey_143 : decode cX9_obey 143 = .ok (.invokevirtual 333, 3) := by decide +kernel
theorem dX9_obey_146 : decode cX9_obey 146 = .ok (.invokevirtual 350, 3) := by decide +kernel
theorem dX9_obey_149 : decode cX9_obey 149 = .ok (.goto 145, 3) := by decide +kernel
theorem dX9_obey_152 : decode cX9_obey 152 = .ok (.aload_n 0, 1) := by decide +kernel
theorem dX9_obey_153 : decode cX9_obey 153 = .ok (.aload_n 0, 1) := by decide +kernel
theorem dX9_obey_154 : decode cX9_obey 154 = .ok (.getfield 82, 3) := by decide +kernel
theorem dX9_obey_157 : decode cX9_obey 157 = .ok (.invokevirtual 333, 3) := by decide +kernel
theorem dX9_obey_160 : decode cX9_obey 160 = .ok (.invokevirtual 353, 3) := by decide +kernel
theorem dX9_obey_163 : decode cX9_obey 163 = .ok (.goto 131, 3) := by decide +kernel
theorem dX9_obey_166 : decode cX9_obey 166 = .ok (.aload_n 0, 1) := by decide +kernel
theorem dX9_obey_167 : decode cX9_obey 167 = .ok (.aload_n 0, 1) := by decide +kernel
theorem dX9_obey_168 : decode cX9_obey 168 = .ok (.getfield 82, 3) := by decide +kernel
theorem dX9_obey_171 : decode cX9_obey 171 = .ok (.invokevirtual 333, 3) := by decide +kernel
theorem dX9_obey_174 : decode cX9_obey 174 = .ok (.invokevirtual 356, 3) := by decide +kernel
theorem dX9_obey_177 : decode cX9_obey 177 = .ok (.goto 117, 3) := by decide +kernel
theorem dX9_obey_180 : decode cX9_obey 180 = .ok (.aload_n 0, 1) := by decide +kernel
theorem dX9_obey_181 : decode cX9_obey 181 = .ok (.aload_n 0, 1) := by decide +kernel
theorem dX9_obey_182 : decode cX9_obey 182 = .ok (.getfield 82, 3) := by decide +kernel
theorem dX9_obey_185 : decode cX9_obey 185 = .ok (.invokevirtual 333, 3) := by decide +kernel
theorem dX9_obey_188 : decode cX9_obey 188 = .ok (.invokevirtual 359, 3) := by decide +kernel
theorem dX9_obey_191 : decode cX9_obey 191 = .ok (.goto 103, 3) := by decide +kernel
theorem dX9_obey_194 : decode cX9_obey 194 = .ok (.aload_n 0, 1) := by decide +kernel
theorem dX9_obey_195 : decode cX9_obey 195 = .ok (.getfield 82, 3) := by decide +kernel
theorem dX9_obey_198 : decode cX9_obey 198 = .ok (.getfield 327, 3) := by decide +kernel
theorem dX9_obey_201 : decode cX9_obey 201 = .ok (.bipush 88, 2) := by decide +kernel
theorem dX9_obey_203 : decode cX9_obey 203 = .ok (.if_icmp .ne 91, 3) := by decide +kernel
theorem dX9_obey_206 : decode cX9_obey 206 = .ok (.aload_n 0, 1) := by decide +kernel
theorem dX9_obey_207 : decode cX9_obey 207 = .ok (.invokevirtual 362, 3) := by decide +kernel
theorem dX9_obey_210 : decode cX9_obey 210 = .ok (.goto 84, 3) := by decide +kernel
theorem dX9_obey_213 : decode cX9_obey 213 = .ok (.aload_n 0, 1) := by decide +kernel
theorem dX9_obey_214 : decode cX9_obey 214 = .ok (.invokevirtual 365, 3) := by decide +kernel
theorem dX9_obey_217 : decode cX9_obey 217 = .ok (.goto 77, 3) := by decide +kernel
theorem dX9_obey_220 : decode cX9_obey 220 = .ok (.aload_n 0, 1) := by decide +kernel
theorem dX9_obey_221 : decode cX9_obey 221 = .ok (.aload_n 0, 1) := by decide +kernel
theorem dX9_obey_222 : decode cX9_obey 222 = .ok (.getfield 82, 3) := by decide +kernel
theorem dX9_obey_225 : decode cX9_obey 225 = .ok (.invokevirtual 333, 3) := by decide +kernel
theorem dX9_obey_228 : decode cX9_obey 228 = .ok (.invokevirtual 368, 3) := by decide +kernel
theorem dX9_obey_231 : decode cX9_obey 231 = .ok (.goto 63, 3) := by decide +kernel
theorem dX9_obey_234 : decode cX9_obey 234 = .ok (.aload_n 0, 1) := by decide +kernel
theorem dX9_obey_235 : decode cX9_obey 235 = .ok (.aload_n 0, 1) := by decide +kernel
theorem dX9_obey_236 : decode cX9_obey 236 = .ok (.getfield 82, 3) := by decide +kernel
theorem dX9_obey_239 : decode cX9_obey 239 = .ok (.invokevirtual 333, 3) := by decide +kernel
theorem dX9_obey_242 : decode cX9_obey 242 = .ok (.invokevirtual 371, 3) := by decide +kernel
theorem dX9_obey_245 : decode cX9_obey 245 = .ok (.goto 49, 3) := by decide +kernel
theorem dX9_obey_248 : decode cX9_obey 248 = .ok (.aload_n 0, 1) := by decide +kernel
theorem dX9_obey_249 : decode cX9_obey 249 = .ok (.aload_n 0, 1) := by decide +kernel
theorem dX9_obey_250 : decode cX9_obey 250 = .ok (.getfield 82, 3) := by decide +kernel
theorem dX9_obey_253 : decode cX9_obey 253 = .ok (.invokevirtual 333, 3) := by decide +kernel
theorem dX9_obey_256 : decode cX9_obey 256 = .ok (.invokevirtual 374, 3) := by decide +kernel
theorem dX9_obey_259 : decode cX9_obey 259 = .ok (.goto 35, 3) := by decide +kernel
theorem dX9_obey_262 : decode cX9_obey 262 = .ok (.aload_n 0, 1) := by decide +kernel
theorem dX9_obey_263 : decode cX9_obey 263 = .ok (.aload_n 0, 1) := by decide +kernel
theorem dX9_obey_264 : decode cX9_obey 264 = .ok (.getfield 82, 3) := by decide +kernel
theorem dX9_obey_267 : decode cX9_obey 267 = .ok (.invokevirtual 333, 3) := by decide +kernel
theorem dX9_obey_270 : decode cX9_obey 270 = .ok (.invokevirtual 377, 3) := by decide +kernel
theorem dX9_obey_273 : decode cX9_obey 273 = .ok (.goto 21, 3) := by decide +kernel
theorem dX9_obey_276 : decode cX9_obey 276 = .ok (.aload_n 0, 1) := by decide +kernel
theorem dX9_obey_277 : decode cX9_obey 277 = .ok (.aload_n 0, 1) := by decide +kernel
theorem dX9_obey_278 : decode cX9_obey 278 = .ok (.getfield 82, 3) := by decide +kernel
theorem dX9_obey_281 : decode cX9_obey 281 = .ok (.invokevirtual 333, 3) := by decide +kernel
theorem dX9_obey_284 : decode cX9_obey 284 = .ok (.invokevirtual 380, 3) := by decide +kernel
theorem dX9_obey_287 : decode cX9_obey 287 = .ok (.goto 7, 3) := by decide +kernel
theorem dX9_obey_290 : decode cX9_obey 290 = .ok (.aload_n 0, 1) := by decide +kernel
theorem dX9_obey_291 : decode cX9_obey 291 = .ok (.invokevirtual 383, 3) := by decide +kernel
theorem dX9_obey_294 : decode cX9_obey 294 = .ok (.return_, 1) := by decide +kernel
noncomputable def f_X9_obey (G : Int32 → Mm → Option (Unit × Mm)) (T : Mm) : Option (Unit × Mm) :=
  rf true (gR T 913 23) 5 fun j1 =>
  rf true (gR T 913 23) 5 fun j3 =>
  lb ((((gI T 503 j1) <<< ((8 : Int32) &&& 31)) ||| (gI T 504 j3))) fun v5 =>
  if v5 = 9825 then (rf true (gR T 913 23) 5 fun j7 =>
  bd (f_X5_n j7 T) fun v9 T10 =>
  bd (f_X9_placeField v9 T10) fun _ T11 =>
  some ((), T11))
  else if v5 = 9830 then (rf true (gR T 913 23) 5 fun j13 =>
  bd (f_X5_n j13 T) fun v15 T16 =>
  bd (f_X9_macroField G v15 T16) fun _ T17 =>
  some ((), T17))
  else if v5 = 9835 then (rf true (gR T 913 23) 5 fun j19 =>
  bd (f_X5_n j19 T) fun v21 T22 =>
  bd (f_X9_spaceField v21 T22) fun _ T23 =>
  some ((), T23))
  else if v5 = 9836 then (rf true (gR T 913 23) 5 fun j25 =>
  bd (f_X5_n j25 T) fun v27 T28 =>
  bd (f_X9_pageField G v27 T28) fun _ T29 =>
  some ((), T29))
  else if v5 = 9840 then (rf true (gR T 913 23) 5 fun j31 =>
  if (gI T 505 j31) = 88 then (bd (f_X9_showData G T) fun _ T33 =>
  some ((), T33))
  else (some ((), T)))
  else if v5 = 9843 then (rf true (gR T 913 23) 5 fun j35 =>
  bd (f_X5_n j35 T) fun v37 T38 =>
  bd (f_X9_wrapField v37 T38) fun _ T39 =>
  some ((), T39))
  else if v5 = 10850 then (rf true (gR T 913 23) 5 fun j41 =>
  bd (f_X5_n j41 T) fun v43 T44 =>
  bd (f_X9_rowField v43 T44) fun _ T45 =>
  some ((), T45))
  else if v5 = 10851 then (rf true (gR T 913 23) 5 fun j47 =>
  bd (f_X5_n j47 T) fun v49 T50 =>
  bd (f_X9_controlField v49 T50) fun _ T51 =>
  some ((), T51))
  else if v5 = 10864 then (bd (f_X9_dotPlaceField T) fun _ T53 =>
  some ((), T53))
  else if v5 = 10866 then (rf true (gR T 913 23) 5 fun j55 =>
  bd (f_X5_n j55 T) fun v57 T58 =>
  bd (f_X9_rasterField v57 T58) fun _ T59 =>
  some ((), T59))
  else if v5 = 10868 then (rf true (gR T 913 23) 5 fun j61 =>
  bd (f_X5_n j61 T) fun v63 T64 =>
  bd (f_X9_scaleField v63 T64) fun _ T65 =>
  some ((), T65))
  else if v5 = 10870 then (rf true (gR T 913 23) 5 fun j67 =>
  bd (f_X5_n j67 T) fun v69 T70 =>
  bd (f_X9_inkField v69 T70) fun _ T71 =>
  some ((), T71))
  else (bd (f_X9_obeyFont T) fun _ T72 =>
  some ((), T72))
set_option maxRecDepth 100000 in
set_option maxHeartbeats 4000000 in
theorem s_X9_obey {ad : Nat → Nat} {U T : Mm} {q : Unit × Mm} {D : Nat} {G : Int32 → Mm → Option (Unit × Mm)}  (hD : 40 ≤ D) (hG : ∀ (i : Int32) (T : Mm) (q : Unit × Mm), G i T = some q → Cr D yX9_goMacro cX9_goMacro 3 none [.ref (ad 23), .int i] ad true U T eV q) (h : f_X9_obey G  T = some q) : Cr (D + 6) yX9_obey cX9_obey 1 none [.ref (ad 23)] ad true U T eV q := by
  refine cr_of (by decide) (Nat.le_of_ble_eq_true rfl) fun x S0 hn9 C M => ?_
  have C : CB x RX9 cX9_obey := C
  refine Jr.eq (lv' := [(0, .ref (ad 23))]) (st' := []) rfl rfl ?_
  unfold f_X9_obey at h
  refine r_aload_n C dX9_obey_0 rfl 0 rfl ?_
  refine r_getr (f := 913) (c := 5) C flX9_82 dX9_obey_1 kq_23 (by decide) rfl h (fun j1 hj2 h => ?_)
  refine r_geti (f := 503) C flX9_217 dX9_obey_4 hj2 (by decide) (by decide) rfl ?_
  refine r_bipush (v := 8) C dX9_obey_7 (by decide) ?_
  refine r_ishl C dX9_obey_9 rfl ?_
  show Jr _ _ _ _ _ _ 10 _
  refine r_aload_n C dX9_obey_10 rfl 0 rfl ?_
  refine r_getr (f := 913) (c := 5) C flX9_82 dX9_obey_11 kq_23 (by decide) rfl h (fun j3 hj4 h => ?_)
  refine r_geti (f := 504) C flX9_299 dX9_obey_14 hj4 (by decide) (by decide) rfl ?_
  refine r_ior C dX9_obey_17 rfl ?_
  refine r_lbI h (fun v5 h => ?_)
  by_cases hs6 : v5 = 9825
  · rw [if_pos hs6] at h
    refine r_top hs6 ?_
    refine r_look (off := 120) (tgt := 138) C dX9_obey_18 (by decide) (by decide) (by decide) ?_
    refine r_aload_n C dX9_obey_138 rfl 0 rfl ?_
    refine r_aload_n C dX9_obey_139 rfl 0 rfl ?_
    refine r_getr (f := 913) (c := 5) C flX9_82 dX9_obey_140 kq_23 (by decide) rfl h (fun j7 hj8 h => ?_)
    refine r_callVI C M h [] [.ref (ad 23)] mlX9_333 mcX5_n (fun q9 e9 => s_X5_n j7 hj8 e9) hj8 rfl (by omega) (by decide) rfl rfl (Nat.le_of_ble_eq_true rfl) dX9_obey_143 (fun v9 T10 h => ?_)
    refine r_callVN C M h [.int v9] [] mlX9_350 mcX9_placeField (fun q9 e9 => s_X9_placeField v9  e9) kq_23 rfl (by omega) (by decide) rfl rfl (Nat.le_of_ble_eq_true rfl) dX9_obey_146 (fun _ T11 h => ?_)
    show Jr _ _ _ _ _ _ 149 _
    refine r_goto (tgt := 294) C dX9_obey_149 (by decide) ?_
    exact r_vret C M dX9_obey_294 h
  rw [if_neg hs6] at h
  by_cases hs12 : v5 = 9830
  · rw [if_pos hs12] at h
    refine r_top hs12 ?_
    refine r_look (off := 162) (tgt := 180) C dX9_obey_18 (by decide) (by decide) (by decide) ?_
    refine r_aload_n C dX9_obey_180 rfl 0 rfl ?_
    refine r_aload_n C dX9_obey_181 rfl 0 rfl ?_
    refine r_getr (f := 913) (c := 5) C flX9_82 dX9_obey_182 kq_23 (by decide) rfl h (fun j13 hj14 h => ?_)
    refine r_callVI C M h [] [.ref (ad 23)] mlX9_333 mcX5_n (fun q9 e9 => s_X5_n j13 hj14 e9) hj14 rfl (by omega) (by decide) rfl rfl (Nat.le_of_ble_eq_true rfl) dX9_obey_185 (fun v15 T16 h => ?_)
    refine r_callVN C M h [.int v15] [] mlX9_359 mcX9_macroField (fun q9 e9 => s_X9_macroField hD (fun i9 T9 q9 e9 => hG i9 T9 q9 e9) v15  e9) kq_23 rfl (by omega) (by decide) rfl rfl (Nat.le_of_ble_eq_true rfl) dX9_obey_188 (fun _ T17 h => ?_)
    show Jr _ _ _ _ _ _ 191 _
    refine r_goto (tgt := 294) C dX9_obey_191 (by decide) ?_
    exact r_vret C M dX9_obey_294 h
  rw [if_neg hs12] at h
  by_cases hs18 : v5 = 9835
  · rw [if_pos hs18] at h
    refine r_top hs18 ?_
    refine r_look (off := 134) (tgt := 152) C dX9_obey_18 (by decide) (by decide) (by decide) ?_
    refine r_aload_n C dX9_obey_152 rfl 0 rfl ?_
    refine r_aload_n C dX9_obey_153 rfl 0 rfl ?_
    refine r_getr (f := 913) (c := 5) C flX9_82 dX9_obey_154 kq_23 (by decide) rfl h (fun j19 hj20 h => ?_)
    refine r_callVI C M h [] [.ref (ad 23)] mlX9_333 mcX5_n (fun q9 e9 => s_X5_n j19 hj20 e9) hj20 rfl (by omega) (by decide) rfl rfl (Nat.le_of_ble_eq_true rfl) dX9_obey_157 (fun v21 T22 h => ?_)
    refine r_callVN C M h [.int v21] [] mlX9_353 mcX9_spaceField (fun q9 e9 => s_X9_spaceField v21  e9) kq_23 rfl (by omega) (by decide) rfl rfl (Nat.le_of_ble_eq_true rfl) dX9_obey_160 (fun _ T23 h => ?_)
    show Jr _ _ _ _ _ _ 163 _
    refine r_goto (tgt := 294) C dX9_obey_163 (by decide) ?_
    exact r_vret C M dX9_obey_294 h
  rw [if_neg hs18] at h
  by_cases hs24 : v5 = 9836
  · rw [if_pos hs24] at h
    refine r_top hs24 ?_
    refine r_look (off := 106) (tgt := 124) C dX9_obey_18 (by decide) (by decide) (by decide) ?_
    refine r_aload_n C dX9_obey_124 rfl 0 rfl ?_
    refine r_aload_n C dX9_obey_125 rfl 0 rfl ?_
    refine r_getr (f := 913) (c := 5) C flX9_82 dX9_obey_126 kq_23 (by decide) rfl h (fun j25 hj26 h => ?_)
    refine r_callVI C M h [] [.ref (ad 23)] mlX9_333 mcX5_n (fun q9 e9 => s_X5_n j25 hj26 e9) hj26 rfl (by omega) (by decide) rfl rfl (Nat.le_of_ble_eq_true rfl) dX9_obey_129 (fun v27 T28 h => ?_)
    refine r_callVN C M h [.int v27] [] mlX9_347 mcX9_pageField (fun q9 e9 => s_X9_pageField hD (fun i9 T9 q9 e9 => hG i9 T9 q9 e9) v27  e9) kq_23 rfl (by omega) (by decide) rfl rfl (Nat.le_of_ble_eq_true rfl) dX9_obey_132 (fun _ T29 h => ?_)
    show Jr _ _ _ _ _ _ 135 _
    refine r_goto (tgt := 294) C dX9_obey_135 (by decide) ?_
    exact r_vret C M dX9_obey_294 h
  rw [if_neg hs24] at h
  by_cases hs30 : v5 = 9840
  · rw [if_pos hs30] at h
    refine r_top hs30 ?_
    refine r_look (off := 176) (tgt := 194) C dX9_obey_18 (by decide) (by decide) (by decide) ?_
    refine r_aload_n C dX9_obey_194 rfl 0 rfl ?_
    refine r_getr (f := 913) (c := 5) C flX9_82 dX9_obey_195 kq_23 (by decide) rfl h (fun j31 hj32 h => ?_)
    refine r_geti (f := 505) C flX9_327 dX9_obey_198 hj32 (by decide) (by decide) rfl ?_
    refine r_bipush (v := 88) C dX9_obey_201 (by decide) ?_
    refine r_ic_ne (tgt := 294) C dX9_obey_203 (by decide) h (fun h => ?_) (fun h => ?_)
    · exact r_vret C M dX9_obey_294 h
    · refine r_aload_n C dX9_obey_206 rfl 0 rfl ?_
      refine r_callVN C M h [] [] mlX9_362 mcX9_showData (fun q9 e9 => s_X9_showData hD (fun i9 T9 q9 e9 => hG i9 T9 q9 e9)   e9) kq_23 rfl (by omega) (by decide) rfl rfl (Nat.le_of_ble_eq_true rfl) dX9_obey_207 (fun _ T33 h => ?_)
      refine r_goto (tgt := 294) C dX9_obey_210 (by decide) ?_
      exact r_vret C M dX9_obey_294 h
  rw [if_neg hs30] at h
  by_cases hs34 : v5 = 9843
  · rw [if_pos hs34] at h
    refine r_top hs34 ?_
    refine r_look (off := 148) (tgt := 166) C dX9_obey_18 (by decide) (by decide) (by decide) ?_
    refine r_aload_n C dX9_obey_166 rfl 0 rfl ?_
    refine r_aload_n C dX9_obey_167 rfl 0 rfl ?_
    refine r_getr (f := 913) (c := 5) C flX9_82 dX9_obey_168 kq_23 (by decide) rfl h (fun j35 hj36 h => ?_)
    refine r_callVI C M h [] [.ref (ad 23)] mlX9_333 mcX5_n (fun q9 e9 => s_X5_n j35 hj36 e9) hj36 rfl (by omega) (by decide) rfl rfl (Nat.le_of_ble_eq_true rfl) dX9_obey_171 (fun v37 T38 h => ?_)
    refine r_callVN C M h [.int v37] [] mlX9_356 mcX9_wrapField (fun q9 e9 => s_X9_wrapField v37  e9) kq_23 rfl (by omega) (by decide) rfl rfl (Nat.le_of_ble_eq_true rfl) dX9_obey_174 (fun _ T39 h => ?_)
    show Jr _ _ _ _ _ _ 177 _
    refine r_goto (tgt := 294) C dX9_obey_177 (by decide) ?_
    exact r_vret C M dX9_obey_294 h
  rw [if_neg hs34] at h
  by_cases hs40 : v5 = 10850
  · rw [if_pos hs40] at h
    refine r_top hs40 ?_
    refine r_look (off := 258) (tgt := 276) C dX9_obey_18 (by decide) (by decide) (by decide) ?_
    refine r_aload_n C dX9_obey_276 rfl 0 rfl ?_
    refine r_aload_n C dX9_obey_277 rfl 0 rfl ?_
    refine r_getr (f := 913) (c := 5) C flX9_82 dX9_obey_278 kq_23 (by decide) rfl h (fun j41 hj42 h => ?_)
    refine r_callVI C M h [] [.ref (ad 23)] mlX9_333 mcX5_n (fun q9 e9 => s_X5_n j41 hj42 e9) hj42 rfl (by omega) (by decide) rfl rfl (Nat.le_of_ble_eq_true rfl) dX9_obey_281 (fun v43 T44 h => ?_)
    refine r_callVN C M h [.int v43] [] mlX9_380 mcX9_rowField (fun q9 e9 => s_X9_rowField v43  e9) kq_23 rfl (by omega) (by decide) rfl rfl (Nat.le_of_ble_eq_true rfl) dX9_obey_284 (fun _ T45 h => ?_)
    show Jr _ _ _ _ _ _ 287 _
    refine r_goto (tgt := 294) C dX9_obey_287 (by decide) ?_
    exact r_vret C M dX9_obey_294 h
  rw [if_neg hs40] at h
  by_cases hs46 : v5 = 10851
  · rw [if_pos hs46] at h
    refine r_top hs46 ?_
    refine r_look (off := 202) (tgt := 220) C dX9_obey_18 (by decide) (by decide) (by decide) ?_
    refine r_aload_n C dX9_obey_220 rfl 0 rfl ?_
    refine r_aload_n C dX9_obey_221 rfl 0 rfl ?_
    refine r_getr (f := 913) (c := 5) C flX9_82 dX9_obey_222 kq_23 (by decide) rfl h (fun j47 hj48 h => ?_)
    refine r_callVI C M h [] [.ref (ad 23)] mlX9_333 mcX5_n (fun q9 e9 => s_X5_n j47 hj48 e9) hj48 rfl (by omega) (by decide) rfl rfl (Nat.le_of_ble_eq_true rfl) dX9_obey_225 (fun v49 T50 h => ?_)
    refine r_callVN C M h [.int v49] [] mlX9_368 mcX9_controlField (fun q9 e9 => s_X9_controlField v49  e9) kq_23 rfl (by omega) (by decide) rfl rfl (Nat.le_of_ble_eq_true rfl) dX9_obey_228 (fun _ T51 h => ?_)
    show Jr _ _ _ _ _ _ 231 _
    refine r_goto (tgt := 294) C dX9_obey_231 (by decide) ?_
    exact r_vret C M dX9_obey_294 h
  rw [if_neg hs46] at h
  by_cases hs52 : v5 = 10864
  · rw [if_pos hs52] at h
    refine r_top hs52 ?_
    refine r_look (off := 195) (tgt := 213) C dX9_obey_18 (by decide) (by decide) (by decide) ?_
    refine r_aload_n C dX9_obey_213 rfl 0 rfl ?_
    refine r_callVN C M h [] [] mlX9_365 mcX9_dotPlaceField (fun q9 e9 => s_X9_dotPlaceField   e9) kq_23 rfl (by omega) (by decide) rfl rfl (Nat.le_of_ble_eq_true rfl) dX9_obey_214 (fun _ T53 h => ?_)
    refine r_goto (tgt := 294) C dX9_obey_217 (by decide) ?_
    exact r_vret C M dX9_obey_294 h
  rw [if_neg hs52] at h
  by_cases hs54 : v5 = 10866
  · rw [if_pos hs54] at h
    refine r_top hs54 ?_
    refine r_look (off := 244) (tgt := 262) C dX9_obey_18 (by decide) (by decide) (by decide) ?_
    refine r_aload_n C dX9_obey_262 rfl 0 rfl ?_
    refine r_aload_n C dX9_obey_263 rfl 0 rfl ?_
    refine r_getr (f := 913) (c := 5) C flX9_82 dX9_obey_264 kq_23 (by decide) rfl h (fun j55 hj56 h => ?_)
    refine r_callVI C M h [] [.ref (ad 23)] mlX9_333 mcX5_n (fun q9 e9 => s_X5_n j55 hj56 e9) hj56 rfl (by omega) (by decide) rfl rfl (Nat.le_of_ble_eq_true rfl) dX9_obey_267 (fun v57 T58 h => ?_)
    refine r_callVN C M h [.int v57] [] mlX9_377 mcX9_rasterField (fun q9 e9 => s_X9_rasterField v57  e9) kq_23 rfl (by omega) (by decide) rfl rfl (Nat.le_of_ble_eq_true rfl) dX9_obey_270 (fun _ T59 h => ?_)
    show Jr _ _ _ _ _ _ 273 _
    refine r_goto (tgt := 294) C dX9_obey_273 (by decide) ?_
    exact r_vret C M dX9_obey_294 h
  rw [if_neg hs54] at h
  by_cases hs60 : v5 = 10868
  · rw [if_pos hs60] at h
    refine r_top hs60 ?_
    refine r_look (off := 230) (tgt := 248) C dX9_obey_18 (by decide) (by decide) (by decide) ?_
    refine r_aload_n C dX9_obey_248 rfl 0 rfl ?_
    refine r_aload_n C dX9_obey_249 rfl 0 rfl ?_
    refine r_getr (f := 913) (c := 5) C flX9_82 dX9_obey_250 kq_23 (by decide) rfl h (fun j61 hj62 h => ?_)
    refine r_callVI C M h [] [.ref (ad 23)] mlX9_333 mcX5_n (fun q9 e9 => s_X5_n j61 hj62 e9) hj62 rfl (by omega) (by decide) rfl rfl (Nat.le_of_ble_eq_true rfl) dX9_obey_253 (fun v63 T64 h => ?_)
    refine r_callVN C M h [.int v63] [] mlX9_374 mcX9_scaleField (fun q9 e9 => s_X9_scaleField v63  e9) kq_23 rfl (by omega) (by decide) rfl rfl (Nat.le_of_ble_eq_true rfl) dX9_obey_256 (fun _ T65 h => ?_)
    show Jr _ _ _ _ _ _ 259 _
    refine r_goto (tgt := 294) C dX9_obey_259 (by decide) ?_
    exact r_vret C M dX9_obey_294 h
  rw [if_neg hs60] at h
  by_cases hs66 : v5 = 10870
  · rw [if_pos hs66] at h
    refine r_top hs66 ?_
    refine r_look (off := 216) (tgt := 234) C dX9_obey_18 (by decide) (by decide) (by decide) ?_
    refine r_aload_n C dX9_obey_234 rfl 0 rfl ?_
    refine r_aload_n C dX9_obey_235 rfl 0 rfl ?_
    refine r_getr (f := 913) (c := 5) C flX9_82 dX9_obey_236 kq_23 (by decide) rfl h (fun j67 hj68 h => ?_)
    refine r_callVI C M h [] [.ref (ad 23)] mlX9_333 mcX5_n (fun q9 e9 => s_X5_n j67 hj68 e9) hj68 rfl (by omega) (by decide) rfl rfl (Nat.le_of_ble_eq_true rfl) dX9_obey_239 (fun v69 T70 h => ?_)
    refine r_callVN C M h [.int v69] [] mlX9_371 mcX9_inkField (fun q9 e9 => s_X9_inkField v69  e9) kq_23 rfl (by omega) (by decide) rfl rfl (Nat.le_of_ble_eq_true rfl) dX9_obey_242 (fun _ T71 h => ?_)
    show Jr _ _ _ _ _ _ 245 _
    refine r_goto (tgt := 294) C dX9_obey_245 (by decide) ?_
    exact r_vret C M dX9_obey_294 h
  rw [if_neg hs66] at h
  refine r_look (tgt := 290) (off := 272) C dX9_obey_18 (by decide) (by rw [lv_osw hs6 (by decide), lv_osw hs12 (by decide), lv_osw hs18 (by decide), lv_osw hs24 (by decide), lv_osw hs30 (by decide), lv_osw hs34 (by decide), lv_osw hs40 (by decide), lv_osw hs46 (by decide), lv_osw hs52 (by decide), lv_osw hs54 (by decide), lv_osw hs60 (by decide), lv_osw hs66 (by decide)]; rfl) (by decide) ?_
  refine r_aload_n C dX9_obey_290 rfl 0 rfl ?_
  refine r_callVN C M h [] [] mlX9_383 mcX9_obeyFont (fun q9 e9 => s_X9_obeyFont   e9) kq_23 rfl (by omega) (by decide) rfl rfl (Nat.le_of_ble_eq_true rfl) dX9_obey_291 (fun _ T72 h => ?_)
  exact r_vret C M dX9_obey_294 h
theorem dX9_goThrough_0 : decode cX9_goThrough 0 = .ok (.aload_n 0, 1) := by decide +kernel
theorem dX9_goThrough_1 : decode cX9_goThrough 1 = .ok (.getfield 108, 3) := by decide +kernel
theorem dX9_goThrough_4 : decode cX9_goThrough 4 = .ok (.ifCond .lt 27, 3) := by decide +kernel
theorem dX9_goThrough_7 : decode cX9_goThrough 7 = .ok (.aload_n 0, 1) := by decide +kernel
theorem dX9_goThrough_8 : decode cX9_goThrough 8 = .ok (.getfield 108, 3) := by decide +kernel
theorem dX9_goThrough_11 : decode cX9_goThrough 11 = .ok (.aload_n 0, 1) := by decide +kernel
theorem dX9_goThrough_12 : decode cX9_goThrough 12 = .ok (.getfield 70, 3) := by decide +kernel
theorem dX9_goThrough_15 : decode cX9_goThrough 15 = .ok (.arraylength, 1) := by decide +kernel
theorem dX9_goThrough_16 : decode cX9_goThrough 16 = .ok (.if_icmp .ge 15, 3) := by decide +kernel
theorem dX9_goThrough_19 : decode cX9_goThrough 19 = .ok (.aload_n 0, 1) := by decide +kernel
theorem dX9_goThrough_20 : decode cX9_goThrough 20 = .ok (.getfield 70, 3) := by decide +kernel
theorem dX9_goThrough_23 : decode cX9_goThrough 23 = .ok (.aload_n 0, 1) := by decide +kernel
theorem dX9_goThrough_24 : decode cX9_goThrough 24 = .ok (.getfield 108, 3) := by decide +kernel
theorem dX9_goThrough_27 : decode cX9_goThrough 27 = .ok (.aaload, 1) := by decide +kernel
theorem dX9_goThrough_28 : decode cX9_goThrough 28 = .ok (.ifnonnull 4, 3) := by decide +kernel
theorem dX9_goThrough_31 : decode cX9_goThrough 31 = .ok (.return_, 1) := by decide +kernel
theorem dX9_goThrough_32 : decode cX9_goThrough 32 = .ok (.aload_n 0, 1) := by decide +kernel
theorem dX9_goThrough_33 : decode cX9_goThrough 33 = .ok (.getfield 70, 3) := by decide +kernel
theorem dX9_goThrough_36 : decode cX9_goThrough 36 = .ok (.aload_n 0, 1) := by decide +kernel
theorem dX9_goThrough_37 : decode cX9_goThrough 37 = .ok (.getfield 108, 3) := by decide +kernel
theorem dX9_goThrough_40 : decode cX9_goThrough 40 = .ok (.aaload, 1) := by decide +kernel
theorem dX9_goThrough_41 : decode cX9_goThrough 41 = .ok (.astore 4, 2) := by decide +kernel
theorem dX9_goThrough_43 : decode cX9_goThrough 43 = .ok (.aload 4, 2) := by decide +kernel
theorem dX9_goThrough_45 : decode cX9_goThrough 45 = .ok (.aload_n 1, 1) := by decide +kernel
theorem dX9_goThrough_46 : decode cX9_goThrough 46 = .ok (.iload_n 2, 1) := by decide +kernel
theorem dX9_goThrough_47 : decode cX9_goThrough 47 = .ok (.iload_n 3, 1) := by decide +kernel
theorem dX9_goThrough_48 : decode cX9_goThrough 48 = .ok (.invokevirtual 207, 3) := by decide +kernel
theorem dX9_goThrough_51 : decode cX9_goThrough 51 = .ok (.aload_n 0, 1) := by decide +kernel
theorem dX9_goThrough_52 : decode cX9_goThrough 52 = .ok (.aload 4, 2) := by decide +kernel
theorem dX9_goThrough_54 : decode cX9_goThrough 54 = .ok (.putfield 82, 3) := by decide +kernel
theorem dX9_goThrough_57 : decode cX9_goThrough 57 = .ok (.iconst 0, 1) := by decide +kernel
theorem dX9_goThrough_58 : decode cX9_goThrough 58 = .ok (.istore 5, 2) := by decide +kernel
theorem dX9_goThrough_60 : decode cX9_goThrough 60 = .ok (.iload 5, 2) := by decide +kernel
theorem dX9_goThrough_62 : decode cX9_goThrough 62 = .ok (.ldc 210, 2) := by decide +kernel
theorem dX9_goThrough_64 : decode cX9_goThrough 64 = .ok (.if_icmp .ge 81, 3) := by decide +kernel
theorem dX9_goThrough_67 : decode cX9_goThrough 67 = .ok (.aload 4, 2) := by decide +kernel
theorem dX9_goThrough_69 : decode cX9_goThrough 69 = .ok (.invokevirtual 211, 3) := by decide +kernel
theorem dX9_goThrough_72 : decode cX9_goThrough 72 = .ok (.ifCond .eq 73, 3) := by decide +kernel
theorem dX9_goThrough_75 : decode cX9_goThrough 75 = .ok (.aload_n 0, 1) := by decide +kernel
theorem dX9_goThrough_76 : decode cX9_goThrough 76 = .ok (.invokevirtual 118, 3) := by decide +kernel
theorem dX9_goThrough_79 : decode cX9_goThrough 79 = .ok (.ifCond .ne 66, 3) := by decide +kernel
theorem dX9_goThrough_82 : decode cX9_goThrough 82 = .ok (.aload 4, 2) := by decide +kernel
theorem dX9_goThrough_84 : decode cX9_goThrough 84 = .ok (.invokevirtual 214, 3) := by decide +kernel
theorem dX9_goThrough_87 : decode cX9_goThrough 87 = .ok (.istore 6, 2) := by decide +kernel
theorem dX9_goThrough_89 : decode cX9_goThrough 89 = .ok (.aload 4, 2) := by decide +kernel
theorem dX9_goThrough_91 : decode cX9_goThrough 91 = .ok (.getfield 217, 3) := by decide +kernel
theorem dX9_goThrough_94 : decode cX9_goThrough 94 = .ok (.ifCond .ne 20, 3) := by decide +kernel
theorem dX9_goThrough_97 : decode cX9_goThrough 97 = .ok (.aload_n 0, 1) := by decide +kernel
theorem dX9_goThrough_98 : decode cX9_goThrough 98 = .ok (.iconst 1, 1) := by decide +kernel
theorem dX9_goThrough_99 : decode cX9_goThrough 99 = .ok (.invokevirtual 204, 3) := by decide +kernel
theorem dX9_goThrough_102 : decode cX9_goThrough 102 = .ok (.ifCond .eq 37, 3) := by decide +kernel
theorem dX9_goThrough_105 : decode cX9_goThrough 105 = .ok (.aload_n 0, 1) := by decide +kernel
theorem dX9_goThrough_106 : decode cX9_goThrough 106 = .ok (.iload 6, 2) := by decide +kernel
theorem dX9_goThrough_108 : decode cX9_goThrough 108 = .ok (.invokevirtual 220, 3) := by decide +kernel
theorem dX9_goThrough_111 : decode cX9_goThrough 111 = .ok (.goto 28, 3) := by decide +kernel
theorem dX9_goThrough_114 : decode cX9_goThrough 114 = .ok (.aload_n 0, 1) := by decide +kernel
theorem dX9_goThrough_115 : decode cX9_goThrough 115 = .ok (.invokevirtual 224, 3) := by decide +kernel
theorem dX9_goThrough_118 : decode cX9_goThrough 118 = .ok (.ifCond .eq 21, 3) := by decide +kernel
theorem dX9_goThrough_121 : decode cX9_goThrough 121 = .ok (.aload_n 0, 1) := by decide +kernel
theorem dX9_goThrough_122 : decode cX9_goThrough 122 = .ok (.invokevirtual 227, 3) := by decide +kernel
theorem dX9_goThrough_125 : decode cX9_goThrough 125 = .ok (.aload 4, 2) := by decide +kernel
theorem dX9_goThrough_127 : decode cX9_goThrough 127 = .ok (.getfield 230, 3) := by decide +kernel
theorem dX9_goThrough_130 : decode cX9_goThrough 130 = .ok (.ifCond .eq 9, 3) := by decide +kernel
theorem dX9_goThrough_133 : decode cX9_goThrough 133 = .ok (.aload 4, 2) := by decide +kernel
theorem dX9_goThrough_135 : decode cX9_goThrough 135 = .ok (.iconst 0, 1) := by decide +kernel
theorem dX9_goThrough_136 : decode cX9_goThrough 136 = .ok (.putfield 217, 3) := by decide +kernel
theorem dX9_goThrough_139 : decode cX9_goThrough 139 = .ok (.iinc 5 1, 3) := by decide +kernel
theorem dX9_goThrough_142 : decode cX9_goThrough 142 = .ok (.goto (-82), 3) := by decide +kernel
theorem dX9_goThrough_145 : decode cX9_goThrough 145 = .ok (.return_, 1) := by decide +kernel
noncomputable def f_X9_goThrough_b60 (G : Int32 → Mm → Option (Unit × Mm)) (k60 : Nat → Int32 → Mm → Option (Unit × Mm)) (a4 : Nat) (a5 : Int32) (T : Mm) : Option (Unit × Mm) :=
  if 1000000 ≤ a5 then (some ((), T))
  else (bd (f_X5_hasMore a4 T) fun v1 T2 =>
  if v1 = 0 then (some ((), T2))
  else (bd (f_X9_isMuch T2) fun v3 T4 =>
  if v3 = 0 then (bd (f_X5_next a4 T4) fun v5 T6 =>
  if (gI T6 503 a4) = 0 then (bd (f_X9_pass 1 T6) fun v11 T12 =>
  if v11 = 0 then (k60 a4 (a5 + 1) T12)
  else (bd (f_X9_other G v5 T12) fun _ T13 =>
  k60 a4 (a5 + 1) T13))
  else (bd (f_X9_readField T6) fun v7 T8 =>
  if v7 = 0 then (k60 a4 (a5 + 1) T8)
  else (bd (f_X9_obey G T8) fun _ T9 =>
  if (gI T9 506 a4) = 0 then (k60 a4 (a5 + 1) T9)
  else (lb (uI T9 503 a4 0) fun T10 =>
  k60 a4 (a5 + 1) T10))))
  else (some ((), T4))))
set_option maxRecDepth 100000 in
set_option maxHeartbeats 4000000 in
theorem s_X9_goThrough_b60 {x : JX} {ad : Nat → Nat} {U : Mm} {S0 : Hp} {q : Unit × Mm} {D : Nat} {G : Int32 → Mm → Option (Unit × Mm)}  {k60 : Nat → Int32 → Mm → Option (Unit × Mm)} (hn9 : x_n x = 7) (C : CB x RX9 cX9_goThrough) (M : CMr x (D + 9) none S0 ad true U eV q) (hD : 40 ≤ D) (hG : ∀ (i : Int32) (T : Mm) (q : Unit × Mm), G i T = some q → Cr D yX9_goMacro cX9_goMacro 3 none [.ref (ad 23), .int i] ad true U T eV q) (hk60 : ∀ (a4 : Nat) (a5 : Int32) (T : Mm) (_ : kS true a4 = 5), k60 a4 a5 T = some q → Jr x ad true U T [(0, .ref (ad 23)), (4, .ref (ad a4)), (5, .int a5)] 60 []) (a4 : Nat) (a5 : Int32) (T : Mm) (ha4 : kS true a4 = 5) (h : f_X9_goThrough_b60 G k60 a4 a5 T = some q) : Jr x ad true U T [(0, .ref (ad 23)), (4, .ref (ad a4)), (5, .int a5)] 60 [] := by
  unfold f_X9_goThrough_b60 at h
  refine r_iload C dX9_goThrough_60 2 rfl ?_
  refine r_ldc (v := 1000000) C dX9_goThrough_62 kcX9_210 ?_
  refine r_ic_ge (tgt := 145) C dX9_goThrough_64 (by decide) h (fun h => ?_) (fun h => ?_)
  · exact r_vret C M dX9_goThrough_145 h
  · refine r_aload C dX9_goThrough_67 1 rfl ?_
    refine r_callVI C M h [] [] mlX9_211 mcX5_hasMore (fun q9 e9 => s_X5_hasMore a4 ha4 e9) ha4 rfl (by omega) (by decide) rfl rfl (Nat.le_of_ble_eq_true rfl) dX9_goThrough_69 (fun v1 T2 h => ?_)
    refine r_if_eq (tgt := 145) C dX9_goThrough_72 (by decide) h (fun h => ?_) (fun h => ?_)
    · exact r_vret C M dX9_goThrough_145 h
    · refine r_aload_n C dX9_goThrough_75 rfl 0 rfl ?_
      refine r_callVI C M h [] [] mlX9_118 mcX9_isMuch (fun q9 e9 => s_X9_isMuch   e9) kq_23 rfl (by omega) (by decide) rfl rfl (Nat.le_of_ble_eq_true rfl) dX9_goThrough_76 (fun v3 T4 h => ?_)
      refine r_if_ne (tgt := 145) C dX9_goThrough_79 (by decide) h (fun h => ?_) (fun h => ?_)
      · exact r_vret C M dX9_goThrough_145 h
      · refine r_aload C dX9_goThrough_82 1 rfl ?_
        refine r_callVI C M h [] [] mlX9_214 mcX5_next (fun q9 e9 => s_X5_next a4 ha4 e9) ha4 rfl (by omega) (by decide) rfl rfl (Nat.le_of_ble_eq_true rfl) dX9_goThrough_84 (fun v5 T6 h => ?_)
        refine r_istore (lv' := [(6, .int v5), (0, .ref (ad 23)), (4, .ref (ad a4)), (5, .int a5)]) C dX9_goThrough_87 (by rw [hn9]; decide) rfl ?_
        refine r_aload C dX9_goThrough_89 2 rfl ?_
        refine r_geti (f := 503) C flX9_217 dX9_goThrough_91 ha4 (by decide) (by decide) rfl ?_
        show Jr _ _ _ _ _ _ 94 _
        refine r_if_ne (tgt := 114) C dX9_goThrough_94 (by decide) h (fun h => ?_) (fun h => ?_)
        · refine r_aload_n C dX9_goThrough_114 rfl 1 rfl ?_
          refine r_callVI C M h [] [] mlX9_224 mcX9_readField (fun q9 e9 => s_X9_readField   e9) kq_23 rfl (by omega) (by decide) rfl rfl (Nat.le_of_ble_eq_true rfl) dX9_goThrough_115 (fun v7 T8 h => ?_)
          refine r_if_eq (tgt := 139) C dX9_goThrough_118 (by decide) h (fun h => ?_) (fun h => ?_)
          · refine r_iinc (q := 3) (v := (a5 + 1)) (lv' := [(5, .int (a5 + 1)), (6, .int v5), (0, .ref (ad 23)), (4, .ref (ad a4))]) C dX9_goThrough_139 rfl (by rw [show Int32.ofInt (1) = 1 by decide]) (by rw [hn9]; decide) rfl ?_
            refine r_goto (tgt := 60) C dX9_goThrough_142 (by decide) ?_
            refine Jr.sub [2, 3, 0] (lv' := [(0, .ref (ad 23)), (4, .ref (ad a4)), (5, .int (a5 + 1))]) rfl ?_
            exact hk60 a4 (a5 + 1) T8 ha4 h
          · refine r_aload_n C dX9_goThrough_121 rfl 1 rfl ?_
            refine r_callVN C M h [] [] mlX9_227 mcX9_obey (fun q9 e9 => s_X9_obey hD (fun i9 T9 q9 e9 => hG i9 T9 q9 e9)   e9) kq_23 rfl (by omega) (by decide) rfl rfl (Nat.le_of_ble_eq_true rfl) dX9_goThrough_122 (fun _ T9 h => ?_)
            refine r_aload C dX9_goThrough_125 2 rfl ?_
            refine r_geti (f := 506) C flX9_230 dX9_goThrough_127 ha4 (by decide) (by decide) rfl ?_
            refine r_if_eq (tgt := 139) C dX9_goThrough_130 (by decide) h (fun h => ?_) (fun h => ?_)
            · refine r_iinc (q := 3) (v := (a5 + 1)) (lv' := [(5, .int (a5 + 1)), (6, .int v5), (0, .ref (ad 23)), (4, .ref (ad a4))]) C dX9_goThrough_139 rfl (by rw [show Int32.ofInt (1) = 1 by decide]) (by rw [hn9]; decide) rfl ?_
              refine r_goto (tgt := 60) C dX9_goThrough_142 (by decide) ?_
              refine Jr.sub [2, 3, 0] (lv' := [(0, .ref (ad 23)), (4, .ref (ad a4)), (5, .int (a5 + 1))]) rfl ?_
              exact hk60 a4 (a5 + 1) T9 ha4 h
            · refine r_aload C dX9_goThrough_133 2 rfl ?_
              refine r_iconst (v := 0) C dX9_goThrough_135 (by decide) ?_
              refine r_puti (f := 503) C flX9_217 (by decide) rfl rfl dX9_goThrough_136 ha4 rfl h (fun T10 h => ?_)
              refine r_iinc (q := 3) (v := (a5 + 1)) (lv' := [(5, .int (a5 + 1)), (6, .int v5), (0, .ref (ad 23)), (4, .ref (ad a4))]) C dX9_goThrough_139 rfl (by rw [show Int32.ofInt (1) = 1 by decide]) (by rw [hn9]; decide) rfl ?_
              refine r_goto (tgt := 60) C dX9_goThrough_142 (by decide) ?_
              refine Jr.sub [2, 3, 0] (lv' := [(0, .ref (ad 23)), (4, .ref (ad a4)), (5, .int (a5 + 1))]) rfl ?_
              exact hk60 a4 (a5 + 1) T10 ha4 h
        · refine r_aload_n C dX9_goThrough_97 rfl 1 rfl ?_
          refine r_iconst (v := 1) C dX9_goThrough_98 (by decide) ?_
          refine r_callVI C M h [.int 1] [] mlX9_204 mcX9_pass (fun q9 e9 => s_X9_pass 1  e9) kq_23 rfl (by omega) (by decide) rfl rfl (Nat.le_of_ble_eq_true rfl) dX9_goThrough_99 (fun v11 T12 h => ?_)
          refine r_if_eq (tgt := 139) C dX9_goThrough_102 (by decide) h (fun h => ?_) (fun h => ?_)
          · refine r_iinc (q := 3) (v := (a5 + 1)) (lv' := [(5, .int (a5 + 1)), (6, .int v5), (0, .ref (ad 23)), (4, .ref (ad a4))]) C dX9_goThrough_139 rfl (by rw [show Int32.ofInt (1) = 1 by decide]) (by rw [hn9]; decide) rfl ?_
            refine r_goto (tgt := 60) C dX9_goThrough_142 (by decide) ?_
            refine Jr.sub [2, 3, 0] (lv' := [(0, .ref (ad 23)), (4, .ref (ad a4)), (5, .int (a5 + 1))]) rfl ?_
            exact hk60 a4 (a5 + 1) T12 ha4 h
          · refine r_aload_n C dX9_goThrough_105 rfl 1 rfl ?_
            refine r_iload C dX9_goThrough_106 0 rfl ?_
            refine r_callVN C M h [.int v5] [] mlX9_220 mcX9_other (fun q9 e9 => s_X9_other hD (fun i9 T9 q9 e9 => hG i9 T9 q9 e9) v5  e9) kq_23 rfl (by omega) (by decide) rfl rfl (Nat.le_of_ble_eq_true rfl) dX9_goThrough_108 (fun _ T13 h => ?_)
            refine r_goto (tgt := 139) C dX9_goThrough_111 (by decide) ?_
            refine r_iinc (q := 3) (v := (a5 + 1)) (lv' := [(5, .int (a5 + 1)), (6, .int v5), (0, .ref (ad 23)), (4, .ref (ad a4))]) C dX9_goThrough_139 rfl (by rw [show Int32.ofInt (1) = 1 by decide]) (by rw [hn9]; decide) rfl ?_
            show Jr _ _ _ _ _ _ 142 _
            refine r_goto (tgt := 60) C dX9_goThrough_142 (by decide) ?_
            refine Jr.sub [2, 3, 0] (lv' := [(0, .ref (ad 23)), (4, .ref (ad a4)), (5, .int (a5 + 1))]) rfl ?_
            exact hk60 a4 (a5 + 1) T13 ha4 h
noncomputable def f_X9_goThrough_l60 (G : Int32 → Mm → Option (Unit × Mm)) (n : Nat) : Nat → Int32 → Mm → Option (Unit × Mm) := Nat.rec (fun _ _ _ => none) (fun _ ih => f_X9_goThrough_b60 G ih) n
theorem s_X9_goThrough_l60 {x : JX} {ad : Nat → Nat} {U : Mm} {S0 : Hp} {q : Unit × Mm} {D : Nat} {G : Int32 → Mm → Option (Unit × Mm)}  (hn9 : x_n x = 7) (C : CB x RX9 cX9_goThrough) (M : CMr x (D + 9) none S0 ad true U eV q) (hD : 40 ≤ D) (hG : ∀ (i : Int32) (T : Mm) (q : Unit × Mm), G i T = some q → Cr D yX9_goMacro cX9_goMacro 3 none [.ref (ad 23), .int i] ad true U T eV q) : ∀ (n : Nat), ∀ (a4 : Nat) (a5 : Int32) (T : Mm) (_ : kS true a4 = 5), f_X9_goThrough_l60 G  n a4 a5 T = some q → Jr x ad true U T [(0, .ref (ad 23)), (4, .ref (ad a4)), (5, .int a5)] 60 [] := by
  intro n
  induction n with
  | zero => intro a4 a5 T _ h; exact absurd h (by intro h; cases h)
  | succ n ih => exact fun a4 a5 T ha4 h => s_X9_goThrough_b60 hn9 C M hD hG (ih) a4 a5 T ha4 h
noncomputable def f_X9_goThrough (G : Int32 → Mm → Option (Unit × Mm)) (p1 : Nat) (p2 : Int32) (p3 : Int32) (T : Mm) : Option (Unit × Mm) :=
  if (gI T 914 23) < 0 then (some ((), T))
  else (if 4 ≤ (gI T 914 23) then (some ((), T))
  else (ix (gI T 914 23) 4 fun j1 =>
  ix (gI T 914 23) 4 fun j3 =>
  bd (f_X5_open (125 + j3) p1 p2 p3 T) fun _ T5 =>
  lb (uR T5 913 23 (some (125 + j3))) fun T6 =>
  f_X9_goThrough_l60 G FU (125 + j3) 0 T6))
set_option maxRecDepth 100000 in
set_option maxHeartbeats 4000000 in
theorem s_X9_goThrough {ad : Nat → Nat} {U T : Mm} {q : Unit × Mm} {D : Nat} {G : Int32 → Mm → Option (Unit × Mm)}  (hD : 40 ≤ D) (hG : ∀ (i : Int32) (T : Mm) (q : Unit × Mm), G i T = some q → Cr D yX9_goMacro cX9_goMacro 3 none [.ref (ad 23), .int i] ad true U T eV q) (p1 : Nat) (p2 : Int32) (p3 : Int32) (hk1 : kS true p1 = 13) (h : f_X9_goThrough G p1 p2 p3 T = some q) : Cr (D + 9) yX9_goThrough cX9_goThrough 7 none [.ref (ad 23), .ref (ad p1), .int p2, .int p3] ad true U T eV q := by
  refine cr_of (by decide) (Nat.le_of_ble_eq_true rfl) fun x S0 hn9 C M => ?_
  have C : CB x RX9 cX9_goThrough := C
  refine Jr.eq (lv' := [(0, .ref (ad 23)), (1, .ref (ad p1)), (2, .int p2), (3, .int p3)]) (st' := []) rfl rfl ?_
  unfold f_X9_goThrough at h
  refine r_aload_n C dX9_goThrough_0 rfl 0 rfl ?_
  refine r_geti (f := 914) C flX9_108 dX9_goThrough_1 kq_23 (by decide) (by decide) rfl ?_
  refine r_if_lt (tgt := 31) C dX9_goThrough_4 (by decide) h (fun h => ?_) (fun h => ?_)
  · exact r_vret C M dX9_goThrough_31 h
  · refine r_aload_n C dX9_goThrough_7 rfl 0 rfl ?_
    refine r_geti (f := 914) C flX9_108 dX9_goThrough_8 kq_23 (by decide) (by decide) rfl ?_
    refine r_aload_n C dX9_goThrough_11 rfl 0 rfl ?_
    refine r_getp (f := 912) (j := 64) C flX9_70 dX9_goThrough_12 kq_23 (by decide) rfl (fun W => pt_912 kq_23 W) ?_
    refine r_alen (n := 0) (v := 4) C dX9_goThrough_15 kq_64 (by decide) (by decide) (congrArg Int32.ofNat lq_64) ?_
    show Jr _ _ _ _ _ _ 16 _
    refine r_ic_ge (tgt := 31) C dX9_goThrough_16 (by decide) h (fun h => ?_) (fun h => ?_)
    · exact r_vret C M dX9_goThrough_31 h
    · refine r_aload_n C dX9_goThrough_19 rfl 0 rfl ?_
      refine r_getp (f := 912) (j := 64) C flX9_70 dX9_goThrough_20 kq_23 (by decide) rfl (fun W => pt_912 kq_23 W) ?_
      refine r_aload_n C dX9_goThrough_23 rfl 0 rfl ?_
      refine r_geti (f := 914) C flX9_108 dX9_goThrough_24 kq_23 (by decide) (by decide) rfl ?_
      refine r_aald (n := 4) (t := fun j9 => (125 + j9)) C 19 (by decide) rfl dX9_goThrough_27 kq_64 lq_64 (fun hj W => pe_64 hj W) h (fun j1 hj2 h => ?_)
      refine Jr.eq (lv' := [(0, .ref (ad 23)), (1, .ref (ad p1)), (2, .int p2), (3, .int p3)]) (st' := [.ref (ad (125 + j1))]) rfl rfl ?_
      show Jr _ _ _ _ _ _ 28 _
      refine r_ifnonnull (tgt := 32) C dX9_goThrough_28 (by decide) ?_
      refine r_aload_n C dX9_goThrough_32 rfl 0 rfl ?_
      refine r_getp (f := 912) (j := 64) C flX9_70 dX9_goThrough_33 kq_23 (by decide) rfl (fun W => pt_912 kq_23 W) ?_
      refine r_aload_n C dX9_goThrough_36 rfl 0 rfl ?_
      refine r_geti (f := 914) C flX9_108 dX9_goThrough_37 kq_23 (by decide) (by decide) rfl ?_
      refine r_aald (n := 4) (t := fun j9 => (125 + j9)) C 19 (by decide) rfl dX9_goThrough_40 kq_64 lq_64 (fun hj W => pe_64 hj W) h (fun j3 hj4 h => ?_)
      refine Jr.eq (lv' := [(0, .ref (ad 23)), (1, .ref (ad p1)), (2, .int p2), (3, .int p3)]) (st' := [.ref (ad (125 + j3))]) rfl rfl ?_
      show Jr _ _ _ _ _ _ 41 _
      refine r_astore (lv' := [(4, .ref (ad (125 + j3))), (0, .ref (ad 23)), (1, .ref (ad p1)), (2, .int p2), (3, .int p3)]) C dX9_goThrough_41 (by rw [hn9]; decide) rfl ?_
      refine r_aload C dX9_goThrough_43 0 rfl ?_
      refine r_aload_n C dX9_goThrough_45 rfl 2 rfl ?_
      refine r_iload_n C dX9_goThrough_46 rfl 3 rfl ?_
      refine r_iload_n C dX9_goThrough_47 rfl 4 rfl ?_
      refine r_callVN C M h [.ref (ad p1), .int p2, .int p3] [] mlX9_207 mcX5_open (fun q9 e9 => s_X5_open (125 + j3) p1 p2 p3 (pek_64 hj4) hk1 e9) (pek_64 hj4) rfl (by omega) (by decide) rfl rfl (Nat.le_of_ble_eq_true rfl) dX9_goThrough_48 (fun _ T5 h => ?_)
      show Jr _ _ _ _ _ _ 51 _
      refine r_aload_n C dX9_goThrough_51 rfl 1 rfl ?_
      refine r_aload C dX9_goThrough_52 0 rfl ?_
      refine r_putr (f := 913) C flX9_82 (by decide) rfl rfl dX9_goThrough_54 kq_23 rfl (by decide) h (fun T6 h => ?_)
      refine r_iconst (v := 0) C dX9_goThrough_57 (by decide) ?_
      refine r_istore (lv' := [(5, .int 0), (4, .ref (ad (125 + j3))), (0, .ref (ad 23)), (1, .ref (ad p1)), (2, .int p2), (3, .int p3)]) C dX9_goThrough_58 (by rw [hn9]; decide) rfl ?_
      refine Jr.sub [2, 1, 0] (lv' := [(0, .ref (ad 23)), (4, .ref (ad (125 + j3))), (5, .int 0)]) rfl ?_
      exact s_X9_goThrough_l60 hn9 C M hD hG  FU (125 + j3) 0 T6 (pek_64 hj4) h
theorem dX9_goMacro_0 : decode cX9_goMacro 0 = .ok (.aload_n 0, 1) := by decide +kernel
theorem dX9_goMacro_1 : decode cX9_goMacro 1 = .ok (.getfield 43, 3) := by decide +kernel
theorem dX9_goMacro_4 : decode cX9_goMacro 4 = .ok (.iload_n 1, 1) := by decide +kernel
theorem dX9_goMacro_5 : decode cX9_goMacro 5 = .ok (.invokevirtual 192, 3) := by decide +kernel
theorem dX9_goMacro_8 : decode cX9_goMacro 8 = .ok (.ifCond .eq 11, 3) := by decide +kernel
theorem dX9_goMacro_11 : decode cX9_goMacro 11 = .ok (.aload_n 0, 1) := by decide +kernel
theorem dX9_goMacro_12 : decode cX9_goMacro 12 = .ok (.getfield 108, 3) := by decide +kernel
theorem dX9_goMacro_15 : decode cX9_goMacro 15 = .ok (.iconst 3, 1) := by decide +kernel
theorem dX9_goMacro_16 : decode cX9_goMacro 16 = .ok (.if_icmp .lt 4, 3) := by decide +kernel
theorem dX9_goMacro_19 : decode cX9_goMacro 19 = .ok (.return_, 1) := by decide +kernel
theorem dX9_goMacro_20 : decode cX9_goMacro 20 = .ok (.aload_n 0, 1) := by decide +kernel
theorem dX9_goMacro_21 : decode cX9_goMacro 21 = .ok (.getfield 82, 3) := by decide +kernel
theorem dX9_goMacro_24 : decode cX9_goMacro 24 = .ok (.astore_n 2, 1) := by decide +kernel
theorem dX9_goMacro_25 : decode cX9_goMacro 25 = .ok (.aload_n 0, 1) := by decide +kernel
theorem dX9_goMacro_26 : decode cX9_goMacro 26 = .ok (.dup, 1) := by decide +kernel
theorem dX9_goMacro_27 : decode cX9_goMacro 27 = .ok (.getfield 108, 3) := by decide +kernel
theorem dX9_goMacro_30 : decode cX9_goMacro 30 = .ok (.iconst 1, 1) := by decide +kernel
theorem dX9_goMacro_31 : decode cX9_goMacro 31 = .ok (.iadd, 1) := by decide +kernel
theorem dX9_goMacro_32 : decode cX9_goMacro 32 = .ok (.putfield 108, 3) := by decide +kernel
theorem dX9_goMacro_35 : decode cX9_goMacro 35 = .ok (.aload_n 0, 1) := by decide +kernel
theorem dX9_goMacro_36 : decode cX9_goMacro 36 = .ok (.aload_n 0, 1) := by decide +kernel
theorem dX9_goMacro_37 : decode cX9_goMacro 37 = .ok (.getfield 46, 3) := by decide +kernel
theorem dX9_goMacro_40 : decode cX9_goMacro 40 = .ok (.iload_n 1, 1) := by decide +kernel
theorem dX9_goMacro_41 : decode cX9_goMacro 41 = .ok (.sipush 1500, 3) := by decide +kernel
theorem dX9_goMacro_44 : decode cX9_goMacro 44 = .ok (.imul, 1) := by decide +kernel
theorem dX9_goMacro_45 : decode cX9_goMacro 45 = .ok (.iload_n 1, 1) := by decide +kernel
theorem dX9_goMacro_46 : decode cX9_goMacro 46 = .ok (.sipush 1500, 3) := by decide +kernel
theorem dX9_goMacro_49 : decode cX9_goMacro 49 = .ok (.imul, 1) := by decide +kernel
theorem dX9_goMacro_50 : decode cX9_goMacro 50 = .ok (.aload_n 0, 1) := by decide +kernel
theorem dX9_goMacro_51 : decode cX9_goMacro 51 = .ok (.getfield 50, 3) := by decide +kernel
theorem dX9_goMacro_54 : decode cX9_goMacro 54 = .ok (.iload_n 1, 1) := by decide +kernel
theorem dX9_goMacro_55 : decode cX9_goMacro 55 = .ok (.iaload, 1) := by decide +kernel
theorem dX9_goMacro_56 : decode cX9_goMacro 56 = .ok (.iadd, 1) := by decide +kernel
theorem dX9_goMacro_57 : decode cX9_goMacro 57 = .ok (.invokevirtual 114, 3) := by decide +kernel
theorem dX9_goMacro_60 : decode cX9_goMacro 60 = .ok (.aload_n 0, 1) := by decide +kernel
theorem dX9_goMacro_61 : decode cX9_goMacro 61 = .ok (.dup, 1) := by decide +kernel
theorem dX9_goMacro_62 : decode cX9_goMacro 62 = .ok (.getfield 108, 3) := by decide +kernel
theorem dX9_goMacro_65 : decode cX9_goMacro 65 = .ok (.iconst 1, 1) := by decide +kernel
theorem dX9_goMacro_66 : decode cX9_goMacro 66 = .ok (.isub, 1) := by decide +kernel
theorem dX9_goMacro_67 : decode cX9_goMacro 67 = .ok (.putfield 108, 3) := by decide +kernel
theorem dX9_goMacro_70 : decode cX9_goMacro 70 = .ok (.aload_n 0, 1) := by decide +kernel
theorem dX9_goMacro_71 : decode cX9_goMacro 71 = .ok (.aload_n 2, 1) := by decide +kernel
theorem dX9_goMacro_72 : decode cX9_goMacro 72 = .ok (.putfield 82, 3) := by decide +kernel
theorem dX9_goMacro_75 : decode cX9_goMacro 75 = .ok (.return_, 1) := by decide +kernel
noncomputable def f_X9_goMacro (G : Int32 → Mm → Option (Unit × Mm)) (p1 : Int32) (T : Mm) : Option (Unit × Mm) :=
  bd (f_X8_has 41 p1 T) fun v1 T2 =>
  if v1 = 0 then (some ((), T2))
  else (if (gI T2 914 23) < 3 then (rf true (gR T2 913 23) 5 fun j3 =>
  lb (uI T2 914 23 ((gI T2 914 23) + 1)) fun T5 =>
  ix p1 16 fun j6 =>
  bd (f_X9_goThrough G 43 (p1 * 1500) ((p1 * 1500) + (gA T5 44 j6)) T5) fun _ T8 =>
  lb (uI T8 914 23 ((gI T8 914 23) - 1)) fun T9 =>
  lb (uR T9 913 23 (some j3)) fun T10 =>
  some ((), T10))
  else (some ((), T2)))
set_option maxRecDepth 100000 in
set_option maxHeartbeats 4000000 in
theorem s_X9_goMacro {ad : Nat → Nat} {U T : Mm} {q : Unit × Mm} {D : Nat} {G : Int32 → Mm → Option (Unit × Mm)}  (hD : 40 ≤ D) (hG : ∀ (i : Int32) (T : Mm) (q : Unit × Mm), G i T = some q → Cr D yX9_goMacro cX9_goMacro 3 none [.ref (ad 23), .int i] ad true U T eV q) (p1 : Int32) (h : f_X9_goMacro G p1 T = some q) : Cr (D + 10) yX9_goMacro cX9_goMacro 3 none [.ref (ad 23), .int p1] ad true U T eV q := by
  refine cr_of (by decide) (Nat.le_of_ble_eq_true rfl) fun x S0 hn9 C M => ?_
  have C : CB x RX9 cX9_goMacro := C
  refine Jr.eq (lv' := [(0, .ref (ad 23)), (1, .int p1)]) (st' := []) rfl rfl ?_
  unfold f_X9_goMacro at h
  refine r_aload_n C dX9_goMacro_0 rfl 0 rfl ?_
  refine r_getp (f := 906) (j := 41) C flX9_43 dX9_goMacro_1 kq_23 (by decide) rfl (fun W => pt_906 kq_23 W) ?_
  refine r_iload_n C dX9_goMacro_4 rfl 1 rfl ?_
  refine r_callVI C M h [.int p1] [] mlX9_192 mcX8_has (fun q9 e9 => s_X8_has 41 p1 kq_41 e9) kq_41 rfl (by omega) (by decide) rfl rfl (Nat.le_of_ble_eq_true rfl) dX9_goMacro_5 (fun v1 T2 h => ?_)
  refine r_if_eq (tgt := 19) C dX9_goMacro_8 (by decide) h (fun h => ?_) (fun h => ?_)
  · exact r_vret C M dX9_goMacro_19 h
  · refine r_aload_n C dX9_goMacro_11 rfl 0 rfl ?_
    refine r_geti (f := 914) C flX9_108 dX9_goMacro_12 kq_23 (by decide) (by decide) rfl ?_
    refine r_iconst (v := 3) C dX9_goMacro_15 (by decide) ?_
    refine r_ic_lt (tgt := 20) C dX9_goMacro_16 (by decide) h (fun h => ?_) (fun h => ?_)
    · refine r_aload_n C dX9_goMacro_20 rfl 0 rfl ?_
      refine r_getr (f := 913) (c := 5) C flX9_82 dX9_goMacro_21 kq_23 (by decide) rfl h (fun j3 hj4 h => ?_)
      refine r_astore_n (lv' := [(2, .ref (ad j3)), (0, .ref (ad 23)), (1, .int p1)]) C dX9_goMacro_24 rfl (by rw [hn9]; decide) rfl ?_
      refine r_aload_n C dX9_goMacro_25 rfl 1 rfl ?_
      refine r_dup C dX9_goMacro_26 rfl ?_
      show Jr _ _ _ _ _ _ 27 _
      refine r_geti (f := 914) C flX9_108 dX9_goMacro_27 kq_23 (by decide) (by decide) rfl ?_
      refine r_iconst (v := 1) C dX9_goMacro_30 (by decide) ?_
      refine r_iadd C dX9_goMacro_31 rfl ?_
      refine r_puti (f := 914) C flX9_108 (by decide) rfl rfl dX9_goMacro_32 kq_23 rfl h (fun T5 h => ?_)
      refine r_aload_n C dX9_goMacro_35 rfl 1 rfl ?_
      refine r_aload_n C dX9_goMacro_36 rfl 1 rfl ?_
      show Jr _ _ _ _ _ _ 37 _
      refine r_getp (f := 907) (j := 43) C flX9_46 dX9_goMacro_37 kq_23 (by decide) rfl (fun W => pt_907 kq_23 W) ?_
      refine r_iload_n C dX9_goMacro_40 rfl 2 rfl ?_
      refine r_sipush (v := 1500) C dX9_goMacro_41 (by decide) ?_
      refine r_imul C dX9_goMacro_44 rfl ?_
      refine r_iload_n C dX9_goMacro_45 rfl 2 rfl ?_
      refine r_sipush (v := 1500) C dX9_goMacro_46 (by decide) ?_
      show Jr _ _ _ _ _ _ 49 _
      refine r_imul C dX9_goMacro_49 rfl ?_
      refine r_aload_n C dX9_goMacro_50 rfl 1 rfl ?_
      refine r_getp (f := 908) (j := 44) C flX9_50 dX9_goMacro_51 kq_23 (by decide) rfl (fun W => pt_908 kq_23 W) ?_
      refine r_iload_n C dX9_goMacro_54 rfl 2 rfl ?_
      refine r_iald (n := 16) C dX9_goMacro_55 kq_44 lq_44 h (fun j6 hj7 h => ?_)
      refine r_iadd C dX9_goMacro_56 rfl ?_
      show Jr _ _ _ _ _ _ 57 _
      refine r_callVN C M h [.ref (ad 43), .int (p1 * 1500), .int ((p1 * 1500) + (gA T5 44 j6))] [] mlX9_114 mcX9_goThrough (fun q9 e9 => s_X9_goThrough hD (fun i9 T9 q9 e9 => hG i9 T9 q9 e9) 43 (p1 * 1500) ((p1 * 1500) + (gA T5 44 j6)) kq_43 e9) kq_23 rfl (by omega) (by decide) rfl rfl (Nat.le_of_ble_eq_true rfl) dX9_goMacro_57 (fun _ T8 h => ?_)
      refine r_aload_n C dX9_goMacro_60 rfl 1 rfl ?_
      refine r_dup C dX9_goMacro_61 rfl ?_
      refine r_geti (f := 914) C flX9_108 dX9_goMacro_62 kq_23 (by decide) (by decide) rfl ?_
      refine r_iconst (v := 1) C dX9_goMacro_65 (by decide) ?_
      refine r_isub C dX9_goMacro_66 rfl ?_
      show Jr _ _ _ _ _ _ 67 _
      refine r_puti (f := 914) C flX9_108 (by decide) rfl rfl dX9_goMacro_67 kq_23 rfl h (fun T9 h => ?_)
      refine r_aload_n C dX9_goMacro_70 rfl 1 rfl ?_
      refine r_aload_n C dX9_goMacro_71 rfl 0 rfl ?_
      refine r_putr (f := 913) C flX9_82 (by decide) rfl rfl dX9_goMacro_72 kq_23 rfl (by decide) h (fun T10 h => ?_)
      exact r_vret C M dX9_goMacro_75 h
    · exact r_vret C M dX9_goMacro_19 h
def gmC_D (n : Nat) : Nat := 40 + 10 * n
noncomputable def gmC (n : Nat) : Int32 → Mm → Option (Unit × Mm) := Nat.rec (fun _ _ => none) (fun _ ih => f_X9_goMacro ih) n
theorem gmC_ok {ad : Nat → Nat} {U : Mm} : ∀ (n : Nat) (i : Int32) (T : Mm) (q : Unit × Mm), gmC n i T = some q → Cr (gmC_D n) yX9_goMacro cX9_goMacro 3 none [.ref (ad 23), .int i] ad true U T eV q := by
  intro n
  induction n with
  | zero => intro i T q h; exact absurd h (by intro h; cases h)
  | succ n ih =>
    intro i T q h
    have := s_X9_goMacro (D := gmC_D n) (by unfold gmC_D; omega) ih i h
    exact this
theorem dX9_keepStates_0 : decode cX9_keepStates 0 = .ok (.aload_n 0, 1) := by decide +kernel
theorem dX9_keepStates_1 : decode cX9_keepStates 1 = .ok (.getfield 57, 3) := by decide +kernel
theorem dX9_keepStates_4 : decode cX9_keepStates 4 = .ok (.getfield 129, 3) := by decide +kernel
theorem dX9_keepStates_7 : decode cX9_keepStates 7 = .ok (.astore_n 1, 1) := by decide +kernel
theorem dX9_keepStates_8 : decode cX9_keepStates 8 = .ok (.aload_n 0, 1) := by decide +kernel
theorem dX9_keepStates_9 : decode cX9_keepStates 9 = .ok (.getfield 74, 3) := by decide +kernel
theorem dX9_keepStates_12 : decode cX9_keepStates 12 = .ok (.iconst 0, 1) := by decide +kernel
theorem dX9_keepStates_13 : decode cX9_keepStates 13 = .ok (.aload_n 1, 1) := by decide +kernel
theorem dX9_keepStates_14 : decode cX9_keepStates 14 = .ok (.getfield 133, 3) := by decide +kernel
theorem dX9_keepStates_17 : decode cX9_keepStates 17 = .ok (.iastore, 1) := by decide +kernel
theorem dX9_keepStates_18 : decode cX9_keepStates 18 = .ok (.aload_n 0, 1) := by decide +kernel
theorem dX9_keepStates_19 : decode cX9_keepStates 19 = .ok (.getfield 74, 3) := by decide +kernel
theorem dX9_keepStates_22 : decode cX9_keepStates 22 = .ok (.iconst 1, 1) := by decide +kernel
theorem dX9_keepStates_23 : decode cX9_keepStates 23 = .ok (.aload_n 1, 1) := by decide +kernel
theorem dX9_keepStates_24 : decode cX9_keepStates 24 = .ok (.getfield 138, 3) := by decide +kernel
theorem dX9_keepStates_27 : decode cX9_keepStates 27 = .ok (.iastore, 1) := by decide +kernel
theorem dX9_keepStates_28 : decode cX9_keepStates 28 = .ok (.aload_n 0, 1) := by decide +kernel
theorem dX9_keepStates_29 : decode cX9_keepStates 29 = .ok (.getfield 74, 3) := by decide +kernel
theorem dX9_keepStates_32 : decode cX9_keepStates 32 = .ok (.iconst 2, 1) := by decide +kernel
theorem dX9_keepStates_33 : decode cX9_keepStates 33 = .ok (.aload_n 1, 1) := by decide +kernel
theorem dX9_keepStates_34 : decode cX9_keepStates 34 = .ok (.getfield 141, 3) := by decide +kernel
theorem dX9_keepStates_37 : decode cX9_keepStates 37 = .ok (.iastore, 1) := by decide +kernel
theorem dX9_keepStates_38 : decode cX9_keepStates 38 = .ok (.aload_n 0, 1) := by decide +kernel
theorem dX9_keepStates_39 : decode cX9_keepStates 39 = .ok (.getfield 74, 3) := by decide +kernel
theorem dX9_keepStates_42 : decode cX9_keepStates 42 = .ok (.iconst 3, 1) := by decide +kernel
theorem dX9_keepStates_43 : decode cX9_keepStates 43 = .ok (.aload_n 1, 1) := by decide +kernel
theorem dX9_keepStates_44 : decode cX9_keepStates 44 = .ok (.getfield 144, 3) := by decide +kernel
theorem dX9_keepStates_47 : decode cX9_keepStates 47 = .ok (.iastore, 1) := by decide +kernel
theorem dX9_keepStates_48 : decode cX9_keepStates 48 = .ok (.aload_n 0, 1) := by decide +kernel
theorem dX9_keepStates_49 : decode cX9_keepStates 49 = .ok (.getfield 74, 3) := by decide +kernel
theorem dX9_keepStates_52 : decode cX9_keepStates 52 = .ok (.iconst 4, 1) := by decide +kernel
theorem dX9_keepStates_53 : decode cX9_keepStates 53 = .ok (.aload_n 1, 1) := by decide +kernel
theorem dX9_keepStates_54 : decode cX9_keepStates 54 = .ok (.getfield 147, 3) := by decide +kernel
theorem dX9_keepStates_57 : decode cX9_keepStates 57 = .ok (.iastore, 1) := by decide +kernel
theorem dX9_keepStates_58 : decode cX9_keepStates 58 = .ok (.aload_n 0, 1) := by decide +kernel
theorem dX9_keepStates_59 : decode cX9_keepStates 59 = .ok (.getfield 74, 3) := by decide +kernel
theorem dX9_keepStates_62 : decode cX9_keepStates 62 = .ok (.iconst 5, 1) := by decide +kernel
theorem dX9_keepStates_63 : decode cX9_keepStates 63 = .ok (.aload_n 1, 1) := by decide +kernel
theorem dX9_keepStates_64 : decode cX9_keepStates 64 = .ok (.getfield 150, 3) := by decide +kernel
theorem dX9_keepStates_67 : decode cX9_keepStates 67 = .ok (.iastore, 1) := by decide +kernel
theorem dX9_keepStates_68 : decode cX9_keepStates 68 = .ok (.aload_n 0, 1) := by decide +kernel
theorem dX9_keepStates_69 : decode cX9_keepStates 69 = .ok (.getfield 74, 3) := by decide +kernel
theorem dX9_keepStates_72 : decode cX9_keepStates 72 = .ok (.bipush 6, 2) := by decide +kernel
theorem dX9_keepStates_74 : decode cX9_keepStates 74 = .ok (.aload_n 1, 1) := by decide +kernel
theorem dX9_keepStates_75 : decode cX9_keepStates 75 = .ok (.getfield 153, 3) := by decide +kernel
theorem dX9_keepStates_78 : decode cX9_keepStates 78 = .ok (.iastore, 1) := by decide +kernel
theorem dX9_keepStates_79 : decode cX9_keepStates 79 = .ok (.aload_n 0, 1) := by decide +kernel
theorem dX9_keepStates_80 : decode cX9_keepStates 80 = .ok (.getfield 74, 3) := by decide +kernel
theorem dX9_keepStates_83 : decode cX9_keepStates 83 = .ok (.bipush 7, 2) := by decide +kernel
theorem dX9_keepStates_85 : decode cX9_keepStates 85 = .ok (.aload_n 1, 1) := by decide +kernel
theorem dX9_keepStates_86 : decode cX9_keepStates 86 = .ok (.getfield 156, 3) := by decide +kernel
theorem dX9_keepStates_89 : decode cX9_keepStates 89 = .ok (.iastore, 1) := by decide +kernel
theorem dX9_keepStates_90 : decode cX9_keepStates 90 = .ok (.aload_n 0, 1) := by decide +kernel
theorem dX9_keepStates_91 : decode cX9_keepStates 91 = .ok (.getfield 74, 3) := by decide +kernel
theorem dX9_keepStates_94 : decode cX9_keepStates 94 = .ok (.bipush 8, 2) := by decide +kernel
theorem dX9_keepStates_96 : decode cX9_keepStates 96 = .ok (.aload_n 0, 1) := by decide +kernel
theorem dX9_keepStates_97 : decode cX9_keepStates 97 = .ok (.getfield 21, 3) := by decide +kernel
theorem dX9_keepStates_100 : decode cX9_keepStates 100 = .ok (.aload_n 0, 1) := by decide +kernel
theorem dX9_keepStates_101 : decode cX9_keepStates 101 = .ok (.getfield 57, 3) := by decide +kernel
theorem dX9_keepStates_104 : decode cX9_keepStates 104 = .ok (.invokevirtual 159, 3) := by decide +kernel
theorem dX9_keepStates_107 : decode cX9_keepStates 107 = .ok (.invokevirtual 163, 3) := by decide +kernel
theorem dX9_keepStates_110 : decode cX9_keepStates 110 = .ok (.iastore, 1) := by decide +kernel
theorem dX9_keepStates_111 : decode cX9_keepStates 111 = .ok (.aload_n 0, 1) := by decide +kernel
theorem dX9_keepStates_112 : decode cX9_keepStates 112 = .ok (.getfield 74, 3) := by decide +kernel
theorem dX9_keepStates_115 : decode cX9_keepStates 115 = .ok (.bipush 9, 2) := by decide +kernel
theorem dX9_keepStates_117 : decode cX9_keepStates 117 = .ok (.aload_n 1, 1) := by decide +kernel
theorem dX9_keepStates_118 : decode cX9_keepStates 118 = .ok (.getfield 167, 3) := by decide +kernel
theorem dX9_keepStates_121 : decode cX9_keepStates 121 = .ok (.iastore, 1) := by decide +kernel
theorem dX9_keepStates_122 : decode cX9_keepStates 122 = .ok (.aload_n 0, 1) := by decide +kernel
theorem dX9_keepStates_123 : decode cX9_keepStates 123 = .ok (.getfield 74, 3) := by decide +kernel
theorem dX9_keepStates_126 : decode cX9_keepStates 126 = .ok (.bipush 10, 2) := by decide +kernel
theorem dX9_keepStates_128 : decode cX9_keepStates 128 = .ok (.aload_n 1, 1) := by decide +kernel
theorem dX9_keepStates_129 : decode cX9_keepStates 129 = .ok (.getfield 170, 3) := by decide +kernel
theorem dX9_keepStates_132 : decode cX9_keepStates 132 = .ok (.iastore, 1) := by decide +kernel
theorem dX9_keepStates_133 : decode cX9_keepStates 133 = .ok (.aload_n 0, 1) := by decide +kernel
theorem dX9_keepStates_134 : decode cX9_keepStates 134 = .ok (.getfield 74, 3) := by decide +kernel
theorem dX9_keepStates_137 : decode cX9_keepStates 137 = .ok (.bipush 11, 2) := by decide +kernel
theorem dX9_keepStates_139 : decode cX9_keepStates 139 = .ok (.aload_n 1, 1) := by decide +kernel
theorem dX9_keepStates_140 : decode cX9_keepStates 140 = .ok (.getfield 173, 3) := by decide +kernel
theorem dX9_keepStates_143 : decode cX9_keepStates 143 = .ok (.iastore, 1) := by decide +kernel
theorem dX9_keepStates_144 : decode cX9_keepStates 144 = .ok (.return_, 1) := by decide +kernel
noncomputable def f_X9_keepStates (T : Mm) : Option (Unit × Mm) :=
  lb (uA T 65 0 ((gI T 706 46))) fun T1 =>
  lb (uA T1 65 1 ((gI T1 707 46))) fun T2 =>
  lb (uA T2 65 2 ((gI T2 709 46))) fun T3 =>
  lb (uA T3 65 3 ((gI T3 708 46))) fun T4 =>
  lb (uA T4 65 4 ((gI T4 702 46))) fun T5 =>
  lb (uA T5 65 5 ((gI T5 703 46))) fun T6 =>
  lb (uA T6 65 6 ((gI T6 704 46))) fun T7 =>
  lb (uA T7 65 7 ((gI T7 705 46))) fun T8 =>
  bd (f_X1_wishes 45 T8) fun v9 T10 =>
  gd (kS true v9 = 14) <|
  bd (f_X2_inUse v9 T10) fun v12 T13 =>
  lb (uA T13 65 8 (v12)) fun T14 =>
  lb (uA T14 65 9 ((gI T14 700 46))) fun T15 =>
  lb (uA T15 65 10 ((gI T15 701 46))) fun T16 =>
  lb (uA T16 65 11 ((gI T16 711 46))) fun T17 =>
  some ((), T17)
set_option maxRecDepth 100000 in
set_option maxHeartbeats 4000000 in
theorem s_X9_keepStates {ad : Nat → Nat} {U T : Mm} {q : Unit × Mm}  (h : f_X9_keepStates  T = some q) : Cr 5 yX9_keepStates cX9_keepStates 2 none [.ref (ad 23)] ad true U T eV q := by
  refine cr_of (by decide) (Nat.le_of_ble_eq_true rfl) fun x S0 hn9 C M => ?_
  have C : CB x RX9 cX9_keepStates := C
  refine Jr.eq (lv' := [(0, .ref (ad 23))]) (st' := []) rfl rfl ?_
  unfold f_X9_keepStates at h
  refine r_aload_n C dX9_keepStates_0 rfl 0 rfl ?_
  refine r_getp (f := 909) (j := 45) C flX9_57 dX9_keepStates_1 kq_23 (by decide) rfl (fun W => pt_909 kq_23 W) ?_
  refine r_getp (f := 100) (j := 46) C flX9_129 dX9_keepStates_4 kq_45 (by decide) rfl (fun W => pt_100 kq_45 W) ?_
  refine r_astore_n (lv' := [(1, .ref (ad 46)), (0, .ref (ad 23))]) C dX9_keepStates_7 rfl (by rw [hn9]; decide) rfl ?_
  refine r_aload_n C dX9_keepStates_8 rfl 1 rfl ?_
  show Jr _ _ _ _ _ _ 9 _
  refine r_getp (f := 917) (j := 65) C flX9_74 dX9_keepStates_9 kq_23 (by decide) rfl (fun W => pt_917 kq_23 W) ?_
  refine r_iconst (v := 0) C dX9_keepStates_12 (by decide) ?_
  refine r_aload_n C dX9_keepStates_13 rfl 0 rfl ?_
  refine r_geti (f := 706) C flX9_133 dX9_keepStates_14 kq_46 (by decide) (by decide) rfl ?_
  refine r_iastc (n := 12) C 0 dX9_keepStates_17 kq_65 lq_65 (vp_lit (by decide)) (by decide) h (fun T1 h => ?_)
  refine r_aload_n C dX9_keepStates_18 rfl 1 rfl ?_
  show Jr _ _ _ _ _ _ 19 _
  refine r_getp (f := 917) (j := 65) C flX9_74 dX9_keepStates_19 kq_23 (by decide) rfl (fun W => pt_917 kq_23 W) ?_
  refine r_iconst (v := 1) C dX9_keepStates_22 (by decide) ?_
  refine r_aload_n C dX9_keepStates_23 rfl 0 rfl ?_
  refine r_geti (f := 707) C flX9_138 dX9_keepStates_24 kq_46 (by decide) (by decide) rfl ?_
  refine r_iastc (n := 12) C 1 dX9_keepStates_27 kq_65 lq_65 (vp_lit (by decide)) (by decide) h (fun T2 h => ?_)
  refine r_aload_n C dX9_keepStates_28 rfl 1 rfl ?_
  show Jr _ _ _ _ _ _ 29 _
  refine r_getp (f := 917) (j := 65) C flX9_74 dX9_keepStates_29 kq_23 (by decide) rfl (fun W => pt_917 kq_23 W) ?_
  refine r_iconst (v := 2) C dX9_keepStates_32 (by decide) ?_
  refine r_aload_n C dX9_keepStates_33 rfl 0 rfl ?_
  refine r_geti (f := 709) C flX9_141 dX9_keepStates_34 kq_46 (by decide) (by decide) rfl ?_
  refine r_iastc (n := 12) C 2 dX9_keepStates_37 kq_65 lq_65 (vp_lit (by decide)) (by decide) h (fun T3 h => ?_)
  refine r_aload_n C dX9_keepStates_38 rfl 1 rfl ?_
  show Jr _ _ _ _ _ _ 39 _
  refine r_getp (f := 917) (j := 65) C flX9_74 dX9_keepStates_39 kq_23 (by decide) rfl (fun W => pt_917 kq_23 W) ?_
  refine r_iconst (v := 3) C dX9_keepStates_42 (by decide) ?_
  refine r_aload_n C dX9_keepStates_43 rfl 0 rfl ?_
  refine r_geti (f := 708) C flX9_144 dX9_keepStates_44 kq_46 (by decide) (by decide) rfl ?_
  refine r_iastc (n := 12) C 3 dX9_keepStates_47 kq_65 lq_65 (vp_lit (by decide)) (by decide) h (fun T4 h => ?_)
  refine r_aload_n C dX9_keepStates_48 rfl 1 rfl ?_
  show Jr _ _ _ _ _ _ 49 _
  refine r_getp (f := 917) (j := 65) C flX9_74 dX9_keepStates_49 kq_23 (by decide) rfl (fun W => pt_917 kq_23 W) ?_
  refine r_iconst (v := 4) C dX9_keepStates_52 (by decide) ?_
  refine r_aload_n C dX9_keepStates_53 rfl 0 rfl ?_
  refine r_geti (f := 702) C flX9_147 dX9_keepStates_54 kq_46 (by decide) (by decide) rfl ?_
  refine r_iastc (n := 12) C 4 dX9_keepStates_57 kq_65 lq_65 (vp_lit (by decide)) (by decide) h (fun T5 h => ?_)
  refine r_aload_n C dX9_keepStates_58 rfl 1 rfl ?_
  show Jr _ _ _ _ _ _ 59 _
  refine r_getp (f := 917) (j := 65) C flX9_74 dX9_keepStates_59 kq_23 (by decide) rfl (fun W => pt_917 kq_23 W) ?_
  refine r_iconst (v := 5) C dX9_keepStates_62 (by decide) ?_
  refine r_aload_n C dX9_keepStates_63 rfl 0 rfl ?_
  refine r_geti (f := 703) C flX9_150 dX9_keepStates_64 kq_46 (by decide) (by decide) rfl ?_
  refine r_iastc (n := 12) C 5 dX9_keepStates_67 kq_65 lq_65 (vp_lit (by decide)) (by decide) h (fun T6 h => ?_)
  refine r_aload_n C dX9_keepStates_68 rfl 1 rfl ?_
  show Jr _ _ _ _ _ _ 69 _
  refine r_getp (f := 917) (j := 65) C flX9_74 dX9_keepStates_69 kq_23 (by decide) rfl (fun W => pt_917 kq_23 W) ?_
  refine r_bipush (v := 6) C dX9_keepStates_72 (by decide) ?_
  refine r_aload_n C dX9_keepStates_74 rfl 0 rfl ?_
  refine r_geti (f := 704) C flX9_153 dX9_keepStates_75 kq_46 (by decide) (by decide) rfl ?_
  refine r_iastc (n := 12) C 6 dX9_keepStates_78 kq_65 lq_65 (vp_lit (by decide)) (by decide) h (fun T7 h => ?_)
  refine r_aload_n C dX9_keepStates_79 rfl 1 rfl ?_
  show Jr _ _ _ _ _ _ 80 _
  refine r_getp (f := 917) (j := 65) C flX9_74 dX9_keepStates_80 kq_23 (by decide) rfl (fun W => pt_917 kq_23 W) ?_
  refine r_bipush (v := 7) C dX9_keepStates_83 (by decide) ?_
  refine r_aload_n C dX9_keepStates_85 rfl 0 rfl ?_
  refine r_geti (f := 705) C flX9_156 dX9_keepStates_86 kq_46 (by decide) (by decide) rfl ?_
  refine r_iastc (n := 12) C 7 dX9_keepStates_89 kq_65 lq_65 (vp_lit (by decide)) (by decide) h (fun T8 h => ?_)
  refine r_aload_n C dX9_keepStates_90 rfl 1 rfl ?_
  show Jr _ _ _ _ _ _ 91 _
  refine r_getp (f := 917) (j := 65) C flX9_74 dX9_keepStates_91 kq_23 (by decide) rfl (fun W => pt_917 kq_23 W) ?_
  refine r_bipush (v := 8) C dX9_keepStates_94 (by decide) ?_
  refine r_aload_n C dX9_keepStates_96 rfl 1 rfl ?_
  refine r_getp (f := 902) (j := 27) C flX9_21 dX9_keepStates_97 kq_23 (by decide) rfl (fun W => pt_902 kq_23 W) ?_
  refine r_aload_n C dX9_keepStates_100 rfl 1 rfl ?_
  refine r_getp (f := 909) (j := 45) C flX9_57 dX9_keepStates_101 kq_23 (by decide) rfl (fun W => pt_909 kq_23 W) ?_
  show Jr _ _ _ _ _ _ 104 _
  refine r_callVR C M h [] [.ref (ad 27), .int 8, .ref (ad 65)] mlX9_159 mcX1_wishes (fun q9 e9 => s_X1_wishes 45 kq_45 e9) kq_45 rfl (by decide) (by decide) rfl rfl (Nat.le_of_ble_eq_true rfl) dX9_keepStates_104 (fun v9 T10 h => ?_)
  refine r_gd h (fun hk11 h => ?_)
  refine r_callVI C M h [.ref (ad v9)] [.int 8, .ref (ad 65)] mlX9_163 mcX2_inUse (fun q9 e9 => s_X2_inUse v9 hk11 e9) kq_27 rfl (by decide) (by decide) rfl rfl (Nat.le_of_ble_eq_true rfl) dX9_keepStates_107 (fun v12 T13 h => ?_)
  refine r_iastc (n := 12) C 8 dX9_keepStates_110 kq_65 lq_65 (vp_lit (by decide)) (by decide) h (fun T14 h => ?_)
  refine r_aload_n C dX9_keepStates_111 rfl 1 rfl ?_
  refine r_getp (f := 917) (j := 65) C flX9_74 dX9_keepStates_112 kq_23 (by decide) rfl (fun W => pt_917 kq_23 W) ?_
  refine r_bipush (v := 9) C dX9_keepStates_115 (by decide) ?_
  show Jr _ _ _ _ _ _ 117 _
  refine r_aload_n C dX9_keepStates_117 rfl 0 rfl ?_
  refine r_geti (f := 700) C flX9_167 dX9_keepStates_118 kq_46 (by decide) (by decide) rfl ?_
  refine r_iastc (n := 12) C 9 dX9_keepStates_121 kq_65 lq_65 (vp_lit (by decide)) (by decide) h (fun T15 h => ?_)
  refine r_aload_n C dX9_keepStates_122 rfl 1 rfl ?_
  refine r_getp (f := 917) (j := 65) C flX9_74 dX9_keepStates_123 kq_23 (by decide) rfl (fun W => pt_917 kq_23 W) ?_
  refine r_bipush (v := 10) C dX9_keepStates_126 (by decide) ?_
  show Jr _ _ _ _ _ _ 128 _
  refine r_aload_n C dX9_keepStates_128 rfl 0 rfl ?_
  refine r_geti (f := 701) C flX9_170 dX9_keepStates_129 kq_46 (by decide) (by decide) rfl ?_
  refine r_iastc (n := 12) C 10 dX9_keepStates_132 kq_65 lq_65 (vp_lit (by decide)) (by decide) h (fun T16 h => ?_)
  refine r_aload_n C dX9_keepStates_133 rfl 1 rfl ?_
  refine r_getp (f := 917) (j := 65) C flX9_74 dX9_keepStates_134 kq_23 (by decide) rfl (fun W => pt_917 kq_23 W) ?_
  refine r_bipush (v := 11) C dX9_keepStates_137 (by decide) ?_
  show Jr _ _ _ _ _ _ 139 _
  refine r_aload_n C dX9_keepStates_139 rfl 0 rfl ?_
  refine r_geti (f := 711) C flX9_173 dX9_keepStates_140 kq_46 (by decide) (by decide) rfl ?_
  refine r_iastc (n := 12) C 11 dX9_keepStates_143 kq_65 lq_65 (vp_lit (by decide)) (by decide) h (fun T17 h => ?_)
  exact r_vret C M dX9_keepStates_144 h
theorem dX9_run_0 : decode cX9_run 0 = .ok (.aload_n 0, 1) := by decide +kernel
theorem dX9_run_1 : decode cX9_run 1 = .ok (.getfield 57, 3) := by decide +kernel
theorem dX9_run_4 : decode cX9_run 4 = .ok (.iconst 1, 1) := by decide +kernel
theorem dX9_run_5 : decode cX9_run 5 = .ok (.iconst 0, 1) := by decide +kernel
theorem dX9_run_6 : decode cX9_run 6 = .ok (.invokevirtual 101, 3) := by decide +kernel
theorem dX9_run_9 : decode cX9_run 9 = .ok (.aload_n 0, 1) := by decide +kernel
theorem dX9_run_10 : decode cX9_run 10 = .ok (.getfield 12, 3) := by decide +kernel
theorem dX9_run_13 : decode cX9_run 13 = .ok (.invokevirtual 105, 3) := by decide +kernel
theorem dX9_run_16 : decode cX9_run 16 = .ok (.aload_n 0, 1) := by decide +kernel
theorem dX9_run_17 : decode cX9_run 17 = .ok (.iconst 0, 1) := by decide +kernel
theorem dX9_run_18 : decode cX9_run 18 = .ok (.putfield 108, 3) := by decide +kernel
theorem dX9_run_21 : decode cX9_run 21 = .ok (.aload_n 0, 1) := by decide +kernel
theorem dX9_run_22 : decode cX9_run 22 = .ok (.iconst 0, 1) := by decide +kernel
theorem dX9_run_23 : decode cX9_run 23 = .ok (.putfield 111, 3) := by decide +kernel
theorem dX9_run_26 : decode cX9_run 26 = .ok (.aload_n 0, 1) := by decide +kernel
theorem dX9_run_27 : decode cX9_run 27 = .ok (.aload_n 1, 1) := by decide +kernel
theorem dX9_run_28 : decode cX9_run 28 = .ok (.iload_n 2, 1) := by decide +kernel
theorem dX9_run_29 : decode cX9_run 29 = .ok (.iload_n 3, 1) := by decide +kernel
theorem dX9_run_30 : decode cX9_run 30 = .ok (.invokevirtual 114, 3) := by decide +kernel
theorem dX9_run_33 : decode cX9_run 33 = .ok (.aload_n 0, 1) := by decide +kernel
theorem dX9_run_34 : decode cX9_run 34 = .ok (.invokevirtual 118, 3) := by decide +kernel
theorem dX9_run_37 : decode cX9_run 37 = .ok (.ifCond .ne 11, 3) := by decide +kernel
theorem dX9_run_40 : decode cX9_run 40 = .ok (.aload_n 0, 1) := by decide +kernel
theorem dX9_run_41 : decode cX9_run 41 = .ok (.invokevirtual 121, 3) := by decide +kernel
theorem dX9_run_44 : decode cX9_run 44 = .ok (.aload_n 0, 1) := by decide +kernel
theorem dX9_run_45 : decode cX9_run 45 = .ok (.invokevirtual 124, 3) := by decide +kernel
theorem dX9_run_48 : decode cX9_run 48 = .ok (.aload_n 0, 1) := by decide +kernel
theorem dX9_run_49 : decode cX9_run 49 = .ok (.aload_n 0, 1) := by decide +kernel
theorem dX9_run_50 : decode cX9_run 50 = .ok (.invokevirtual 118, 3) := by decide +kernel
theorem dX9_run_53 : decode cX9_run 53 = .ok (.ifCond .ne 7, 3) := by decide +kernel
theorem dX9_run_56 : decode cX9_run 56 = .ok (.iconst 1, 1) := by decide +kernel
theorem dX9_run_57 : decode cX9_run 57 = .ok (.goto 4, 3) := by decide +kernel
theorem dX9_run_60 : decode cX9_run 60 = .ok (.iconst 0, 1) := by decide +kernel
theorem dX9_run_61 : decode cX9_run 61 = .ok (.putfield 126, 3) := by decide +kernel
theorem dX9_run_64 : decode cX9_run 64 = .ok (.return_, 1) := by decide +kernel
noncomputable def f_X9_run_48 (T : Mm) : Option (Unit × Mm) :=
  bd (f_X9_isMuch T) fun v1 T2 =>
  if v1 = 0 then (lb (uI T2 918 23 1) fun T4 =>
  some ((), T4))
  else (lb (uI T2 918 23 0) fun T3 =>
  some ((), T3))
set_option maxRecDepth 100000 in
set_option maxHeartbeats 4000000 in
theorem s_X9_run_48 {x : JX} {ad : Nat → Nat} {U : Mm} {S0 : Hp} {q : Unit × Mm}  (hn9 : x_n x = 4) (C : CB x RX9 cX9_run) (M : CMr x 105 none S0 ad true U eV q) (T : Mm) (h : f_X9_run_48   T = some q) : Jr x ad true U T [(0, .ref (ad 23))] 48 [] := by
  unfold f_X9_run_48 at h
  refine r_aload_n C dX9_run_48 rfl 0 rfl ?_
  refine r_aload_n C dX9_run_49 rfl 0 rfl ?_
  refine r_callVI C M h [] [.ref (ad 23)] mlX9_118 mcX9_isMuch (fun q9 e9 => s_X9_isMuch   e9) kq_23 rfl (by decide) (by decide) rfl rfl (Nat.le_of_ble_eq_true rfl) dX9_run_50 (fun v1 T2 h => ?_)
  refine r_if_ne (tgt := 60) C dX9_run_53 (by decide) h (fun h => ?_) (fun h => ?_)
  · refine r_iconst (v := 0) C dX9_run_60 (by decide) ?_
    refine r_putz (f := 918) C flX9_126 (by decide) rfl rfl (by decide) dX9_run_61 kq_23 rfl h (fun T3 h => ?_)
    exact r_vret C M dX9_run_64 h
  · refine r_iconst (v := 1) C dX9_run_56 (by decide) ?_
    refine r_goto (tgt := 61) C dX9_run_57 (by decide) ?_
    refine r_putz (f := 918) C flX9_126 (by decide) rfl rfl (by decide) dX9_run_61 kq_23 rfl h (fun T4 h => ?_)
    exact r_vret C M dX9_run_64 h
noncomputable def f_X9_run (p1 : Nat) (p2 : Int32) (p3 : Int32) (T : Mm) : Option (Unit × Mm) :=
  bd (f_X1_reset 45 1 0 T) fun _ T1 =>
  bd (f_X0_clear T1) fun _ T2 =>
  lb (uI T2 914 23 0) fun T3 =>
  lb (uI T3 915 23 0) fun T4 =>
  bd (f_X9_goThrough (gmC 5) p1 p2 p3 T4) fun _ T5 =>
  bd (f_X9_isMuch T5) fun v6 T7 =>
  if v6 = 0 then (bd (f_X9_keepStates T7) fun _ T8 =>
  bd (f_X9_reset (gmC 5) T8) fun _ T9 =>
  f_X9_run_48 T9)
  else (f_X9_run_48 T7)
set_option maxRecDepth 100000 in
set_option maxHeartbeats 4000000 in
theorem s_X9_run {ad : Nat → Nat} {U T : Mm} {q : Unit × Mm}  (p1 : Nat) (p2 : Int32) (p3 : Int32) (hk1 : kS true p1 = 13) (h : f_X9_run p1 p2 p3 T = some q) : Cr 105 yX9_run cX9_run 4 none [.ref (ad 23), .ref (ad p1), .int p2, .int p3] ad true U T eV q := by
  refine cr_of (by decide) (Nat.le_of_ble_eq_true rfl) fun x S0 hn9 C M => ?_
  have C : CB x RX9 cX9_run := C
  refine Jr.eq (lv' := [(0, .ref (ad 23)), (1, .ref (ad p1)), (2, .int p2), (3, .int p3)]) (st' := []) rfl rfl ?_
  unfold f_X9_run at h
  refine r_aload_n C dX9_run_0 rfl 0 rfl ?_
  refine r_getp (f := 909) (j := 45) C flX9_57 dX9_run_1 kq_23 (by decide) rfl (fun W => pt_909 kq_23 W) ?_
  refine r_iconst (v := 1) C dX9_run_4 (by decide) ?_
  refine r_iconst (v := 0) C dX9_run_5 (by decide) ?_
  refine r_callVN C M h [.int 1, .int 0] [] mlX9_101 mcX1_reset (fun q9 e9 => s_X1_reset 45 1 0 kq_45 e9) kq_45 rfl (by decide) (by decide) rfl rfl (Nat.le_of_ble_eq_true rfl) dX9_run_6 (fun _ T1 h => ?_)
  show Jr _ _ _ _ _ _ 9 _
  refine r_aload_n C dX9_run_9 rfl 0 rfl ?_
  refine r_getp (f := 901) (j := 24) C flX9_12 dX9_run_10 kq_23 (by decide) rfl (fun W => pt_901 kq_23 W) ?_
  refine r_callVN C M h [] [] mlX9_105 mcX0_clear (fun q9 e9 => s_X0_clear   e9) kq_24 rfl (by decide) (by decide) rfl rfl (Nat.le_of_ble_eq_true rfl) dX9_run_13 (fun _ T2 h => ?_)
  refine r_aload_n C dX9_run_16 rfl 0 rfl ?_
  refine r_iconst (v := 0) C dX9_run_17 (by decide) ?_
  refine r_puti (f := 914) C flX9_108 (by decide) rfl rfl dX9_run_18 kq_23 rfl h (fun T3 h => ?_)
  show Jr _ _ _ _ _ _ 21 _
  refine r_aload_n C dX9_run_21 rfl 0 rfl ?_
  refine r_iconst (v := 0) C dX9_run_22 (by decide) ?_
  refine r_putz (f := 915) C flX9_111 (by decide) rfl rfl (by decide) dX9_run_23 kq_23 rfl h (fun T4 h => ?_)
  refine r_aload_n C dX9_run_26 rfl 0 rfl ?_
  refine r_aload_n C dX9_run_27 rfl 1 rfl ?_
  refine r_iload_n C dX9_run_28 rfl 2 rfl ?_
  show Jr _ _ _ _ _ _ 29 _
  refine r_iload_n C dX9_run_29 rfl 3 rfl ?_
  refine r_callVN C M h [.ref (ad p1), .int p2, .int p3] [] mlX9_114 mcX9_goThrough (fun q9 e9 => s_X9_goThrough (D := gmC_D 5) (by decide) (gmC_ok 5) p1 p2 p3 hk1 e9) kq_23 rfl (by decide) (by decide) rfl rfl (Nat.le_of_ble_eq_true rfl) dX9_run_30 (fun _ T5 h => ?_)
  refine r_aload_n C dX9_run_33 rfl 0 rfl ?_
  refine r_callVI C M h [] [] mlX9_118 mcX9_isMuch (fun q9 e9 => s_X9_isMuch   e9) kq_23 rfl (by decide) (by decide) rfl rfl (Nat.le_of_ble_eq_true rfl) dX9_run_34 (fun v6 T7 h => ?_)
  refine r_if_ne (tgt := 48) C dX9_run_37 (by decide) h (fun h => ?_) (fun h => ?_)
  · refine Jr.sub [0] (lv' := [(0, .ref (ad 23))]) rfl ?_
    exact s_X9_run_48 hn9 C M  T7 h
  · refine r_aload_n C dX9_run_40 rfl 0 rfl ?_
    refine r_callVN C M h [] [] mlX9_121 mcX9_keepStates (fun q9 e9 => s_X9_keepStates   e9) kq_23 rfl (by decide) (by decide) rfl rfl (Nat.le_of_ble_eq_true rfl) dX9_run_41 (fun _ T8 h => ?_)
    refine r_aload_n C dX9_run_44 rfl 0 rfl ?_
    refine r_callVN C M h [] [] mlX9_124 mcX9_reset (fun q9 e9 => s_X9_reset (D := gmC_D 5) (by decide) (gmC_ok 5)   e9) kq_23 rfl (by decide) (by decide) rfl rfl (Nat.le_of_ble_eq_true rfl) dX9_run_45 (fun _ T9 h => ?_)
    refine Jr.sub [0] (lv' := [(0, .ref (ad 23))]) rfl ?_
    exact s_X9_run_48 hn9 C M  T9 h
theorem dX3_byteAt_0 : decode cX3_byteAt 0 = .ok (.aload_n 0, 1) := by decide +kernel
theorem dX3_byteAt_1 : decode cX3_byteAt 1 = .ok (.getfield 37, 3) := by decide +kernel
theorem dX3_byteAt_4 : decode cX3_byteAt 4 = .ok (.i2l, 1) := by decide +kernel
theorem dX3_byteAt_5 : decode cX3_byteAt 5 = .ok (.lload_n 1, 1) := by decide +kernel
theorem dX3_byteAt_6 : decode cX3_byteAt 6 = .ok (.ladd, 1) := by decide +kernel
theorem dX3_byteAt_7 : decode cX3_byteAt 7 = .ok (.lstore_n 3, 1) := by decide +kernel
theorem dX3_byteAt_8 : decode cX3_byteAt 8 = .ok (.lload_n 1, 1) := by decide +kernel
theorem dX3_byteAt_9 : decode cX3_byteAt 9 = .ok (.lconst 0, 1) := by decide +kernel
theorem dX3_byteAt_10 : decode cX3_byteAt 10 = .ok (.lcmp, 1) := by decide +kernel
theorem dX3_byteAt_11 : decode cX3_byteAt 11 = .ok (.ifCond .lt 38, 3) := by decide +kernel
theorem dX3_byteAt_14 : decode cX3_byteAt 14 = .ok (.lload_n 1, 1) := by decide +kernel
theorem dX3_byteAt_15 : decode cX3_byteAt 15 = .ok (.aload_n 0, 1) := by decide +kernel
theorem dX3_byteAt_16 : decode cX3_byteAt 16 = .ok (.getfield 41, 3) := by decide +kernel
theorem dX3_byteAt_19 : decode cX3_byteAt 19 = .ok (.i2l, 1) := by decide +kernel
theorem dX3_byteAt_20 : decode cX3_byteAt 20 = .ok (.lcmp, 1) := by decide +kernel
theorem dX3_byteAt_21 : decode cX3_byteAt 21 = .ok (.ifCond .ge 28, 3) := by decide +kernel
theorem dX3_byteAt_24 : decode cX3_byteAt 24 = .ok (.lload_n 3, 1) := by decide +kernel
theorem dX3_byteAt_25 : decode cX3_byteAt 25 = .ok (.aload_n 0, 1) := by decide +kernel
theorem dX3_byteAt_26 : decode cX3_byteAt 26 = .ok (.getfield 9, 3) := by decide +kernel
theorem dX3_byteAt_29 : decode cX3_byteAt 29 = .ok (.arraylength, 1) := by decide +kernel
theorem dX3_byteAt_30 : decode cX3_byteAt 30 = .ok (.i2l, 1) := by decide +kernel
theorem dX3_byteAt_31 : decode cX3_byteAt 31 = .ok (.lcmp, 1) := by decide +kernel
theorem dX3_byteAt_32 : decode cX3_byteAt 32 = .ok (.ifCond .ge 17, 3) := by decide +kernel
theorem dX3_byteAt_35 : decode cX3_byteAt 35 = .ok (.aload_n 0, 1) := by decide +kernel
theorem dX3_byteAt_36 : decode cX3_byteAt 36 = .ok (.getfield 9, 3) := by decide +kernel
theorem dX3_byteAt_39 : decode cX3_byteAt 39 = .ok (.lload_n 3, 1) := by decide +kernel
theorem dX3_byteAt_40 : decode cX3_byteAt 40 = .ok (.l2i, 1) := by decide +kernel
theorem dX3_byteAt_41 : decode cX3_byteAt 41 = .ok (.baload, 1) := by decide +kernel
theorem dX3_byteAt_42 : decode cX3_byteAt 42 = .ok (.sipush 255, 3) := by decide +kernel
theorem dX3_byteAt_45 : decode cX3_byteAt 45 = .ok (.iand, 1) := by decide +kernel
theorem dX3_byteAt_46 : decode cX3_byteAt 46 = .ok (.goto 4, 3) := by decide +kernel
theorem dX3_byteAt_49 : decode cX3_byteAt 49 = .ok (.iconst 0, 1) := by decide +kernel
theorem dX3_byteAt_50 : decode cX3_byteAt 50 = .ok (.ireturn, 1) := by decide +kernel
noncomputable def f_X3_byteAt (p1 : Int64) (T : Mm) : Option (Int32 × Mm) :=
  lb (((((gI T 302 129)).toInt64) + p1)) fun v1 =>
  if (lg_cmp p1 0) < 0 then (some (0, T))
  else (if 0 ≤ (lg_cmp p1 (((gI T 303 129)).toInt64)) then (some (0, T))
  else (rf true (gR T 301 129) 13 fun j2 =>
  if 0 ≤ (lg_cmp v1 (((Int32.ofNat (LN j2))).toInt64)) then (some (0, T))
  else (rf true (gR T 301 129) 13 fun j4 =>
  ix ((v1).toInt32) (LN j4) fun j6 =>
  some (((gA T j4 j6) &&& 255), T))))
set_option maxRecDepth 100000 in
set_option maxHeartbeats 4000000 in
theorem s_X3_byteAt {ad : Nat → Nat} {U T : Mm} {q : Int32 × Mm}  (p1 : Int64) (h : f_X3_byteAt p1 T = some q) : Cr 1 yX3_byteAt cX3_byteAt 5 (some .int) [.ref (ad 129), .long p1] ad true U T eI q := by
  refine cr_of (by decide) (Nat.le_of_ble_eq_true rfl) fun x S0 hn9 C M => ?_
  have C : CB x RX3 cX3_byteAt := C
  refine Jr.eq (lv' := [(0, .ref (ad 129)), (1, .long p1)]) (st' := []) rfl rfl ?_
  unfold f_X3_byteAt at h
  refine r_aload_n C dX3_byteAt_0 rfl 0 rfl ?_
  refine r_geti (f := 302) C flX3_37 dX3_byteAt_1 kq_129 (by decide) (by decide) rfl ?_
  refine r_i2l C dX3_byteAt_4 rfl ?_
  refine r_lload_n C dX3_byteAt_5 rfl 1 rfl ?_
  refine r_ladd C dX3_byteAt_6 rfl ?_
  show Jr _ _ _ _ _ _ 7 _
  refine r_lbJ h (fun v1 h => ?_)
  refine r_lstore_n (lv' := [(3, .long v1), (0, .ref (ad 129)), (1, .long p1)]) C dX3_byteAt_7 rfl (by rw [hn9]; decide) rfl ?_
  refine r_lload_n C dX3_byteAt_8 rfl 2 rfl ?_
  refine r_lconst (v := 0) C dX3_byteAt_9 (by decide) ?_
  refine r_lcmp C dX3_byteAt_10 ?_
  refine r_if_lt (tgt := 49) C dX3_byteAt_11 (by decide) h (fun h => ?_) (fun h => ?_)
  · refine r_iconst (v := 0) C dX3_byteAt_49 (by decide) ?_
    exact r_iret C M dX3_byteAt_50 h
  · refine r_lload_n C dX3_byteAt_14 rfl 2 rfl ?_
    refine r_aload_n C dX3_byteAt_15 rfl 1 rfl ?_
    refine r_geti (f := 303) C flX3_41 dX3_byteAt_16 kq_129 (by decide) (by decide) rfl ?_
    refine r_i2l C dX3_byteAt_19 rfl ?_
    refine r_lcmp C dX3_byteAt_20 ?_
    show Jr _ _ _ _ _ _ 21 _
    refine r_if_ge (tgt := 49) C dX3_byteAt_21 (by decide) h (fun h => ?_) (fun h => ?_)
    · refine r_iconst (v := 0) C dX3_byteAt_49 (by decide) ?_
      exact r_iret C M dX3_byteAt_50 h
    · refine r_lload_n C dX3_byteAt_24 rfl 0 rfl ?_
      refine r_aload_n C dX3_byteAt_25 rfl 1 rfl ?_
      refine r_getr (f := 301) (c := 13) C flX3_9 dX3_byteAt_26 kq_129 (by decide) rfl h (fun j2 hj3 h => ?_)
      refine r_alen (n := 0) C dX3_byteAt_29 hj3 (by decide) (by decide) rfl ?_
      refine r_i2l C dX3_byteAt_30 rfl ?_
      show Jr _ _ _ _ _ _ 31 _
      refine r_lcmp C dX3_byteAt_31 ?_
      refine r_if_ge (tgt := 49) C dX3_byteAt_32 (by decide) h (fun h => ?_) (fun h => ?_)
      · refine r_iconst (v := 0) C dX3_byteAt_49 (by decide) ?_
        exact r_iret C M dX3_byteAt_50 h
      · refine r_aload_n C dX3_byteAt_35 rfl 1 rfl ?_
        refine r_getr (f := 301) (c := 13) C flX3_9 dX3_byteAt_36 kq_129 (by decide) rfl h (fun j4 hj5 h => ?_)
        refine r_lload_n C dX3_byteAt_39 rfl 0 rfl ?_
        refine r_l2i C dX3_byteAt_40 rfl ?_
        refine r_bald (n := (LN j4)) C dX3_byteAt_41 hj5 rfl h (fun j6 hj7 h => ?_)
        show Jr _ _ _ _ _ _ 42 _
        refine r_sipush (v := 255) C dX3_byteAt_42 (by decide) ?_
        refine r_iand C dX3_byteAt_45 rfl ?_
        refine r_goto (tgt := 50) C dX3_byteAt_46 (by decide) ?_
        exact r_iret C M dX3_byteAt_50 h
theorem dX3_fail_0 : decode cX3_fail 0 = .ok (.aload_n 0, 1) := by decide +kernel
theorem dX3_fail_1 : decode cX3_fail 1 = .ok (.getfield 44, 3) := by decide +kernel
theorem dX3_fail_4 : decode cX3_fail 4 = .ok (.ifCond .ne 22, 3) := by decide +kernel
theorem dX3_fail_7 : decode cX3_fail 7 = .ok (.aload_n 0, 1) := by decide +kernel
theorem dX3_fail_8 : decode cX3_fail 8 = .ok (.iload_n 1, 1) := by decide +kernel
theorem dX3_fail_9 : decode cX3_fail 9 = .ok (.putfield 44, 3) := by decide +kernel
theorem dX3_fail_12 : decode cX3_fail 12 = .ok (.aload_n 0, 1) := by decide +kernel
theorem dX3_fail_13 : decode cX3_fail 13 = .ok (.lload_n 2, 1) := by decide +kernel
theorem dX3_fail_14 : decode cX3_fail 14 = .ok (.aload_n 0, 1) := by decide +kernel
theorem dX3_fail_15 : decode cX3_fail 15 = .ok (.getfield 41, 3) := by decide +kernel
theorem dX3_fail_18 : decode cX3_fail 18 = .ok (.i2l, 1) := by decide +kernel
theorem dX3_fail_19 : decode cX3_fail 19 = .ok (.invokestatic 66, 3) := by decide +kernel
theorem dX3_fail_22 : decode cX3_fail 22 = .ok (.l2i, 1) := by decide +kernel
theorem dX3_fail_23 : decode cX3_fail 23 = .ok (.putfield 47, 3) := by decide +kernel
theorem dX3_fail_26 : decode cX3_fail 26 = .ok (.return_, 1) := by decide +kernel
noncomputable def f_X3_fail (p1 : Int32) (p2 : Int64) (T : Mm) : Option (Unit × Mm) :=
  if (gI T 304 129) = 0 then (lb (uI T 304 129 p1) fun T1 =>
  bd (f_J9_min_f86c9 p2 (((gI T1 303 129)).toInt64) T1) fun v2 T3 =>
  lb (uI T3 305 129 ((v2).toInt32)) fun T4 =>
  some ((), T4))
  else (some ((), T))
set_option maxRecDepth 100000 in
set_option maxHeartbeats 4000000 in
theorem s_X3_fail {ad : Nat → Nat} {U T : Mm} {q : Unit × Mm}  (p1 : Int32) (p2 : Int64) (h : f_X3_fail p1 p2 T = some q) : Cr 2 yX3_fail cX3_fail 4 none [.ref (ad 129), .int p1, .long p2] ad true U T eV q := by
  refine cr_of (by decide) (Nat.le_of_ble_eq_true rfl) fun x S0 hn9 C M => ?_
  have C : CB x RX3 cX3_fail := C
  refine Jr.eq (lv' := [(0, .ref (ad 129)), (1, .int p1), (2, .long p2)]) (st' := []) rfl rfl ?_
  unfold f_X3_fail at h
  refine r_aload_n C dX3_fail_0 rfl 0 rfl ?_
  refine r_geti (f := 304) C flX3_44 dX3_fail_1 kq_129 (by decide) (by decide) rfl ?_
  refine r_if_ne (tgt := 26) C dX3_fail_4 (by decide) h (fun h => ?_) (fun h => ?_)
  · exact r_vret C M dX3_fail_26 h
  · refine r_aload_n C dX3_fail_7 rfl 0 rfl ?_
    refine r_iload_n C dX3_fail_8 rfl 1 rfl ?_
    refine r_puti (f := 304) C flX3_44 (by decide) rfl rfl dX3_fail_9 kq_129 rfl h (fun T1 h => ?_)
    refine r_aload_n C dX3_fail_12 rfl 0 rfl ?_
    refine r_lload_n C dX3_fail_13 rfl 2 rfl ?_
    show Jr _ _ _ _ _ _ 14 _
    refine r_aload_n C dX3_fail_14 rfl 0 rfl ?_
    refine r_geti (f := 303) C flX3_41 dX3_fail_15 kq_129 (by decide) (by decide) rfl ?_
    refine r_i2l C dX3_fail_18 rfl ?_
    refine r_callSJ C M h [.long p2, .long (((gI T1 303 129)).toInt64)] [.ref (ad 129)] mlX3_66 mcJ9_min_f86c9 (fun q9 e9 => s_J9_min_f86c9 p2 (((gI T1 303 129)).toInt64)  e9) (by decide) (by decide) rfl rfl (Nat.le_of_ble_eq_true rfl) dX3_fail_19 (fun v2 T3 h => ?_)
    refine r_l2i C dX3_fail_22 rfl ?_
    refine r_puti (f := 305) C flX3_47 (by decide) rfl rfl dX3_fail_23 kq_129 rfl h (fun T4 h => ?_)
    show Jr _ _ _ _ _ _ 26 _
    exact r_vret C M dX3_fail_26 h
theorem dX3_readHeader_0 : decode cX3_readHeader 0 = .ok (.aload_n 0, 1) := by decide +kernel
theorem dX3_readHeader_1 : decode cX3_readHeader 1 = .ok (.lconst 0, 1) := by decide +kernel
theorem dX3_readHeader_2 : decode cX3_readHeader 2 = .ok (.invokevirtual 76, 3) := by decide +kernel
theorem dX3_readHeader_5 : decode cX3_readHeader 5 = .ok (.istore_n 1, 1) := by decide +kernel
theorem dX3_readHeader_6 : decode cX3_readHeader 6 = .ok (.aload_n 0, 1) := by decide +kernel
theorem dX3_readHeader_7 : decode cX3_readHeader 7 = .ok (.iload_n 1, 1) := by decide +kernel
theorem dX3_readHeader_8 : decode cX3_readHeader 8 = .ok (.bipush 73, 2) := by decide +kernel
theorem dX3_readHeader_10 : decode cX3_readHeader 10 = .ok (.if_icmp .ne 7, 3) := by decide +kernel
theorem dX3_readHeader_13 : decode cX3_readHeader 13 = .ok (.iconst 1, 1) := by decide +kernel
theorem dX3_readHeader_14 : decode cX3_readHeader 14 = .ok (.goto 4, 3) := by decide +kernel
theorem dX3_readHeader_17 : decode cX3_readHeader 17 = .ok (.iconst 0, 1) := by decide +kernel
theorem dX3_readHeader_18 : decode cX3_readHeader 18 = .ok (.putfield 72, 3) := by decide +kernel
theorem dX3_readHeader_21 : decode cX3_readHeader 21 = .ok (.iconst 0, 1) := by decide +kernel
theorem dX3_readHeader_22 : decode cX3_readHeader 22 = .ok (.istore_n 2, 1) := by decide +kernel
theorem dX3_readHeader_23 : decode cX3_readHeader 23 = .ok (.iload_n 2, 1) := by decide +kernel
theorem dX3_readHeader_24 : decode cX3_readHeader 24 = .ok (.bipush 8, 2) := by decide +kernel
theorem dX3_readHeader_26 : decode cX3_readHeader 26 = .ok (.if_icmp .ge 129, 3) := by decide +kernel
theorem dX3_readHeader_29 : decode cX3_readHeader 29 = .ok (.aload_n 0, 1) := by decide +kernel
theorem dX3_readHeader_30 : decode cX3_readHeader 30 = .ok (.getfield 44, 3) := by decide +kernel
theorem dX3_readHeader_33 : decode cX3_readHeader 33 = .ok (.ifCond .ne 122, 3) := by decide +kernel
theorem dX3_readHeader_36 : decode cX3_readHeader 36 = .ok (.iconst 1, 1) := by decide +kernel
theorem dX3_readHeader_37 : decode cX3_readHeader 37 = .ok (.istore_n 3, 1) := by decide +kernel
theorem dX3_readHeader_38 : decode cX3_readHeader 38 = .ok (.iload_n 2, 1) := by decide +kernel
theorem dX3_readHeader_39 : decode cX3_readHeader 39 = .ok (.ifCond .ne 24, 3) := by decide +kernel
theorem dX3_readHeader_42 : decode cX3_readHeader 42 = .ok (.iload_n 1, 1) := by decide +kernel
theorem dX3_readHeader_43 : decode cX3_readHeader 43 = .ok (.bipush 73, 2) := by decide +kernel
theorem dX3_readHeader_45 : decode cX3_readHeader 45 = .ok (.if_icmp .eq 9, 3) := by decide +kernel
theorem dX3_readHeader_48 : decode cX3_readHeader 48 = .ok (.iload_n 1, 1) := by decide +kernel
theorem dX3_readHeader_49 : decode cX3_readHeader 49 = .ok (.bipush 77, 2) := by decide +kernel
theorem dX3_readHeader_51 : decode cX3_readHeader 51 = .ok (.if_icmp .ne 7, 3) := by decide +kernel
theorem dX3_readHeader_54 : decode cX3_readHeader 54 = .ok (.iconst 1, 1) := by decide +kernel
theorem dX3_readHeader_55 : decode cX3_readHeader 55 = .ok (.goto 4, 3) := by decide +kernel
theorem dX3_readHeader_58 : decode cX3_readHeader 58 = .ok (.iconst 0, 1) := by decide +kernel
theorem dX3_readHeader_59 : decode cX3_readHeader 59 = .ok (.istore_n 3, 1) := by decide +kernel
theorem dX3_readHeader_60 : decode cX3_readHeader 60 = .ok (.goto 70, 3) := by decide +kernel
theorem dX3_readHeader_63 : decode cX3_readHeader 63 = .ok (.iload_n 2, 1) := by decide +kernel
theorem dX3_readHeader_64 : decode cX3_readHeader 64 = .ok (.iconst 1, 1) := by decide +kernel
theorem dX3_readHeader_65 : decode cX3_readHeader 65 = .ok (.if_icmp .ne 22, 3) := by decide +kernel
theorem dX3_readHeader_68 : decode cX3_readHeader 68 = .ok (.aload_n 0, 1) := by decide +kernel
theorem dX3_readHeader_69 : decode cX3_readHeader 69 = .ok (.iload_n 2, 1) := by decide +kernel
theorem dX3_readHeader_70 : decode cX3_readHeader 70 = .ok (.i2l, 1) := by decide +kernel
theorem dX3_readHeader_71 : decode cX3_readHeader 71 = .ok (.invokevirtual 76, 3) := by decide +kernel
theorem dX3_readHeader_74 : decode cX3_readHeader 74 = .ok (.iload_n 1, 1) := by decide +kernel
theorem dX3_readHeader_75 : decode cX3_readHeader 75 = .ok (.if_icmp .ne 7, 3) := by decide +kernel
theorem dX3_readHeader_78 : decode cX3_readHeader 78 = .ok (.iconst 1, 1) := by decide +kernel
theorem dX3_readHeader_79 : decode cX3_readHeader 79 = .ok (.goto 4, 3) := by decide +kernel
theorem dX3_readHeader_82 : decode cX3_readHeader 82 = .ok (.iconst 0, 1) := by decide +kernel
theorem dX3_readHeader_83 : decode cX3_readHeader 83 = .ok (.istore_n 3, 1) := by decide +kernel
theorem dX3_readHeader_84 : decode cX3_readHeader 84 = .ok (.goto 46, 3) := by decide +kernel
theorem dX3_readHeader_87 : decode cX3_readHeader 87 = .ok (.iload_n 2, 1) := by decide +kernel
theorem dX3_readHeader_88 : decode cX3_readHeader 88 = .ok (.iconst 4, 1) := by decide +kernel
theorem dX3_readHeader_89 : decode cX3_readHeader 89 = .ok (.if_icmp .ge 41, 3) := by decide +kernel
theorem dX3_readHeader_92 : decode cX3_readHeader 92 = .ok (.aload_n 0, 1) := by decide +kernel
theorem dX3_readHeader_93 : decode cX3_readHeader 93 = .ok (.iload_n 2, 1) := by decide +kernel
theorem dX3_readHeader_94 : decode cX3_readHeader 94 = .ok (.i2l, 1) := by decide +kernel
theorem dX3_readHeader_95 : decode cX3_readHeader 95 = .ok (.invokevirtual 76, 3) := by decide +kernel
theorem dX3_readHeader_98 : decode cX3_readHeader 98 = .ok (.aload_n 0, 1) := by decide +kernel
theorem dX3_readHeader_99 : decode cX3_readHeader 99 = .ok (.getfield 72, 3) := by decide +kernel
theorem dX3_readHeader_102 : decode cX3_readHeader 102 = .ok (.iload_n 2, 1) := by decide +kernel
theorem dX3_readHeader_103 : decode cX3_readHeader 103 = .ok (.iconst 2, 1) := by decide +kernel
theorem dX3_readHeader_104 : decode cX3_readHeader 104 = .ok (.if_icmp .ne 7, 3) := by decide +kernel
theorem dX3_readHeader_107 : decode cX3_readHeader 107 = .ok (.iconst 1, 1) := by decide +kernel
theorem dX3_readHeader_108 : decode cX3_readHeader 108 = .ok (.goto 4, 3) := by decide +kernel
theorem dX3_readHeader_111 : decode cX3_readHeader 111 = .ok (.iconst 0, 1) := by decide +kernel
theorem dX3_readHeader_112 : decode cX3_readHeader 112 = .ok (.if_icmp .ne 8, 3) := by decide +kernel
theorem dX3_readHeader_115 : decode cX3_readHeader 115 = .ok (.bipush 42, 2) := by decide +kernel
theorem dX3_readHeader_117 : decode cX3_readHeader 117 = .ok (.goto 4, 3) := by decide +kernel
theorem dX3_readHeader_120 : decode cX3_readHeader 120 = .ok (.iconst 0, 1) := by decide +kernel
theorem dX3_readHeader_121 : decode cX3_readHeader 121 = .ok (.if_icmp .ne 7, 3) := by decide +kernel
theorem dX3_readHeader_124 : decode cX3_readHeader 124 = .ok (.iconst 1, 1) := by decide +kernel
theorem dX3_readHeader_125 : decode cX3_readHeader 125 = .ok (.goto 4, 3) := by decide +kernel
theorem dX3_readHeader_128 : decode cX3_readHeader 128 = .ok (.iconst 0, 1) := by decide +kernel
theorem dX3_readHeader_129 : decode cX3_readHeader 129 = .ok (.istore_n 3, 1) := by decide +kernel
theorem dX3_readHeader_130 : decode cX3_readHeader 130 = .ok (.iload_n 2, 1) := by decide +kernel
theorem dX3_readHeader_131 : decode cX3_readHeader 131 = .ok (.aload_n 0, 1) := by decide +kernel
theorem dX3_readHeader_132 : decode cX3_readHeader 132 = .ok (.getfield 41, 3) := by decide +kernel
theorem dX3_readHeader_135 : decode cX3_readHeader 135 = .ok (.if_icmp .ge 7, 3) := by decide +kernel
theorem dX3_readHeader_138 : decode cX3_readHeader 138 = .ok (.iload_n 3, 1) := by decide +kernel
theorem dX3_readHeader_139 : decode cX3_readHeader 139 = .ok (.ifCond .ne 10, 3) := by decide +kernel
theorem dX3_readHeader_142 : decode cX3_readHeader 142 = .ok (.aload_n 0, 1) := by decide +kernel
theorem dX3_readHeader_143 : decode cX3_readHeader 143 = .ok (.iconst 2, 1) := by decide +kernel
theorem dX3_readHeader_144 : decode cX3_readHeader 144 = .ok (.iload_n 2, 1) := by decide +kernel
theorem dX3_readHeader_145 : decode cX3_readHeader 145 = .ok (.i2l, 1) := by decide +kernel
theorem dX3_readHeader_146 : decode cX3_readHeader 146 = .ok (.invokevirtual 80, 3) := by decide +kernel
theorem dX3_readHeader_149 : decode cX3_readHeader 149 = .ok (.iinc 2 1, 3) := by decide +kernel
theorem dX3_readHeader_152 : decode cX3_readHeader 152 = .ok (.goto (-129), 3) := by decide +kernel
theorem dX3_readHeader_155 : decode cX3_readHeader 155 = .ok (.return_, 1) := by decide +kernel
noncomputable def f_X3_readHeader_130 (k23 : Int32 → Int32 → Mm → Option (Unit × Mm)) (a1 : Int32) (a2 : Int32) (a3 : Int32) (T : Mm) : Option (Unit × Mm) :=
  if (gI T 303 129) ≤ a2 then (bd (f_X3_fail 2 ((a2).toInt64) T) fun _ T1 =>
  k23 a1 (a2 + 1) T1)
  else (if a3 = 0 then (bd (f_X3_fail 2 ((a2).toInt64) T) fun _ T2 =>
  k23 a1 (a2 + 1) T2)
  else (k23 a1 (a2 + 1) T))
set_option maxRecDepth 100000 in
set_option maxHeartbeats 4000000 in
theorem s_X3_readHeader_130 {x : JX} {ad : Nat → Nat} {U : Mm} {S0 : Hp} {q : Unit × Mm}  {k23 : Int32 → Int32 → Mm → Option (Unit × Mm)} (hn9 : x_n x = 4) (C : CB x RX3 cX3_readHeader) (M : CMr x 3 none S0 ad true U eV q) (hk23 : ∀ (a1 : Int32) (a2 : Int32) (T : Mm), k23 a1 a2 T = some q → Jr x ad true U T [(0, .ref (ad 129)), (1, .int a1), (2, .int a2)] 23 []) (a1 : Int32) (a2 : Int32) (a3 : Int32) (T : Mm) (h : f_X3_readHeader_130 k23 a1 a2 a3 T = some q) : Jr x ad true U T [(0, .ref (ad 129)), (1, .int a1), (2, .int a2), (3, .int a3)] 130 [] := by
  unfold f_X3_readHeader_130 at h
  refine r_iload_n C dX3_readHeader_130 rfl 2 rfl ?_
  refine r_aload_n C dX3_readHeader_131 rfl 0 rfl ?_
  refine r_geti (f := 303) C flX3_41 dX3_readHeader_132 kq_129 (by decide) (by decide) rfl ?_
  refine r_ic_ge (tgt := 142) C dX3_readHeader_135 (by decide) h (fun h => ?_) (fun h => ?_)
  · refine r_aload_n C dX3_readHeader_142 rfl 0 rfl ?_
    refine r_iconst (v := 2) C dX3_readHeader_143 (by decide) ?_
    refine r_iload_n C dX3_readHeader_144 rfl 2 rfl ?_
    refine r_i2l C dX3_readHeader_145 rfl ?_
    refine r_callVN C M h [.int 2, .long ((a2).toInt64)] [] mlX3_80 mcX3_fail (fun q9 e9 => s_X3_fail 2 ((a2).toInt64)  e9) kq_129 rfl (by decide) (by decide) rfl rfl (Nat.le_of_ble_eq_true rfl) dX3_readHeader_146 (fun _ T1 h => ?_)
    show Jr _ _ _ _ _ _ 149 _
    refine r_iinc (q := 2) (v := (a2 + 1)) (lv' := [(2, .int (a2 + 1)), (0, .ref (ad 129)), (1, .int a1), (3, .int a3)]) C dX3_readHeader_149 rfl (by rw [show Int32.ofInt (1) = 1 by decide]) (by rw [hn9]; decide) rfl ?_
    refine r_goto (tgt := 23) C dX3_readHeader_152 (by decide) ?_
    refine Jr.sub [1, 2, 0] (lv' := [(0, .ref (ad 129)), (1, .int a1), (2, .int (a2 + 1))]) rfl ?_
    exact hk23 a1 (a2 + 1) T1 h
  · refine r_iload_n C dX3_readHeader_138 rfl 3 rfl ?_
    refine r_if_ne (tgt := 149) C dX3_readHeader_139 (by decide) h (fun h => ?_) (fun h => ?_)
    · refine r_iinc (q := 2) (v := (a2 + 1)) (lv' := [(2, .int (a2 + 1)), (0, .ref (ad 129)), (1, .int a1), (3, .int a3)]) C dX3_readHeader_149 rfl (by rw [show Int32.ofInt (1) = 1 by decide]) (by rw [hn9]; decide) rfl ?_
      refine r_goto (tgt := 23) C dX3_readHeader_152 (by decide) ?_
      refine Jr.sub [1, 2, 0] (lv' := [(0, .ref (ad 129)), (1, .int a1), (2, .int (a2 + 1))]) rfl ?_
      exact hk23 a1 (a2 + 1) T h
    · refine r_aload_n C dX3_readHeader_142 rfl 0 rfl ?_
      refine r_iconst (v := 2) C dX3_readHeader_143 (by decide) ?_
      refine r_iload_n C dX3_readHeader_144 rfl 2 rfl ?_
      refine r_i2l C dX3_readHeader_145 rfl ?_
      refine r_callVN C M h [.int 2, .long ((a2).toInt64)] [] mlX3_80 mcX3_fail (fun q9 e9 => s_X3_fail 2 ((a2).toInt64)  e9) kq_129 rfl (by decide) (by decide) rfl rfl (Nat.le_of_ble_eq_true rfl) dX3_readHeader_146 (fun _ T2 h => ?_)
      show Jr _ _ _ _ _ _ 149 _
      refine r_iinc (q := 2) (v := (a2 + 1)) (lv' := [(2, .int (a2 + 1)), (0, .ref (ad 129)), (1, .int a1), (3, .int a3)]) C dX3_readHeader_149 rfl (by rw [show Int32.ofInt (1) = 1 by decide]) (by rw [hn9]; decide) rfl ?_
      refine r_goto (tgt := 23) C dX3_readHeader_152 (by decide) ?_
      refine Jr.sub [1, 2, 0] (lv' := [(0, .ref (ad 129)), (1, .int a1), (2, .int (a2 + 1))]) rfl ?_
      exact hk23 a1 (a2 + 1) T2 h
noncomputable def f_X3_readHeader_121 (k23 : Int32 → Int32 → Mm → Option (Unit × Mm)) (a1 : Int32) (a2 : Int32) (b0 : Int32) (b1 : Int32) (T : Mm) : Option (Unit × Mm) :=
  if b1 = b0 then (f_X3_readHeader_130 k23 a1 a2 1 T)
  else (f_X3_readHeader_130 k23 a1 a2 0 T)
set_option maxRecDepth 100000 in
set_option maxHeartbeats 4000000 in
theorem s_X3_readHeader_121 {x : JX} {ad : Nat → Nat} {U : Mm} {S0 : Hp} {q : Unit × Mm}  {k23 : Int32 → Int32 → Mm → Option (Unit × Mm)} (hn9 : x_n x = 4) (C : CB x RX3 cX3_readHeader) (M : CMr x 3 none S0 ad true U eV q) (hk23 : ∀ (a1 : Int32) (a2 : Int32) (T : Mm), k23 a1 a2 T = some q → Jr x ad true U T [(0, .ref (ad 129)), (1, .int a1), (2, .int a2)] 23 []) (a1 : Int32) (a2 : Int32) (b0 : Int32) (b1 : Int32) (T : Mm) (h : f_X3_readHeader_121 k23 a1 a2 b0 b1 T = some q) : Jr x ad true U T [(0, .ref (ad 129)), (1, .int a1), (2, .int a2)] 121 [.int b0, .int b1] := by
  unfold f_X3_readHeader_121 at h
  refine r_ic_ne (tgt := 128) C dX3_readHeader_121 (by decide) h (fun h => ?_) (fun h => ?_)
  · refine r_iconst (v := 0) C dX3_readHeader_128 (by decide) ?_
    refine r_istore_n (lv' := [(3, .int 0), (0, .ref (ad 129)), (1, .int a1), (2, .int a2)]) C dX3_readHeader_129 rfl (by rw [hn9]; decide) rfl ?_
    refine Jr.sub [1, 2, 3, 0] (lv' := [(0, .ref (ad 129)), (1, .int a1), (2, .int a2), (3, .int 0)]) rfl ?_
    exact s_X3_readHeader_130 hn9 C M hk23 a1 a2 0 T h
  · refine r_iconst (v := 1) C dX3_readHeader_124 (by decide) ?_
    refine r_goto (tgt := 129) C dX3_readHeader_125 (by decide) ?_
    refine r_istore_n (lv' := [(3, .int 1), (0, .ref (ad 129)), (1, .int a1), (2, .int a2)]) C dX3_readHeader_129 rfl (by rw [hn9]; decide) rfl ?_
    refine Jr.sub [1, 2, 3, 0] (lv' := [(0, .ref (ad 129)), (1, .int a1), (2, .int a2), (3, .int 1)]) rfl ?_
    exact s_X3_readHeader_130 hn9 C M hk23 a1 a2 1 T h
noncomputable def f_X3_readHeader_112 (k23 : Int32 → Int32 → Mm → Option (Unit × Mm)) (a1 : Int32) (a2 : Int32) (b0 : Int32) (b1 : Int32) (b2 : Int32) (T : Mm) : Option (Unit × Mm) :=
  if b1 = b0 then (f_X3_readHeader_121 k23 a1 a2 42 b2 T)
  else (f_X3_readHeader_121 k23 a1 a2 0 b2 T)
set_option maxRecDepth 100000 in
set_option maxHeartbeats 4000000 in
theorem s_X3_readHeader_112 {x : JX} {ad : Nat → Nat} {U : Mm} {S0 : Hp} {q : Unit × Mm}  {k23 : Int32 → Int32 → Mm → Option (Unit × Mm)} (hn9 : x_n x = 4) (C : CB x RX3 cX3_readHeader) (M : CMr x 3 none S0 ad true U eV q) (hk23 : ∀ (a1 : Int32) (a2 : Int32) (T : Mm), k23 a1 a2 T = some q → Jr x ad true U T [(0, .ref (ad 129)), (1, .int a1), (2, .int a2)] 23 []) (a1 : Int32) (a2 : Int32) (b0 : Int32) (b1 : Int32) (b2 : Int32) (T : Mm) (h : f_X3_readHeader_112 k23 a1 a2 b0 b1 b2 T = some q) : Jr x ad true U T [(0, .ref (ad 129)), (1, .int a1), (2, .int a2)] 112 [.int b0, .int b1, .int b2] := by
  unfold f_X3_readHeader_112 at h
  refine r_ic_ne (tgt := 120) C dX3_readHeader_112 (by decide) h (fun h => ?_) (fun h => ?_)
  · refine r_iconst (v := 0) C dX3_readHeader_120 (by decide) ?_
    exact s_X3_readHeader_121 hn9 C M hk23 a1 a2 0 b2 T h
  · refine r_bipush (v := 42) C dX3_readHeader_115 (by decide) ?_
    refine r_goto (tgt := 121) C dX3_readHeader_117 (by decide) ?_
    exact s_X3_readHeader_121 hn9 C M hk23 a1 a2 42 b2 T h
noncomputable def f_X3_readHeader_b23 (k23 : Int32 → Int32 → Mm → Option (Unit × Mm)) (a1 : Int32) (a2 : Int32) (T : Mm) : Option (Unit × Mm) :=
  if 8 ≤ a2 then (some ((), T))
  else (if (gI T 304 129) = 0 then (if a2 = 0 then (if a1 = 73 then (f_X3_readHeader_130 k23 a1 a2 1 T)
  else (if a1 = 77 then (f_X3_readHeader_130 k23 a1 a2 1 T)
  else (f_X3_readHeader_130 k23 a1 a2 0 T)))
  else (if a2 = 1 then (bd (f_X3_byteAt ((a2).toInt64) T) fun v3 T4 =>
  if v3 = a1 then (f_X3_readHeader_130 k23 a1 a2 1 T4)
  else (f_X3_readHeader_130 k23 a1 a2 0 T4))
  else (if 4 ≤ a2 then (f_X3_readHeader_130 k23 a1 a2 1 T)
  else (bd (f_X3_byteAt ((a2).toInt64) T) fun v1 T2 =>
  if a2 = 2 then (f_X3_readHeader_112 k23 a1 a2 1 (gI T2 306 129) v1 T2)
  else (f_X3_readHeader_112 k23 a1 a2 0 (gI T2 306 129) v1 T2)))))
  else (some ((), T)))
set_option maxRecDepth 100000 in
set_option maxHeartbeats 4000000 in
theorem s_X3_readHeader_b23 {x : JX} {ad : Nat → Nat} {U : Mm} {S0 : Hp} {q : Unit × Mm}  {k23 : Int32 → Int32 → Mm → Option (Unit × Mm)} (hn9 : x_n x = 4) (C : CB x RX3 cX3_readHeader) (M : CMr x 3 none S0 ad true U eV q) (hk23 : ∀ (a1 : Int32) (a2 : Int32) (T : Mm), k23 a1 a2 T = some q → Jr x ad true U T [(0, .ref (ad 129)), (1, .int a1), (2, .int a2)] 23 []) (a1 : Int32) (a2 : Int32) (T : Mm) (h : f_X3_readHeader_b23 k23 a1 a2 T = some q) : Jr x ad true U T [(0, .ref (ad 129)), (1, .int a1), (2, .int a2)] 23 [] := by
  unfold f_X3_readHeader_b23 at h
  refine r_iload_n C dX3_readHeader_23 rfl 2 rfl ?_
  refine r_bipush (v := 8) C dX3_readHeader_24 (by decide) ?_
  refine r_ic_ge (tgt := 155) C dX3_readHeader_26 (by decide) h (fun h => ?_) (fun h => ?_)
  · exact r_vret C M dX3_readHeader_155 h
  · refine r_aload_n C dX3_readHeader_29 rfl 0 rfl ?_
    refine r_geti (f := 304) C flX3_44 dX3_readHeader_30 kq_129 (by decide) (by decide) rfl ?_
    refine r_if_ne (tgt := 155) C dX3_readHeader_33 (by decide) h (fun h => ?_) (fun h => ?_)
    · exact r_vret C M dX3_readHeader_155 h
    · refine r_iconst (v := 1) C dX3_readHeader_36 (by decide) ?_
      refine r_istore_n (lv' := [(3, .int 1), (0, .ref (ad 129)), (1, .int a1), (2, .int a2)]) C dX3_readHeader_37 rfl (by rw [hn9]; decide) rfl ?_
      refine r_iload_n C dX3_readHeader_38 rfl 3 rfl ?_
      refine r_if_ne (tgt := 63) C dX3_readHeader_39 (by decide) h (fun h => ?_) (fun h => ?_)
      · refine r_iload_n C dX3_readHeader_63 rfl 3 rfl ?_
        refine r_iconst (v := 1) C dX3_readHeader_64 (by decide) ?_
        refine r_ic_ne (tgt := 87) C dX3_readHeader_65 (by decide) h (fun h => ?_) (fun h => ?_)
        · refine r_iload_n C dX3_readHeader_87 rfl 3 rfl ?_
          refine r_iconst (v := 4) C dX3_readHeader_88 (by decide) ?_
          refine r_ic_ge (tgt := 130) C dX3_readHeader_89 (by decide) h (fun h => ?_) (fun h => ?_)
          · refine Jr.sub [1, 2, 3, 0] (lv' := [(0, .ref (ad 129)), (1, .int a1), (2, .int a2), (3, .int 1)]) rfl ?_
            exact s_X3_readHeader_130 hn9 C M hk23 a1 a2 1 T h
          · refine r_aload_n C dX3_readHeader_92 rfl 1 rfl ?_
            refine r_iload_n C dX3_readHeader_93 rfl 3 rfl ?_
            refine r_i2l C dX3_readHeader_94 rfl ?_
            refine r_callVI C M h [.long ((a2).toInt64)] [] mlX3_76 mcX3_byteAt (fun q9 e9 => s_X3_byteAt ((a2).toInt64)  e9) kq_129 rfl (by decide) (by decide) rfl rfl (Nat.le_of_ble_eq_true rfl) dX3_readHeader_95 (fun v1 T2 h => ?_)
            refine r_aload_n C dX3_readHeader_98 rfl 1 rfl ?_
            show Jr _ _ _ _ _ _ 99 _
            refine r_geti (f := 306) C flX3_72 dX3_readHeader_99 kq_129 (by decide) (by decide) rfl ?_
            refine r_iload_n C dX3_readHeader_102 rfl 3 rfl ?_
            refine r_iconst (v := 2) C dX3_readHeader_103 (by decide) ?_
            refine r_ic_ne (tgt := 111) C dX3_readHeader_104 (by decide) h (fun h => ?_) (fun h => ?_)
            · refine r_iconst (v := 0) C dX3_readHeader_111 (by decide) ?_
              refine Jr.sub [1, 2, 3] (lv' := [(0, .ref (ad 129)), (1, .int a1), (2, .int a2)]) rfl ?_
              exact s_X3_readHeader_112 hn9 C M hk23 a1 a2 0 (gI T2 306 129) v1 T2 h
            · refine r_iconst (v := 1) C dX3_readHeader_107 (by decide) ?_
              refine r_goto (tgt := 112) C dX3_readHeader_108 (by decide) ?_
              refine Jr.sub [1, 2, 3] (lv' := [(0, .ref (ad 129)), (1, .int a1), (2, .int a2)]) rfl ?_
              exact s_X3_readHeader_112 hn9 C M hk23 a1 a2 1 (gI T2 306 129) v1 T2 h
        · refine r_aload_n C dX3_readHeader_68 rfl 1 rfl ?_
          refine r_iload_n C dX3_readHeader_69 rfl 3 rfl ?_
          refine r_i2l C dX3_readHeader_70 rfl ?_
          refine r_callVI C M h [.long ((a2).toInt64)] [] mlX3_76 mcX3_byteAt (fun q9 e9 => s_X3_byteAt ((a2).toInt64)  e9) kq_129 rfl (by decide) (by decide) rfl rfl (Nat.le_of_ble_eq_true rfl) dX3_readHeader_71 (fun v3 T4 h => ?_)
          refine r_iload_n C dX3_readHeader_74 rfl 2 rfl ?_
          show Jr _ _ _ _ _ _ 75 _
          refine r_ic_ne (tgt := 82) C dX3_readHeader_75 (by decide) h (fun h => ?_) (fun h => ?_)
          · refine r_iconst (v := 0) C dX3_readHeader_82 (by decide) ?_
            refine r_istore_n (lv' := [(3, .int 0), (0, .ref (ad 129)), (1, .int a1), (2, .int a2)]) C dX3_readHeader_83 rfl (by rw [hn9]; decide) rfl ?_
            refine r_goto (tgt := 130) C dX3_readHeader_84 (by decide) ?_
            refine Jr.sub [1, 2, 3, 0] (lv' := [(0, .ref (ad 129)), (1, .int a1), (2, .int a2), (3, .int 0)]) rfl ?_
            exact s_X3_readHeader_130 hn9 C M hk23 a1 a2 0 T4 h
          · refine r_iconst (v := 1) C dX3_readHeader_78 (by decide) ?_
            refine r_goto (tgt := 83) C dX3_readHeader_79 (by decide) ?_
            refine r_istore_n (lv' := [(3, .int 1), (0, .ref (ad 129)), (1, .int a1), (2, .int a2)]) C dX3_readHeader_83 rfl (by rw [hn9]; decide) rfl ?_
            refine r_goto (tgt := 130) C dX3_readHeader_84 (by decide) ?_
            refine Jr.sub [1, 2, 3, 0] (lv' := [(0, .ref (ad 129)), (1, .int a1), (2, .int a2), (3, .int 1)]) rfl ?_
            exact s_X3_readHeader_130 hn9 C M hk23 a1 a2 1 T4 h
      · refine r_iload_n C dX3_readHeader_42 rfl 2 rfl ?_
        refine r_bipush (v := 73) C dX3_readHeader_43 (by decide) ?_
        refine r_ic_eq (tgt := 54) C dX3_readHeader_45 (by decide) h (fun h => ?_) (fun h => ?_)
        · refine r_iconst (v := 1) C dX3_readHeader_54 (by decide) ?_
          refine r_goto (tgt := 59) C dX3_readHeader_55 (by decide) ?_
          refine r_istore_n (lv' := [(3, .int 1), (0, .ref (ad 129)), (1, .int a1), (2, .int a2)]) C dX3_readHeader_59 rfl (by rw [hn9]; decide) rfl ?_
          refine r_goto (tgt := 130) C dX3_readHeader_60 (by decide) ?_
          refine Jr.sub [1, 2, 3, 0] (lv' := [(0, .ref (ad 129)), (1, .int a1), (2, .int a2), (3, .int 1)]) rfl ?_
          exact s_X3_readHeader_130 hn9 C M hk23 a1 a2 1 T h
        · refine r_iload_n C dX3_readHeader_48 rfl 2 rfl ?_
          refine r_bipush (v := 77) C dX3_readHeader_49 (by decide) ?_
          refine r_ic_ne (tgt := 58) C dX3_readHeader_51 (by decide) h (fun h => ?_) (fun h => ?_)
          · refine r_iconst (v := 0) C dX3_readHeader_58 (by decide) ?_
            refine r_istore_n (lv' := [(3, .int 0), (0, .ref (ad 129)), (1, .int a1), (2, .int a2)]) C dX3_readHeader_59 rfl (by rw [hn9]; decide) rfl ?_
            refine r_goto (tgt := 130) C dX3_readHeader_60 (by decide) ?_
            refine Jr.sub [1, 2, 3, 0] (lv' := [(0, .ref (ad 129)), (1, .int a1), (2, .int a2), (3, .int 0)]) rfl ?_
            exact s_X3_readHeader_130 hn9 C M hk23 a1 a2 0 T h
          · refine r_iconst (v := 1) C dX3_readHeader_54 (by decide) ?_
            refine r_goto (tgt := 59) C dX3_readHeader_55 (by decide) ?_
            refine r_istore_n (lv' := [(3, .int 1), (0, .ref (ad 129)), (1, .int a1), (2, .int a2)]) C dX3_readHeader_59 rfl (by rw [hn9]; decide) rfl ?_
            refine r_goto (tgt := 130) C dX3_readHeader_60 (by decide) ?_
            refine Jr.sub [1, 2, 3, 0] (lv' := [(0, .ref (ad 129)), (1, .int a1), (2, .int a2), (3, .int 1)]) rfl ?_
            exact s_X3_readHeader_130 hn9 C M hk23 a1 a2 1 T h
noncomputable def f_X3_readHeader_l23 (n : Nat) : Int32 → Int32 → Mm → Option (Unit × Mm) := Nat.rec (fun _ _ _ => none) (fun _ ih => f_X3_readHeader_b23 ih) n
theorem s_X3_readHeader_l23 {x : JX} {ad : Nat → Nat} {U : Mm} {S0 : Hp} {q : Unit × Mm}  (hn9 : x_n x = 4) (C : CB x RX3 cX3_readHeader) (M : CMr x 3 none S0 ad true U eV q) : ∀ (n : Nat), ∀ (a1 : Int32) (a2 : Int32) (T : Mm), f_X3_readHeader_l23  n a1 a2 T = some q → Jr x ad true U T [(0, .ref (ad 129)), (1, .int a1), (2, .int a2)] 23 [] := by
  intro n
  induction n with
  | zero => intro a1 a2 T  h; exact absurd h (by intro h; cases h)
  | succ n ih => exact fun a1 a2 T  h => s_X3_readHeader_b23 hn9 C M (ih) a1 a2 T  h
noncomputable def f_X3_readHeader (T : Mm) : Option (Unit × Mm) :=
  bd (f_X3_byteAt 0 T) fun v1 T2 =>
  if v1 = 73 then (lb (uI T2 306 129 1) fun T4 =>
  f_X3_readHeader_l23 FU v1 0 T4)
  else (lb (uI T2 306 129 0) fun T3 =>
  f_X3_readHeader_l23 FU v1 0 T3)
set_option maxRecDepth 100000 in
set_option maxHeartbeats 4000000 in
theorem s_X3_readHeader {ad : Nat → Nat} {U T : Mm} {q : Unit × Mm}  (h : f_X3_readHeader  T = some q) : Cr 3 yX3_readHeader cX3_readHeader 4 none [.ref (ad 129)] ad true U T eV q := by
  refine cr_of (by decide) (Nat.le_of_ble_eq_true rfl) fun x S0 hn9 C M => ?_
  have C : CB x RX3 cX3_readHeader := C
  refine Jr.eq (lv' := [(0, .ref (ad 129))]) (st' := []) rfl rfl ?_
  unfold f_X3_readHeader at h
  refine r_aload_n C dX3_readHeader_0 rfl 0 rfl ?_
  refine r_lconst (v := 0) C dX3_readHeader_1 (by decide) ?_
  refine r_callVI C M h [.long 0] [] mlX3_76 mcX3_byteAt (fun q9 e9 => s_X3_byteAt 0  e9) kq_129 rfl (by decide) (by decide) rfl rfl (Nat.le_of_ble_eq_true rfl) dX3_readHeader_2 (fun v1 T2 h => ?_)
  refine r_istore_n (lv' := [(1, .int v1), (0, .ref (ad 129))]) C dX3_readHeader_5 rfl (by rw [hn9]; decide) rfl ?_
  refine r_aload_n C dX3_readHeader_6 rfl 1 rfl ?_
  show Jr _ _ _ _ _ _ 7 _
  refine r_iload_n C dX3_readHeader_7 rfl 0 rfl ?_
  refine r_bipush (v := 73) C dX3_readHeader_8 (by decide) ?_
  refine r_ic_ne (tgt := 17) C dX3_readHeader_10 (by decide) h (fun h => ?_) (fun h => ?_)
  · refine r_iconst (v := 0) C dX3_readHeader_17 (by decide) ?_
    refine r_putz (f := 306) C flX3_72 (by decide) rfl rfl (by decide) dX3_readHeader_18 kq_129 rfl h (fun T3 h => ?_)
    refine r_iconst (v := 0) C dX3_readHeader_21 (by decide) ?_
    refine r_istore_n (lv' := [(2, .int 0), (1, .int v1), (0, .ref (ad 129))]) C dX3_readHeader_22 rfl (by rw [hn9]; decide) rfl ?_
    refine Jr.sub [2, 1, 0] (lv' := [(0, .ref (ad 129)), (1, .int v1), (2, .int 0)]) rfl ?_
    exact s_X3_readHeader_l23 hn9 C M  FU v1 0 T3 h
  · refine r_iconst (v := 1) C dX3_readHeader_13 (by decide) ?_
    refine r_goto (tgt := 18) C dX3_readHeader_14 (by decide) ?_
    refine r_putz (f := 306) C flX3_72 (by decide) rfl rfl (by decide) dX3_readHeader_18 kq_129 rfl h (fun T4 h => ?_)
    refine r_iconst (v := 0) C dX3_readHeader_21 (by decide) ?_
    refine r_istore_n (lv' := [(2, .int 0), (1, .int v1), (0, .ref (ad 129))]) C dX3_readHeader_22 rfl (by rw [hn9]; decide) rfl ?_
    refine Jr.sub [2, 1, 0] (lv' := [(0, .ref (ad 129)), (1, .int v1), (2, .int 0)]) rfl ?_
    exact s_X3_readHeader_l23 hn9 C M  FU v1 0 T4 h
theorem dX3_number_0 : decode cX3_number 0 = .ok (.lconst 0, 1) := by decide +kernel
theorem dX3_number_1 : decode cX3_number 1 = .ok (.lstore 4, 2) := by decide +kernel
theorem dX3_number_3 : decode cX3_number 3 = .ok (.iconst 0, 1) := by decide +kernel
theorem dX3_number_4 : decode cX3_number 4 = .ok (.istore 6, 2) := by decide +kernel
theorem dX3_number_6 : decode cX3_number 6 = .ok (.iload 6, 2) := by decide +kernel
theorem dX3_number_8 : decode cX3_number 8 = .ok (.iload_n 3, 1) := by decide +kernel
theorem dX3_number_9 : decode cX3_number 9 = .ok (.if_icmp .ge 47, 3) := by decide +kernel
theorem dX3_number_12 : decode cX3_number 12 = .ok (.lload 4, 2) := by decide +kernel
theorem dX3_number_14 : decode cX3_number 14 = .ok (.bipush 8, 2) := by decide +kernel
theorem dX3_number_16 : decode cX3_number 16 = .ok (.lshl, 1) := by decide +kernel
theorem dX3_number_17 : decode cX3_number 17 = .ok (.aload_n 0, 1) := by decide +kernel
theorem dX3_number_18 : decode cX3_number 18 = .ok (.aload_n 0, 1) := by decide +kernel
theorem dX3_number_19 : decode cX3_number 19 = .ok (.getfield 72, 3) := by decide +kernel
theorem dX3_number_22 : decode cX3_number 22 = .ok (.ifCond .eq 16, 3) := by decide +kernel
theorem dX3_number_25 : decode cX3_number 25 = .ok (.lload_n 1, 1) := by decide +kernel
theorem dX3_number_26 : decode cX3_number 26 = .ok (.iload_n 3, 1) := by decide +kernel
theorem dX3_number_27 : decode cX3_number 27 = .ok (.i2l, 1) := by decide +kernel
theorem dX3_number_28 : decode cX3_number 28 = .ok (.ladd, 1) := by decide +kernel
theorem dX3_number_29 : decode cX3_number 29 = .ok (.lconst 1, 1) := by decide +kernel
theorem dX3_number_30 : decode cX3_number 30 = .ok (.lsub, 1) := by decide +kernel
theorem dX3_number_31 : decode cX3_number 31 = .ok (.iload 6, 2) := by decide +kernel
theorem dX3_number_33 : decode cX3_number 33 = .ok (.i2l, 1) := by decide +kernel
theorem dX3_number_34 : decode cX3_number 34 = .ok (.lsub, 1) := by decide +kernel
theorem dX3_number_35 : decode cX3_number 35 = .ok (.goto 8, 3) := by decide +kernel
theorem dX3_number_38 : decode cX3_number 38 = .ok (.lload_n 1, 1) := by decide +kernel
theorem dX3_number_39 : decode cX3_number 39 = .ok (.iload 6, 2) := by decide +kernel
theorem dX3_number_41 : decode cX3_number 41 = .ok (.i2l, 1) := by decide +kernel
theorem dX3_number_42 : decode cX3_number 42 = .ok (.ladd, 1) := by decide +kernel
theorem dX3_number_43 : decode cX3_number 43 = .ok (.invokevirtual 76, 3) := by decide +kernel
theorem dX3_number_46 : decode cX3_number 46 = .ok (.i2l, 1) := by decide +kernel
theorem dX3_number_47 : decode cX3_number 47 = .ok (.lor, 1) := by decide +kernel
theorem dX3_number_48 : decode cX3_number 48 = .ok (.lstore 4, 2) := by decide +kernel
theorem dX3_number_50 : decode cX3_number 50 = .ok (.iinc 6 1, 3) := by decide +kernel
theorem dX3_number_53 : decode cX3_number 53 = .ok (.goto (-47), 3) := by decide +kernel
theorem dX3_number_56 : decode cX3_number 56 = .ok (.lload 4, 2) := by decide +kernel
theorem dX3_number_58 : decode cX3_number 58 = .ok (.lreturn, 1) := by decide +kernel
noncomputable def f_X3_number_b6 (k6 : Int64 → Int32 → Int64 → Int32 → Mm → Option (Int64 × Mm)) (a1 : Int64) (a3 : Int32) (a4 : Int64) (a6 : Int32) (T : Mm) : Option (Int64 × Mm) :=
  if a3 ≤ a6 then (some (a4, T))
  else (if (gI T 306 129) = 0 then (bd (f_X3_byteAt (a1 + ((a6).toInt64)) T) fun v1 T2 =>
  lb (((a4 <<< ((8 : Int32).toInt64 &&& 63)) ||| ((v1).toInt64))) fun v3 =>
  k6 a1 a3 v3 (a6 + 1) T2)
  else (bd (f_X3_byteAt (((a1 + ((a3).toInt64)) - 1) - ((a6).toInt64)) T) fun v4 T5 =>
  lb (((a4 <<< ((8 : Int32).toInt64 &&& 63)) ||| ((v4).toInt64))) fun v6 =>
  k6 a1 a3 v6 (a6 + 1) T5))
set_option maxRecDepth 100000 in
set_option maxHeartbeats 4000000 in
theorem s_X3_number_b6 {x : JX} {ad : Nat → Nat} {U : Mm} {S0 : Hp} {q : Int64 × Mm}  {k6 : Int64 → Int32 → Int64 → Int32 → Mm → Option (Int64 × Mm)} (hn9 : x_n x = 7) (C : CB x RX3 cX3_number) (M : CMr x 2 (some .long) S0 ad true U eJ q) (hk6 : ∀ (a1 : Int64) (a3 : Int32) (a4 : Int64) (a6 : Int32) (T : Mm), k6 a1 a3 a4 a6 T = some q → Jr x ad true U T [(0, .ref (ad 129)), (1, .long a1), (3, .int a3), (4, .long a4), (6, .int a6)] 6 []) (a1 : Int64) (a3 : Int32) (a4 : Int64) (a6 : Int32) (T : Mm) (h : f_X3_number_b6 k6 a1 a3 a4 a6 T = some q) : Jr x ad true U T [(0, .ref (ad 129)), (1, .long a1), (3, .int a3), (4, .long a4), (6, .int a6)] 6 [] := by
  unfold f_X3_number_b6 at h
  refine r_iload C dX3_number_6 4 rfl ?_
  refine r_iload_n C dX3_number_8 rfl 2 rfl ?_
  refine r_ic_ge (tgt := 56) C dX3_number_9 (by decide) h (fun h => ?_) (fun h => ?_)
  · refine r_lload C dX3_number_56 3 rfl ?_
    exact r_lret C M dX3_number_58 h
  · refine r_lload C dX3_number_12 3 rfl ?_
    refine r_bipush (v := 8) C dX3_number_14 (by decide) ?_
    refine r_lshl C dX3_number_16 rfl ?_
    refine r_aload_n C dX3_number_17 rfl 0 rfl ?_
    refine r_aload_n C dX3_number_18 rfl 0 rfl ?_
    show Jr _ _ _ _ _ _ 19 _
    refine r_geti (f := 306) C flX3_72 dX3_number_19 kq_129 (by decide) (by decide) rfl ?_
    refine r_if_eq (tgt := 38) C dX3_number_22 (by decide) h (fun h => ?_) (fun h => ?_)
    · refine r_lload_n C dX3_number_38 rfl 1 rfl ?_
      refine r_iload C dX3_number_39 4 rfl ?_
      refine r_i2l C dX3_number_41 rfl ?_
      refine r_ladd C dX3_number_42 rfl ?_
      refine r_callVI C M h [.long (a1 + ((a6).toInt64))] [.long (a4 <<< ((8 : Int32).toInt64 &&& 63))] mlX3_76 mcX3_byteAt (fun q9 e9 => s_X3_byteAt (a1 + ((a6).toInt64))  e9) kq_129 rfl (by decide) (by decide) rfl rfl (Nat.le_of_ble_eq_true rfl) dX3_number_43 (fun v1 T2 h => ?_)
      show Jr _ _ _ _ _ _ 46 _
      refine r_i2l C dX3_number_46 rfl ?_
      refine r_lor C dX3_number_47 rfl ?_
      refine r_lbJ h (fun v3 h => ?_)
      refine r_lstore (lv' := [(4, .long v3), (0, .ref (ad 129)), (1, .long a1), (3, .int a3), (6, .int a6)]) C dX3_number_48 (by rw [hn9]; decide) rfl ?_
      refine r_iinc (q := 4) (v := (a6 + 1)) (lv' := [(6, .int (a6 + 1)), (4, .long v3), (0, .ref (ad 129)), (1, .long a1), (3, .int a3)]) C dX3_number_50 rfl (by rw [show Int32.ofInt (1) = 1 by decide]) (by rw [hn9]; decide) rfl ?_
      refine r_goto (tgt := 6) C dX3_number_53 (by decide) ?_
      refine Jr.sub [2, 3, 4, 1, 0] (lv' := [(0, .ref (ad 129)), (1, .long a1), (3, .int a3), (4, .long v3), (6, .int (a6 + 1))]) rfl ?_
      exact hk6 a1 a3 v3 (a6 + 1) T2 h
    · refine r_lload_n C dX3_number_25 rfl 1 rfl ?_
      refine r_iload_n C dX3_number_26 rfl 2 rfl ?_
      refine r_i2l C dX3_number_27 rfl ?_
      refine r_ladd C dX3_number_28 rfl ?_
      refine r_lconst (v := 1) C dX3_number_29 (by decide) ?_
      show Jr _ _ _ _ _ _ 30 _
      refine r_lsub C dX3_number_30 rfl ?_
      refine r_iload C dX3_number_31 4 rfl ?_
      refine r_i2l C dX3_number_33 rfl ?_
      refine r_lsub C dX3_number_34 rfl ?_
      refine r_goto (tgt := 43) C dX3_number_35 (by decide) ?_
      refine r_callVI C M h [.long (((a1 + ((a3).toInt64)) - 1) - ((a6).toInt64))] [.long (a4 <<< ((8 : Int32).toInt64 &&& 63))] mlX3_76 mcX3_byteAt (fun q9 e9 => s_X3_byteAt (((a1 + ((a3).toInt64)) - 1) - ((a6).toInt64))  e9) kq_129 rfl (by decide) (by decide) rfl rfl (Nat.le_of_ble_eq_true rfl) dX3_number_43 (fun v4 T5 h => ?_)
      show Jr _ _ _ _ _ _ 46 _
      refine r_i2l C dX3_number_46 rfl ?_
      refine r_lor C dX3_number_47 rfl ?_
      refine r_lbJ h (fun v6 h => ?_)
      refine r_lstore (lv' := [(4, .long v6), (0, .ref (ad 129)), (1, .long a1), (3, .int a3), (6, .int a6)]) C dX3_number_48 (by rw [hn9]; decide) rfl ?_
      refine r_iinc (q := 4) (v := (a6 + 1)) (lv' := [(6, .int (a6 + 1)), (4, .long v6), (0, .ref (ad 129)), (1, .long a1), (3, .int a3)]) C dX3_number_50 rfl (by rw [show Int32.ofInt (1) = 1 by decide]) (by rw [hn9]; decide) rfl ?_
      refine r_goto (tgt := 6) C dX3_number_53 (by decide) ?_
      refine Jr.sub [2, 3, 4, 1, 0] (lv' := [(0, .ref (ad 129)), (1, .long a1), (3, .int a3), (4, .long v6), (6, .int (a6 + 1))]) rfl ?_
      exact hk6 a1 a3 v6 (a6 + 1) T5 h
noncomputable def f_X3_number_l6 (n : Nat) : Int64 → Int32 → Int64 → Int32 → Mm → Option (Int64 × Mm) := Nat.rec (fun _ _ _ _ _ => none) (fun _ ih => f_X3_number_b6 ih) n
theorem s_X3_number_l6 {x : JX} {ad : Nat → Nat} {U : Mm} {S0 : Hp} {q : Int64 × Mm}  (hn9 : x_n x = 7) (C : CB x RX3 cX3_number) (M : CMr x 2 (some .long) S0 ad true U eJ q) : ∀ (n : Nat), ∀ (a1 : Int64) (a3 : Int32) (a4 : Int64) (a6 : Int32) (T : Mm), f_X3_number_l6  n a1 a3 a4 a6 T = some q → Jr x ad true U T [(0, .ref (ad 129)), (1, .long a1), (3, .int a3), (4, .long a4), (6, .int a6)] 6 [] := by
  intro n
  induction n with
  | zero => intro a1 a3 a4 a6 T  h; exact absurd h (by intro h; cases h)
  | succ n ih => exact fun a1 a3 a4 a6 T  h => s_X3_number_b6 hn9 C M (ih) a1 a3 a4 a6 T  h
noncomputable def f_X3_number (p1 : Int64) (p3 : Int32) (T : Mm) : Option (Int64 × Mm) :=
  f_X3_number_l6 FU p1 p3 0 0 T
set_option maxRecDepth 100000 in
set_option maxHeartbeats 4000000 in
theorem s_X3_number {ad : Nat → Nat} {U T : Mm} {q : Int64 × Mm}  (p1 : Int64) (p3 : Int32) (h : f_X3_number p1 p3 T = some q) : Cr 2 yX3_number cX3_number 7 (some .long) [.ref (ad 129), .long p1, .int p3] ad true U T eJ q := by
  refine cr_of (by decide) (Nat.le_of_ble_eq_true rfl) fun x S0 hn9 C M => ?_
  have C : CB x RX3 cX3_number := C
  refine Jr.eq (lv' := [(0, .ref (ad 129)), (1, .long p1), (3, .int p3)]) (st' := []) rfl rfl ?_
  unfold f_X3_number at h
  refine r_lconst (v := 0) C dX3_number_0 (by decide) ?_
  refine r_lstore (lv' := [(4, .long 0), (0, .ref (ad 129)), (1, .long p1), (3, .int p3)]) C dX3_number_1 (by rw [hn9]; decide) rfl ?_
  refine r_iconst (v := 0) C dX3_number_3 (by decide) ?_
  refine r_istore (lv' := [(6, .int 0), (4, .long 0), (0, .ref (ad 129)), (1, .long p1), (3, .int p3)]) C dX3_number_4 (by rw [hn9]; decide) rfl ?_
  refine Jr.sub [2, 3, 4, 1, 0] (lv' := [(0, .ref (ad 129)), (1, .long p1), (3, .int p3), (4, .long 0), (6, .int 0)]) rfl ?_
  exact s_X3_number_l6 hn9 C M  FU p1 p3 0 0 T h
theorem dX3_isDirectory_0 : decode cX3_isDirectory 0 = .ok (.iload_n 3, 1) := by decide +kernel
theorem dX3_isDirectory_1 : decode cX3_isDirectory 1 = .ok (.iconst 1, 1) := by decide +kernel
theorem dX3_isDirectory_2 : decode cX3_isDirectory 2 = .ok (.if_icmp .lt 53, 3) := by decide +kernel
theorem dX3_isDirectory_5 : decode cX3_isDirectory 5 = .ok (.iload_n 3, 1) := by decide +kernel
theorem dX3_isDirectory_6 : decode cX3_isDirectory 6 = .ok (.bipush 40, 2) := by decide +kernel
theorem dX3_isDirectory_8 : decode cX3_isDirectory 8 = .ok (.if_icmp .gt 47, 3) := by decide +kernel
theorem dX3_isDirectory_11 : decode cX3_isDirectory 11 = .ok (.aload_n 0, 1) := by decide +kernel
theorem dX3_isDirectory_12 : decode cX3_isDirectory 12 = .ok (.getfield 50, 3) := by decide +kernel
theorem dX3_isDirectory_15 : decode cX3_isDirectory 15 = .ok (.ifCond .lt 40, 3) := by decide +kernel
theorem dX3_isDirectory_18 : decode cX3_isDirectory 18 = .ok (.aload_n 0, 1) := by decide +kernel
theorem dX3_isDirectory_19 : decode cX3_isDirectory 19 = .ok (.getfield 50, 3) := by decide +kernel
theorem dX3_isDirectory_22 : decode cX3_isDirectory 22 = .ok (.aload_n 0, 1) := by decide +kernel
theorem dX3_isDirectory_23 : decode cX3_isDirectory 23 = .ok (.getfield 15, 3) := by decide +kernel
theorem dX3_isDirectory_26 : decode cX3_isDirectory 26 = .ok (.arraylength, 1) := by decide +kernel
theorem dX3_isDirectory_27 : decode cX3_isDirectory 27 = .ok (.if_icmp .ge 28, 3) := by decide +kernel
theorem dX3_isDirectory_30 : decode cX3_isDirectory 30 = .ok (.lload_n 1, 1) := by decide +kernel
theorem dX3_isDirectory_31 : decode cX3_isDirectory 31 = .ok (.ldc2_w 84, 3) := by decide +kernel
theorem dX3_isDirectory_34 : decode cX3_isDirectory 34 = .ok (.ladd, 1) := by decide +kernel
theorem dX3_isDirectory_35 : decode cX3_isDirectory 35 = .ok (.ldc2_w 86, 3) := by decide +kernel
theorem dX3_isDirectory_38 : decode cX3_isDirectory 38 = .ok (.iload_n 3, 1) := by decide +kernel
theorem dX3_isDirectory_39 : decode cX3_isDirectory 39 = .ok (.i2l, 1) := by decide +kernel
theorem dX3_isDirectory_40 : decode cX3_isDirectory 40 = .ok (.lmul, 1) := by decide +kernel
theorem dX3_isDirectory_41 : decode cX3_isDirectory 41 = .ok (.ladd, 1) := by decide +kernel
theorem dX3_isDirectory_42 : decode cX3_isDirectory 42 = .ok (.ldc2_w 56, 3) := by decide +kernel
theorem dX3_isDirectory_45 : decode cX3_isDirectory 45 = .ok (.ladd, 1) := by decide +kernel
theorem dX3_isDirectory_46 : decode cX3_isDirectory 46 = .ok (.aload_n 0, 1) := by decide +kernel
theorem dX3_isDirectory_47 : decode cX3_isDirectory 47 = .ok (.getfield 41, 3) := by decide +kernel
theorem dX3_isDirectory_50 : decode cX3_isDirectory 50 = .ok (.i2l, 1) := by decide +kernel
theorem dX3_isDirectory_51 : decode cX3_isDirectory 51 = .ok (.lcmp, 1) := by decide +kernel
theorem dX3_isDirectory_52 : decode cX3_isDirectory 52 = .ok (.ifCond .le 5, 3) := by decide +kernel
theorem dX3_isDirectory_55 : decode cX3_isDirectory 55 = .ok (.iconst 0, 1) := by decide +kernel
theorem dX3_isDirectory_56 : decode cX3_isDirectory 56 = .ok (.ireturn, 1) := by decide +kernel
theorem dX3_isDirectory_57 : decode cX3_isDirectory 57 = .ok (.iconst 0, 1) := by decide +kernel
theorem dX3_isDirectory_58 : decode cX3_isDirectory 58 = .ok (.istore 4, 2) := by decide +kernel
theorem dX3_isDirectory_60 : decode cX3_isDirectory 60 = .ok (.iload 4, 2) := by decide +kernel
theorem dX3_isDirectory_62 : decode cX3_isDirectory 62 = .ok (.aload_n 0, 1) := by decide +kernel
theorem dX3_isDirectory_63 : decode cX3_isDirectory 63 = .ok (.getfield 50, 3) := by decide +kernel
theorem dX3_isDirectory_66 : decode cX3_isDirectory 66 = .ok (.if_icmp .ge 23, 3) := by decide +kernel
theorem dX3_isDirectory_69 : decode cX3_isDirectory 69 = .ok (.aload_n 0, 1) := by decide +kernel
theorem dX3_isDirectory_70 : decode cX3_isDirectory 70 = .ok (.getfield 15, 3) := by decide +kernel
theorem dX3_isDirectory_73 : decode cX3_isDirectory 73 = .ok (.iload 4, 2) := by decide +kernel
theorem dX3_isDirectory_75 : decode cX3_isDirectory 75 = .ok (.laload, 1) := by decide +kernel
theorem dX3_isDirectory_76 : decode cX3_isDirectory 76 = .ok (.lload_n 1, 1) := by decide +kernel
theorem dX3_isDirectory_77 : decode cX3_isDirectory 77 = .ok (.lcmp, 1) := by decide +kernel
theorem dX3_isDirectory_78 : decode cX3_isDirectory 78 = .ok (.ifCond .ne 5, 3) := by decide +kernel
theorem dX3_isDirectory_81 : decode cX3_isDirectory 81 = .ok (.iconst 0, 1) := by decide +kernel
theorem dX3_isDirectory_82 : decode cX3_isDirectory 82 = .ok (.ireturn, 1) := by decide +kernel
theorem dX3_isDirectory_83 : decode cX3_isDirectory 83 = .ok (.iinc 4 1, 3) := by decide +kernel
theorem dX3_isDirectory_86 : decode cX3_isDirectory 86 = .ok (.goto (-26), 3) := by decide +kernel
theorem dX3_isDirectory_89 : decode cX3_isDirectory 89 = .ok (.iconst 1, 1) := by decide +kernel
theorem dX3_isDirectory_90 : decode cX3_isDirectory 90 = .ok (.istore 4, 2) := by decide +kernel
theorem dX3_isDirectory_92 : decode cX3_isDirectory 92 = .ok (.iload 4, 2) := by decide +kernel
theorem dX3_isDirectory_94 : decode cX3_isDirectory 94 = .ok (.iload_n 3, 1) := by decide +kernel
theorem dX3_isDirectory_95 : decode cX3_isDirectory 95 = .ok (.if_icmp .ge 47, 3) := by decide +kernel
theorem dX3_isDirectory_98 : decode cX3_isDirectory 98 = .ok (.lload_n 1, 1) := by decide +kernel
theorem dX3_isDirectory_99 : decode cX3_isDirectory 99 = .ok (.ldc2_w 84, 3) := by decide +kernel
theorem dX3_isDirectory_102 : decode cX3_isDirectory 102 = .ok (.ladd, 1) := by decide +kernel
theorem dX3_isDirectory_103 : decode cX3_isDirectory 103 = .ok (.bipush 12, 2) := by decide +kernel
theorem dX3_isDirectory_105 : decode cX3_isDirectory 105 = .ok (.iload 4, 2) := by decide +kernel
theorem dX3_isDirectory_107 : decode cX3_isDirectory 107 = .ok (.imul, 1) := by decide +kernel
theorem dX3_isDirectory_108 : decode cX3_isDirectory 108 = .ok (.i2l, 1) := by decide +kernel
theorem dX3_isDirectory_109 : decode cX3_isDirectory 109 = .ok (.ladd, 1) := by decide +kernel
theorem dX3_isDirectory_110 : decode cX3_isDirectory 110 = .ok (.lstore 5, 2) := by decide +kernel
theorem dX3_isDirectory_112 : decode cX3_isDirectory 112 = .ok (.aload_n 0, 1) := by decide +kernel
theorem dX3_isDirectory_113 : decode cX3_isDirectory 113 = .ok (.lload 5, 2) := by decide +kernel
theorem dX3_isDirectory_115 : decode cX3_isDirectory 115 = .ok (.iconst 2, 1) := by decide +kernel
theorem dX3_isDirectory_116 : decode cX3_isDirectory 116 = .ok (.invokevirtual 58, 3) := by decide +kernel
theorem dX3_isDirectory_119 : decode cX3_isDirectory 119 = .ok (.aload_n 0, 1) := by decide +kernel
theorem dX3_isDirectory_120 : decode cX3_isDirectory 120 = .ok (.lload 5, 2) := by decide +kernel
theorem dX3_isDirectory_122 : decode cX3_isDirectory 122 = .ok (.ldc2_w 86, 3) := by decide +kernel
theorem dX3_isDirectory_125 : decode cX3_isDirectory 125 = .ok (.lsub, 1) := by decide +kernel
theorem dX3_isDirectory_126 : decode cX3_isDirectory 126 = .ok (.iconst 2, 1) := by decide +kernel
theorem dX3_isDirectory_127 : decode cX3_isDirectory 127 = .ok (.invokevirtual 58, 3) := by decide +kernel
theorem dX3_isDirectory_130 : decode cX3_isDirectory 130 = .ok (.lcmp, 1) := by decide +kernel
theorem dX3_isDirectory_131 : decode cX3_isDirectory 131 = .ok (.ifCond .gt 5, 3) := by decide +kernel
theorem dX3_isDirectory_134 : decode cX3_isDirectory 134 = .ok (.iconst 0, 1) := by decide +kernel
theorem dX3_isDirectory_135 : decode cX3_isDirectory 135 = .ok (.ireturn, 1) := by decide +kernel
theorem dX3_isDirectory_136 : decode cX3_isDirectory 136 = .ok (.iinc 4 1, 3) := by decide +kernel
theorem dX3_isDirectory_139 : decode cX3_isDirectory 139 = .ok (.goto (-47), 3) := by decide +kernel
theorem dX3_isDirectory_142 : decode cX3_isDirectory 142 = .ok (.iconst 1, 1) := by decide +kernel
theorem dX3_isDirectory_143 : decode cX3_isDirectory 143 = .ok (.ireturn, 1) := by decide +kernel
noncomputable def f_X3_isDirectory_b92 (k92 : Int64 → Int32 → Int32 → Mm → Option (Int32 × Mm)) (a1 : Int64) (a3 : Int32) (a4 : Int32) (T : Mm) : Option (Int32 × Mm) :=
  if a3 ≤ a4 then (some (1, T))
  else (lb (((a1 + 2) + ((((12 : Int32) * a4)).toInt64))) fun v1 =>
  bd (f_X3_number v1 2 T) fun v2 T3 =>
  bd (f_X3_number (v1 - 12) 2 T3) fun v4 T5 =>
  if 0 < (lg_cmp v2 v4) then (k92 a1 a3 (a4 + 1) T5)
  else (some (0, T5)))
set_option maxRecDepth 100000 in
set_option maxHeartbeats 4000000 in
theorem s_X3_isDirectory_b92 {x : JX} {ad : Nat → Nat} {U : Mm} {S0 : Hp} {q : Int32 × Mm}  {k92 : Int64 → Int32 → Int32 → Mm → Option (Int32 × Mm)} (hn9 : x_n x = 7) (C : CB x RX3 cX3_isDirectory) (M : CMr x 3 (some .boolean) S0 ad true U eI q) (hk92 : ∀ (a1 : Int64) (a3 : Int32) (a4 : Int32) (T : Mm), k92 a1 a3 a4 T = some q → Jr x ad true U T [(0, .ref (ad 129)), (1, .long a1), (3, .int a3), (4, .int a4)] 92 []) (a1 : Int64) (a3 : Int32) (a4 : Int32) (T : Mm) (h : f_X3_isDirectory_b92 k92 a1 a3 a4 T = some q) : Jr x ad true U T [(0, .ref (ad 129)), (1, .long a1), (3, .int a3), (4, .int a4)] 92 [] := by
  unfold f_X3_isDirectory_b92 at h
  refine r_iload C dX3_isDirectory_92 3 rfl ?_
  refine r_iload_n C dX3_isDirectory_94 rfl 2 rfl ?_
  refine r_ic_ge (tgt := 142) C dX3_isDirectory_95 (by decide) h (fun h => ?_) (fun h => ?_)
  · refine r_iconst (v := 1) C dX3_isDirectory_142 (by decide) ?_
    exact r_zret C M dX3_isDirectory_143 (by decide) h
  · refine r_lload_n C dX3_isDirectory_98 rfl 1 rfl ?_
    refine r_ldc2 (v := 2) C dX3_isDirectory_99 kcX3_84 ?_
    refine r_ladd C dX3_isDirectory_102 rfl ?_
    refine r_bipush (v := 12) C dX3_isDirectory_103 (by decide) ?_
    refine r_iload C dX3_isDirectory_105 3 rfl ?_
    show Jr _ _ _ _ _ _ 107 _
    refine r_imul C dX3_isDirectory_107 rfl ?_
    refine r_i2l C dX3_isDirectory_108 rfl ?_
    refine r_ladd C dX3_isDirectory_109 rfl ?_
    refine r_lbJ h (fun v1 h => ?_)
    refine r_lstore (lv' := [(5, .long v1), (0, .ref (ad 129)), (1, .long a1), (3, .int a3), (4, .int a4)]) C dX3_isDirectory_110 (by rw [hn9]; decide) rfl ?_
    refine r_aload_n C dX3_isDirectory_112 rfl 1 rfl ?_
    refine r_lload C dX3_isDirectory_113 0 rfl ?_
    show Jr _ _ _ _ _ _ 115 _
    refine r_iconst (v := 2) C dX3_isDirectory_115 (by decide) ?_
    refine r_callVJ C M h [.long v1, .int 2] [] mlX3_58 mcX3_number (fun q9 e9 => s_X3_number v1 2  e9) kq_129 rfl (by decide) (by decide) rfl rfl (Nat.le_of_ble_eq_true rfl) dX3_isDirectory_116 (fun v2 T3 h => ?_)
    refine r_aload_n C dX3_isDirectory_119 rfl 1 rfl ?_
    refine r_lload C dX3_isDirectory_120 0 rfl ?_
    refine r_ldc2 (v := 12) C dX3_isDirectory_122 kcX3_86 ?_
    refine r_lsub C dX3_isDirectory_125 rfl ?_
    show Jr _ _ _ _ _ _ 126 _
    refine r_iconst (v := 2) C dX3_isDirectory_126 (by decide) ?_
    refine r_callVJ C M h [.long (v1 - 12), .int 2] [.long v2] mlX3_58 mcX3_number (fun q9 e9 => s_X3_number (v1 - 12) 2  e9) kq_129 rfl (by decide) (by decide) rfl rfl (Nat.le_of_ble_eq_true rfl) dX3_isDirectory_127 (fun v4 T5 h => ?_)
    refine r_lcmp C dX3_isDirectory_130 ?_
    refine r_if_gt (tgt := 136) C dX3_isDirectory_131 (by decide) h (fun h => ?_) (fun h => ?_)
    · refine r_iinc (q := 4) (v := (a4 + 1)) (lv' := [(4, .int (a4 + 1)), (5, .long v1), (0, .ref (ad 129)), (1, .long a1), (3, .int a3)]) C dX3_isDirectory_136 rfl (by rw [show Int32.ofInt (1) = 1 by decide]) (by rw [hn9]; decide) rfl ?_
      refine r_goto (tgt := 92) C dX3_isDirectory_139 (by decide) ?_
      refine Jr.sub [2, 3, 4, 0] (lv' := [(0, .ref (ad 129)), (1, .long a1), (3, .int a3), (4, .int (a4 + 1))]) rfl ?_
      exact hk92 a1 a3 (a4 + 1) T5 h
    · refine r_iconst (v := 0) C dX3_isDirectory_134 (by decide) ?_
      exact r_zret C M dX3_isDirectory_135 (by decide) h
noncomputable def f_X3_isDirectory_l92 (n : Nat) : Int64 → Int32 → Int32 → Mm → Option (Int32 × Mm) := Nat.rec (fun _ _ _ _ => none) (fun _ ih => f_X3_isDirectory_b92 ih) n
theorem s_X3_isDirectory_l92 {x : JX} {ad : Nat → Nat} {U : Mm} {S0 : Hp} {q : Int32 × Mm}  (hn9 : x_n x = 7) (C : CB x RX3 cX3_isDirectory) (M : CMr x 3 (some .boolean) S0 ad true U eI q) : ∀ (n : Nat), ∀ (a1 : Int64) (a3 : Int32) (a4 : Int32) (T : Mm), f_X3_isDirectory_l92  n a1 a3 a4 T = some q → Jr x ad true U T [(0, .ref (ad 129)), (1, .long a1), (3, .int a3), (4, .int a4)] 92 [] := by
  intro n
  induction n with
  | zero => intro a1 a3 a4 T  h; exact absurd h (by intro h; cases h)
  | succ n ih => exact fun a1 a3 a4 T  h => s_X3_isDirectory_b92 hn9 C M (ih) a1 a3 a4 T  h
noncomputable def f_X3_isDirectory_b60 (k60 : Int64 → Int32 → Int32 → Mm → Option (Int32 × Mm)) (a1 : Int64) (a3 : Int32) (a4 : Int32) (T : Mm) : Option (Int32 × Mm) :=
  if (gI T 308 129) ≤ a4 then (f_X3_isDirectory_l92 FU a1 a3 1 T)
  else (ix a4 12 fun j1 =>
  if (lg_cmp (gB T 130 j1) a1) = 0 then (some (0, T))
  else (k60 a1 a3 (a4 + 1) T))
set_option maxRecDepth 100000 in
set_option maxHeartbeats 4000000 in
theorem s_X3_isDirectory_b60 {x : JX} {ad : Nat → Nat} {U : Mm} {S0 : Hp} {q : Int32 × Mm}  {k60 : Int64 → Int32 → Int32 → Mm → Option (Int32 × Mm)} (hn9 : x_n x = 7) (C : CB x RX3 cX3_isDirectory) (M : CMr x 3 (some .boolean) S0 ad true U eI q) (hk60 : ∀ (a1 : Int64) (a3 : Int32) (a4 : Int32) (T : Mm), k60 a1 a3 a4 T = some q → Jr x ad true U T [(0, .ref (ad 129)), (1, .long a1), (3, .int a3), (4, .int a4)] 60 []) (a1 : Int64) (a3 : Int32) (a4 : Int32) (T : Mm) (h : f_X3_isDirectory_b60 k60 a1 a3 a4 T = some q) : Jr x ad true U T [(0, .ref (ad 129)), (1, .long a1), (3, .int a3), (4, .int a4)] 60 [] := by
  unfold f_X3_isDirectory_b60 at h
  refine r_iload C dX3_isDirectory_60 3 rfl ?_
  refine r_aload_n C dX3_isDirectory_62 rfl 0 rfl ?_
  refine r_geti (f := 308) C flX3_50 dX3_isDirectory_63 kq_129 (by decide) (by decide) rfl ?_
  refine r_ic_ge (tgt := 89) C dX3_isDirectory_66 (by decide) h (fun h => ?_) (fun h => ?_)
  · refine r_iconst (v := 1) C dX3_isDirectory_89 (by decide) ?_
    refine r_istore (lv' := [(4, .int 1), (0, .ref (ad 129)), (1, .long a1), (3, .int a3)]) C dX3_isDirectory_90 (by rw [hn9]; decide) rfl ?_
    refine Jr.sub [1, 2, 3, 0] (lv' := [(0, .ref (ad 129)), (1, .long a1), (3, .int a3), (4, .int 1)]) rfl ?_
    exact s_X3_isDirectory_l92 hn9 C M  FU a1 a3 1 T h
  · refine r_aload_n C dX3_isDirectory_69 rfl 0 rfl ?_
    refine r_getp (f := 307) (j := 130) C flX3_15 dX3_isDirectory_70 kq_129 (by decide) rfl (fun W => pt_307 kq_129 W) ?_
    refine r_iload C dX3_isDirectory_73 3 rfl ?_
    refine r_lald (n := 12) C dX3_isDirectory_75 kq_130 lq_130 h (fun j1 hj2 h => ?_)
    refine r_lload_n C dX3_isDirectory_76 rfl 1 rfl ?_
    show Jr _ _ _ _ _ _ 77 _
    refine r_lcmp C dX3_isDirectory_77 ?_
    refine r_if_ne (tgt := 83) C dX3_isDirectory_78 (by decide) h (fun h => ?_) (fun h => ?_)
    · refine r_iinc (q := 3) (v := (a4 + 1)) (lv' := [(4, .int (a4 + 1)), (0, .ref (ad 129)), (1, .long a1), (3, .int a3)]) C dX3_isDirectory_83 rfl (by rw [show Int32.ofInt (1) = 1 by decide]) (by rw [hn9]; decide) rfl ?_
      refine r_goto (tgt := 60) C dX3_isDirectory_86 (by decide) ?_
      refine Jr.sub [1, 2, 3, 0] (lv' := [(0, .ref (ad 129)), (1, .long a1), (3, .int a3), (4, .int (a4 + 1))]) rfl ?_
      exact hk60 a1 a3 (a4 + 1) T h
    · refine r_iconst (v := 0) C dX3_isDirectory_81 (by decide) ?_
      exact r_zret C M dX3_isDirectory_82 (by decide) h
noncomputable def f_X3_isDirectory_l60 (n : Nat) : Int64 → Int32 → Int32 → Mm → Option (Int32 × Mm) := Nat.rec (fun _ _ _ _ => none) (fun _ ih => f_X3_isDirectory_b60 ih) n
theorem s_X3_isDirectory_l60 {x : JX} {ad : Nat → Nat} {U : Mm} {S0 : Hp} {q : Int32 × Mm}  (hn9 : x_n x = 7) (C : CB x RX3 cX3_isDirectory) (M : CMr x 3 (some .boolean) S0 ad true U eI q) : ∀ (n : Nat), ∀ (a1 : Int64) (a3 : Int32) (a4 : Int32) (T : Mm), f_X3_isDirectory_l60  n a1 a3 a4 T = some q → Jr x ad true U T [(0, .ref (ad 129)), (1, .long a1), (3, .int a3), (4, .int a4)] 60 [] := by
  intro n
  induction n with
  | zero => intro a1 a3 a4 T  h; exact absurd h (by intro h; cases h)
  | succ n ih => exact fun a1 a3 a4 T  h => s_X3_isDirectory_b60 hn9 C M (ih) a1 a3 a4 T  h
noncomputable def f_X3_isDirectory (p1 : Int64) (p3 : Int32) (T : Mm) : Option (Int32 × Mm) :=
  if p3 < 1 then (some (0, T))
  else (if 40 < p3 then (some (0, T))
  else (if (gI T 308 129) < 0 then (some (0, T))
  else (if 12 ≤ (gI T 308 129) then (some (0, T))
  else (if (lg_cmp (((p1 + 2) + ((12 : Int64) * ((p3).toInt64))) + 4) (((gI T 303 129)).toInt64)) ≤ 0 then (f_X3_isDirectory_l60 FU p1 p3 0 T)
  else (some (0, T))))))
set_option maxRecDepth 100000 in
set_option maxHeartbeats 4000000 in
theorem s_X3_isDirectory {ad : Nat → Nat} {U T : Mm} {q : Int32 × Mm}  (p1 : Int64) (p3 : Int32) (h : f_X3_isDirectory p1 p3 T = some q) : Cr 3 yX3_isDirectory cX3_isDirectory 7 (some .boolean) [.ref (ad 129), .long p1, .int p3] ad true U T eI q := by
  refine cr_of (by decide) (Nat.le_of_ble_eq_true rfl) fun x S0 hn9 C M => ?_
  have C : CB x RX3 cX3_isDirectory := C
  refine Jr.eq (lv' := [(0, .ref (ad 129)), (1, .long p1), (3, .int p3)]) (st' := []) rfl rfl ?_
  unfold f_X3_isDirectory at h
  refine r_iload_n C dX3_isDirectory_0 rfl 2 rfl ?_
  refine r_iconst (v := 1) C dX3_isDirectory_1 (by decide) ?_
  refine r_ic_lt (tgt := 55) C dX3_isDirectory_2 (by decide) h (fun h => ?_) (fun h => ?_)
  · refine r_iconst (v := 0) C dX3_isDirectory_55 (by decide) ?_
    exact r_zret C M dX3_isDirectory_56 (by decide) h
  · refine r_iload_n C dX3_isDirectory_5 rfl 2 rfl ?_
    refine r_bipush (v := 40) C dX3_isDirectory_6 (by decide) ?_
    refine r_ic_gt (tgt := 55) C dX3_isDirectory_8 (by decide) h (fun h => ?_) (fun h => ?_)
    · refine r_iconst (v := 0) C dX3_isDirectory_55 (by decide) ?_
      exact r_zret C M dX3_isDirectory_56 (by decide) h
    · refine r_aload_n C dX3_isDirectory_11 rfl 0 rfl ?_
      refine r_geti (f := 308) C flX3_50 dX3_isDirectory_12 kq_129 (by decide) (by decide) rfl ?_
      refine r_if_lt (tgt := 55) C dX3_isDirectory_15 (by decide) h (fun h => ?_) (fun h => ?_)
      · refine r_iconst (v := 0) C dX3_isDirectory_55 (by decide) ?_
        exact r_zret C M dX3_isDirectory_56 (by decide) h
      · refine r_aload_n C dX3_isDirectory_18 rfl 0 rfl ?_
        refine r_geti (f := 308) C flX3_50 dX3_isDirectory_19 kq_129 (by decide) (by decide) rfl ?_
        refine r_aload_n C dX3_isDirectory_22 rfl 0 rfl ?_
        refine r_getp (f := 307) (j := 130) C flX3_15 dX3_isDirectory_23 kq_129 (by decide) rfl (fun W => pt_307 kq_129 W) ?_
        refine r_alen (n := 0) (v := 12) C dX3_isDirectory_26 kq_130 (by decide) (by decide) (congrArg Int32.ofNat lq_130) ?_
        show Jr _ _ _ _ _ _ 27 _
        refine r_ic_ge (tgt := 55) C dX3_isDirectory_27 (by decide) h (fun h => ?_) (fun h => ?_)
        · refine r_iconst (v := 0) C dX3_isDirectory_55 (by decide) ?_
          exact r_zret C M dX3_isDirectory_56 (by decide) h
        · refine r_lload_n C dX3_isDirectory_30 rfl 1 rfl ?_
          refine r_ldc2 (v := 2) C dX3_isDirectory_31 kcX3_84 ?_
          refine r_ladd C dX3_isDirectory_34 rfl ?_
          refine r_ldc2 (v := 12) C dX3_isDirectory_35 kcX3_86 ?_
          refine r_iload_n C dX3_isDirectory_38 rfl 2 rfl ?_
          show Jr _ _ _ _ _ _ 39 _
          refine r_i2l C dX3_isDirectory_39 rfl ?_
          refine r_lmul C dX3_isDirectory_40 rfl ?_
          refine r_ladd C dX3_isDirectory_41 rfl ?_
          refine r_ldc2 (v := 4) C dX3_isDirectory_42 kcX3_56 ?_
          refine r_ladd C dX3_isDirectory_45 rfl ?_
          refine r_aload_n C dX3_isDirectory_46 rfl 0 rfl ?_
          show Jr _ _ _ _ _ _ 47 _
          refine r_geti (f := 303) C flX3_41 dX3_isDirectory_47 kq_129 (by decide) (by decide) rfl ?_
          refine r_i2l C dX3_isDirectory_50 rfl ?_
          refine r_lcmp C dX3_isDirectory_51 ?_
          refine r_if_le (tgt := 57) C dX3_isDirectory_52 (by decide) h (fun h => ?_) (fun h => ?_)
          · refine r_iconst (v := 0) C dX3_isDirectory_57 (by decide) ?_
            refine r_istore (lv' := [(4, .int 0), (0, .ref (ad 129)), (1, .long p1), (3, .int p3)]) C dX3_isDirectory_58 (by rw [hn9]; decide) rfl ?_
            refine Jr.sub [1, 2, 3, 0] (lv' := [(0, .ref (ad 129)), (1, .long p1), (3, .int p3), (4, .int 0)]) rfl ?_
            exact s_X3_isDirectory_l60 hn9 C M  FU p1 p3 0 T h
          · refine r_iconst (v := 0) C dX3_isDirectory_55 (by decide) ?_
            exact r_zret C M dX3_isDirectory_56 (by decide) h
theorem dX3_startEntries_0 : decode cX3_startEntries 0 = .ok (.aload_n 0, 1) := by decide +kernel
theorem dX3_startEntries_1 : decode cX3_startEntries 1 = .ok (.ldc2_w 121, 3) := by decide +kernel
theorem dX3_startEntries_4 : decode cX3_startEntries 4 = .ok (.putfield 105, 3) := by decide +kernel
theorem dX3_startEntries_7 : decode cX3_startEntries 7 = .ok (.aload_n 0, 1) := by decide +kernel
theorem dX3_startEntries_8 : decode cX3_startEntries 8 = .ok (.ldc2_w 121, 3) := by decide +kernel
theorem dX3_startEntries_11 : decode cX3_startEntries 11 = .ok (.putfield 109, 3) := by decide +kernel
theorem dX3_startEntries_14 : decode cX3_startEntries 14 = .ok (.aload_n 0, 1) := by decide +kernel
theorem dX3_startEntries_15 : decode cX3_startEntries 15 = .ok (.ldc2_w 121, 3) := by decide +kernel
theorem dX3_startEntries_18 : decode cX3_startEntries 18 = .ok (.putfield 123, 3) := by decide +kernel
theorem dX3_startEntries_21 : decode cX3_startEntries 21 = .ok (.aload_n 0, 1) := by decide +kernel
theorem dX3_startEntries_22 : decode cX3_startEntries 22 = .ok (.ldc2_w 121, 3) := by decide +kernel
theorem dX3_startEntries_25 : decode cX3_startEntries 25 = .ok (.putfield 126, 3) := by decide +kernel
theorem dX3_startEntries_28 : decode cX3_startEntries 28 = .ok (.aload_n 0, 1) := by decide +kernel
theorem dX3_startEntries_29 : decode cX3_startEntries 29 = .ok (.lconst 1, 1) := by decide +kernel
theorem dX3_startEntries_30 : decode cX3_startEntries 30 = .ok (.putfield 129, 3) := by decide +kernel
theorem dX3_startEntries_33 : decode cX3_startEntries 33 = .ok (.aload_n 0, 1) := by decide +kernel
theorem dX3_startEntries_34 : decode cX3_startEntries 34 = .ok (.ldc2_w 121, 3) := by decide +kernel
theorem dX3_startEntries_37 : decode cX3_startEntries 37 = .ok (.putfield 132, 3) := by decide +kernel
theorem dX3_startEntries_40 : decode cX3_startEntries 40 = .ok (.aload_n 0, 1) := by decide +kernel
theorem dX3_startEntries_41 : decode cX3_startEntries 41 = .ok (.ldc2_w 121, 3) := by decide +kernel
theorem dX3_startEntries_44 : decode cX3_startEntries 44 = .ok (.putfield 135, 3) := by decide +kernel
theorem dX3_startEntries_47 : decode cX3_startEntries 47 = .ok (.aload_n 0, 1) := by decide +kernel
theorem dX3_startEntries_48 : decode cX3_startEntries 48 = .ok (.ldc2_w 121, 3) := by decide +kernel
theorem dX3_startEntries_51 : decode cX3_startEntries 51 = .ok (.putfield 138, 3) := by decide +kernel
theorem dX3_startEntries_54 : decode cX3_startEntries 54 = .ok (.return_, 1) := by decide +kernel
noncomputable def f_X3_startEntries (T : Mm) : Option (Unit × Mm) :=
  lb (uJ T 309 129 (-1)) fun T1 =>
  lb (uJ T1 310 129 (-1)) fun T2 =>
  lb (uJ T2 311 129 (-1)) fun T3 =>
  lb (uJ T3 312 129 (-1)) fun T4 =>
  lb (uJ T4 313 129 1) fun T5 =>
  lb (uJ T5 314 129 (-1)) fun T6 =>
  lb (uJ T6 315 129 (-1)) fun T7 =>
  lb (uJ T7 316 129 (-1)) fun T8 =>
  some ((), T8)
set_option maxRecDepth 100000 in
set_option maxHeartbeats 4000000 in
theorem s_X3_startEntries {ad : Nat → Nat} {U T : Mm} {q : Unit × Mm}  (h : f_X3_startEntries  T = some q) : Cr 1 yX3_startEntries cX3_startEntries 1 none [.ref (ad 129)] ad true U T eV q := by
  refine cr_of (by decide) (Nat.le_of_ble_eq_true rfl) fun x S0 hn9 C M => ?_
  have C : CB x RX3 cX3_startEntries := C
  refine Jr.eq (lv' := [(0, .ref (ad 129))]) (st' := []) rfl rfl ?_
  unfold f_X3_startEntries at h
  refine r_aload_n C dX3_startEntries_0 rfl 0 rfl ?_
  refine r_ldc2 (v := (-1)) C dX3_startEntries_1 kcX3_121 ?_
  refine r_putl (f := 309) C flX3_105 (by decide) rfl rfl dX3_startEntries_4 kq_129 rfl h (fun T1 h => ?_)
  refine r_aload_n C dX3_startEntries_7 rfl 0 rfl ?_
  refine r_ldc2 (v := (-1)) C dX3_startEntries_8 kcX3_121 ?_
  show Jr _ _ _ _ _ _ 11 _
  refine r_putl (f := 310) C flX3_109 (by decide) rfl rfl dX3_startEntries_11 kq_129 rfl h (fun T2 h => ?_)
  refine r_aload_n C dX3_startEntries_14 rfl 0 rfl ?_
  refine r_ldc2 (v := (-1)) C dX3_startEntries_15 kcX3_121 ?_
  refine r_putl (f := 311) C flX3_123 (by decide) rfl rfl dX3_startEntries_18 kq_129 rfl h (fun T3 h => ?_)
  refine r_aload_n C dX3_startEntries_21 rfl 0 rfl ?_
  refine r_ldc2 (v := (-1)) C dX3_startEntries_22 kcX3_121 ?_
  show Jr _ _ _ _ _ _ 25 _
  refine r_putl (f := 312) C flX3_126 (by decide) rfl rfl dX3_startEntries_25 kq_129 rfl h (fun T4 h => ?_)
  refine r_aload_n C dX3_startEntries_28 rfl 0 rfl ?_
  refine r_lconst (v := 1) C dX3_startEntries_29 (by decide) ?_
  refine r_putl (f := 313) C flX3_129 (by decide) rfl rfl dX3_startEntries_30 kq_129 rfl h (fun T5 h => ?_)
  refine r_aload_n C dX3_startEntries_33 rfl 0 rfl ?_
  refine r_ldc2 (v := (-1)) C dX3_startEntries_34 kcX3_121 ?_
  show Jr _ _ _ _ _ _ 37 _
  refine r_putl (f := 314) C flX3_132 (by decide) rfl rfl dX3_startEntries_37 kq_129 rfl h (fun T6 h => ?_)
  refine r_aload_n C dX3_startEntries_40 rfl 0 rfl ?_
  refine r_ldc2 (v := (-1)) C dX3_startEntries_41 kcX3_121 ?_
  refine r_putl (f := 315) C flX3_135 (by decide) rfl rfl dX3_startEntries_44 kq_129 rfl h (fun T7 h => ?_)
  refine r_aload_n C dX3_startEntries_47 rfl 0 rfl ?_
  refine r_ldc2 (v := (-1)) C dX3_startEntries_48 kcX3_121 ?_
  show Jr _ _ _ _ _ _ 51 _
  refine r_putl (f := 316) C flX3_138 (by decide) rfl rfl dX3_startEntries_51 kq_129 rfl h (fun T8 h => ?_)
  exact r_vret C M dX3_startEntries_54 h
theorem dX3_isOfOne_0 : decode cX3_isOfOne 0 = .ok (.iload_n 0, 1) := by decide +kernel
theorem dX3_isOfOne_1 : decode cX3_isOfOne 1 = .ok (.sipush 256, 3) := by decide +kernel
theorem dX3_isOfOne_4 : decode cX3_isOfOne 4 = .ok (.if_icmp .eq 59, 3) := by decide +kernel
theorem dX3_isOfOne_7 : decode cX3_isOfOne 7 = .ok (.iload_n 0, 1) := by decide +kernel
theorem dX3_isOfOne_8 : decode cX3_isOfOne 8 = .ok (.sipush 257, 3) := by decide +kernel
theorem dX3_isOfOne_11 : decode cX3_isOfOne 11 = .ok (.if_icmp .eq 52, 3) := by decide +kernel
theorem dX3_isOfOne_14 : decode cX3_isOfOne 14 = .ok (.iload_n 0, 1) := by decide +kernel
theorem dX3_isOfOne_15 : decode cX3_isOfOne 15 = .ok (.sipush 258, 3) := by decide +kernel
theorem dX3_isOfOne_18 : decode cX3_isOfOne 18 = .ok (.if_icmp .eq 45, 3) := by decide +kernel
theorem dX3_isOfOne_21 : decode cX3_isOfOne 21 = .ok (.iload_n 0, 1) := by decide +kernel
theorem dX3_isOfOne_22 : decode cX3_isOfOne 22 = .ok (.sipush 259, 3) := by decide +kernel
theorem dX3_isOfOne_25 : decode cX3_isOfOne 25 = .ok (.if_icmp .eq 38, 3) := by decide +kernel
theorem dX3_isOfOne_28 : decode cX3_isOfOne 28 = .ok (.iload_n 0, 1) := by decide +kernel
theorem dX3_isOfOne_29 : decode cX3_isOfOne 29 = .ok (.sipush 262, 3) := by decide +kernel
theorem dX3_isOfOne_32 : decode cX3_isOfOne 32 = .ok (.if_icmp .eq 31, 3) := by decide +kernel
theorem dX3_isOfOne_35 : decode cX3_isOfOne 35 = .ok (.iload_n 0, 1) := by decide +kernel
theorem dX3_isOfOne_36 : decode cX3_isOfOne 36 = .ok (.sipush 266, 3) := by decide +kernel
theorem dX3_isOfOne_39 : decode cX3_isOfOne 39 = .ok (.if_icmp .eq 24, 3) := by decide +kernel
theorem dX3_isOfOne_42 : decode cX3_isOfOne 42 = .ok (.iload_n 0, 1) := by decide +kernel
theorem dX3_isOfOne_43 : decode cX3_isOfOne 43 = .ok (.sipush 277, 3) := by decide +kernel
theorem dX3_isOfOne_46 : decode cX3_isOfOne 46 = .ok (.if_icmp .eq 17, 3) := by decide +kernel
theorem dX3_isOfOne_49 : decode cX3_isOfOne 49 = .ok (.iload_n 0, 1) := by decide +kernel
theorem dX3_isOfOne_50 : decode cX3_isOfOne 50 = .ok (.sipush 278, 3) := by decide +kernel
theorem dX3_isOfOne_53 : decode cX3_isOfOne 53 = .ok (.if_icmp .eq 10, 3) := by decide +kernel
theorem dX3_isOfOne_56 : decode cX3_isOfOne 56 = .ok (.iload_n 0, 1) := by decide +kernel
theorem dX3_isOfOne_57 : decode cX3_isOfOne 57 = .ok (.sipush 293, 3) := by decide +kernel
theorem dX3_isOfOne_60 : decode cX3_isOfOne 60 = .ok (.if_icmp .ne 7, 3) := by decide +kernel
theorem dX3_isOfOne_63 : decode cX3_isOfOne 63 = .ok (.iconst 1, 1) := by decide +kernel
theorem dX3_isOfOne_64 : decode cX3_isOfOne 64 = .ok (.goto 4, 3) := by decide +kernel
theorem dX3_isOfOne_67 : decode cX3_isOfOne 67 = .ok (.iconst 0, 1) := by decide +kernel
theorem dX3_isOfOne_68 : decode cX3_isOfOne 68 = .ok (.ireturn, 1) := by decide +kernel
noncomputable def f_X3_isOfOne (p0 : Int32) (T : Mm) : Option (Int32 × Mm) :=
  if p0 = 256 then (some (1, T))
  else (if p0 = 257 then (some (1, T))
  else (if p0 = 258 then (some (1, T))
  else (if p0 = 259 then (some (1, T))
  else (if p0 = 262 then (some (1, T))
  else (if p0 = 266 then (some (1, T))
  else (if p0 = 277 then (some (1, T))
  else (if p0 = 278 then (some (1, T))
  else (if p0 = 293 then (some (1, T))
  else (some (0, T))))))))))
set_option maxRecDepth 100000 in
set_option maxHeartbeats 4000000 in
theorem s_X3_isOfOne {ad : Nat → Nat} {U T : Mm} {q : Int32 × Mm}  (p0 : Int32) (h : f_X3_isOfOne p0 T = some q) : Cr 1 yX3_isOfOne cX3_isOfOne 1 (some .boolean) [.int p0] ad true U T eI q := by
  refine cr_of (by decide) (Nat.le_of_ble_eq_true rfl) fun x S0 hn9 C M => ?_
  have C : CB x RX3 cX3_isOfOne := C
  refine Jr.eq (lv' := [(0, .int p0)]) (st' := []) rfl rfl ?_
  unfold f_X3_isOfOne at h
  refine r_iload_n C dX3_isOfOne_0 rfl 0 rfl ?_
  refine r_sipush (v := 256) C dX3_isOfOne_1 (by decide) ?_
  refine r_ic_eq (tgt := 63) C dX3_isOfOne_4 (by decide) h (fun h => ?_) (fun h => ?_)
  · refine r_iconst (v := 1) C dX3_isOfOne_63 (by decide) ?_
    refine r_goto (tgt := 68) C dX3_isOfOne_64 (by decide) ?_
    exact r_zret C M dX3_isOfOne_68 (by decide) h
  · refine r_iload_n C dX3_isOfOne_7 rfl 0 rfl ?_
    refine r_sipush (v := 257) C dX3_isOfOne_8 (by decide) ?_
    refine r_ic_eq (tgt := 63) C dX3_isOfOne_11 (by decide) h (fun h => ?_) (fun h => ?_)
    · refine r_iconst (v := 1) C dX3_isOfOne_63 (by decide) ?_
      refine r_goto (tgt := 68) C dX3_isOfOne_64 (by decide) ?_
      exact r_zret C M dX3_isOfOne_68 (by decide) h
    · refine r_iload_n C dX3_isOfOne_14 rfl 0 rfl ?_
      refine r_sipush (v := 258) C dX3_isOfOne_15 (by decide) ?_
      refine r_ic_eq (tgt := 63) C dX3_isOfOne_18 (by decide) h (fun h => ?_) (fun h => ?_)
      · refine r_iconst (v := 1) C dX3_isOfOne_63 (by decide) ?_
        refine r_goto (tgt := 68) C dX3_isOfOne_64 (by decide) ?_
        exact r_zret C M dX3_isOfOne_68 (by decide) h
      · refine r_iload_n C dX3_isOfOne_21 rfl 0 rfl ?_
        refine r_sipush (v := 259) C dX3_isOfOne_22 (by decide) ?_
        refine r_ic_eq (tgt := 63) C dX3_isOfOne_25 (by decide) h (fun h => ?_) (fun h => ?_)
        · refine r_iconst (v := 1) C dX3_isOfOne_63 (by decide) ?_
          refine r_goto (tgt := 68) C dX3_isOfOne_64 (by decide) ?_
          exact r_zret C M dX3_isOfOne_68 (by decide) h
        · refine r_iload_n C dX3_isOfOne_28 rfl 0 rfl ?_
          refine r_sipush (v := 262) C dX3_isOfOne_29 (by decide) ?_
          refine r_ic_eq (tgt := 63) C dX3_isOfOne_32 (by decide) h (fun h => ?_) (fun h => ?_)
          · refine r_iconst (v := 1) C dX3_isOfOne_63 (by decide) ?_
            refine r_goto (tgt := 68) C dX3_isOfOne_64 (by decide) ?_
            exact r_zret C M dX3_isOfOne_68 (by decide) h
          · refine r_iload_n C dX3_isOfOne_35 rfl 0 rfl ?_
            refine r_sipush (v := 266) C dX3_isOfOne_36 (by decide) ?_
            refine r_ic_eq (tgt := 63) C dX3_isOfOne_39 (by decide) h (fun h => ?_) (fun h => ?_)
            · refine r_iconst (v := 1) C dX3_isOfOne_63 (by decide) ?_
              refine r_goto (tgt := 68) C dX3_isOfOne_64 (by decide) ?_
              exact r_zret C M dX3_isOfOne_68 (by decide) h
            · refine r_iload_n C dX3_isOfOne_42 rfl 0 rfl ?_
              refine r_sipush (v := 277) C dX3_isOfOne_43 (by decide) ?_
              refine r_ic_eq (tgt := 63) C dX3_isOfOne_46 (by decide) h (fun h => ?_) (fun h => ?_)
              · refine r_iconst (v := 1) C dX3_isOfOne_63 (by decide) ?_
                refine r_goto (tgt := 68) C dX3_isOfOne_64 (by decide) ?_
                exact r_zret C M dX3_isOfOne_68 (by decide) h
              · refine r_iload_n C dX3_isOfOne_49 rfl 0 rfl ?_
                refine r_sipush (v := 278) C dX3_isOfOne_50 (by decide) ?_
                refine r_ic_eq (tgt := 63) C dX3_isOfOne_53 (by decide) h (fun h => ?_) (fun h => ?_)
                · refine r_iconst (v := 1) C dX3_isOfOne_63 (by decide) ?_
                  refine r_goto (tgt := 68) C dX3_isOfOne_64 (by decide) ?_
                  exact r_zret C M dX3_isOfOne_68 (by decide) h
                · refine r_iload_n C dX3_isOfOne_56 rfl 0 rfl ?_
                  refine r_sipush (v := 293) C dX3_isOfOne_57 (by decide) ?_
                  refine r_ic_ne (tgt := 67) C dX3_isOfOne_60 (by decide) h (fun h => ?_) (fun h => ?_)
                  · refine r_iconst (v := 0) C dX3_isOfOne_67 (by decide) ?_
                    exact r_zret C M dX3_isOfOne_68 (by decide) h
                  · refine r_iconst (v := 1) C dX3_isOfOne_63 (by decide) ?_
                    refine r_goto (tgt := 68) C dX3_isOfOne_64 (by decide) ?_
                    exact r_zret C M dX3_isOfOne_68 (by decide) h
theorem dX3_tell_0 : decode cX3_tell 0 = .ok (.iload_n 1, 1) := by decide +kernel
theorem dX3_tell_1 : decode cX3_tell 1 = .ok (.lookupswitch 213 #[(256, 67), (257, 92), (259, 117), (262, 136), (266, 159), (278, 184), (293, 201)], 67) := by decide +kernel
theorem dX3_tell_68 : decode cX3_tell 68 = .ok (.aload_n 0, 1) := by decide +kernel
theorem dX3_tell_69 : decode cX3_tell 69 = .ok (.lload_n 2, 1) := by decide +kernel
theorem dX3_tell_70 : decode cX3_tell 70 = .ok (.putfield 105, 3) := by decide +kernel
theorem dX3_tell_73 : decode cX3_tell 73 = .ok (.lload_n 2, 1) := by decide +kernel
theorem dX3_tell_74 : decode cX3_tell 74 = .ok (.lconst 1, 1) := by decide +kernel
theorem dX3_tell_75 : decode cX3_tell 75 = .ok (.lcmp, 1) := by decide +kernel
theorem dX3_tell_76 : decode cX3_tell 76 = .ok (.ifCond .lt 15, 3) := by decide +kernel
theorem dX3_tell_79 : decode cX3_tell 79 = .ok (.lload_n 2, 1) := by decide +kernel
theorem dX3_tell_80 : decode cX3_tell 80 = .ok (.ldc2_w 151, 3) := by decide +kernel
theorem dX3_tell_83 : decode cX3_tell 83 = .ok (.lcmp, 1) := by decide +kernel
theorem dX3_tell_84 : decode cX3_tell 84 = .ok (.ifCond .gt 7, 3) := by decide +kernel
theorem dX3_tell_87 : decode cX3_tell 87 = .ok (.iconst 1, 1) := by decide +kernel
theorem dX3_tell_88 : decode cX3_tell 88 = .ok (.goto 4, 3) := by decide +kernel
theorem dX3_tell_91 : decode cX3_tell 91 = .ok (.iconst 0, 1) := by decide +kernel
theorem dX3_tell_92 : decode cX3_tell 92 = .ok (.ireturn, 1) := by decide +kernel
theorem dX3_tell_93 : decode cX3_tell 93 = .ok (.aload_n 0, 1) := by decide +kernel
theorem dX3_tell_94 : decode cX3_tell 94 = .ok (.lload_n 2, 1) := by decide +kernel
theorem dX3_tell_95 : decode cX3_tell 95 = .ok (.putfield 109, 3) := by decide +kernel
theorem dX3_tell_98 : decode cX3_tell 98 = .ok (.lload_n 2, 1) := by decide +kernel
theorem dX3_tell_99 : decode cX3_tell 99 = .ok (.lconst 1, 1) := by decide +kernel
theorem dX3_tell_100 : decode cX3_tell 100 = .ok (.lcmp, 1) := by decide +kernel
theorem dX3_tell_101 : decode cX3_tell 101 = .ok (.ifCond .lt 15, 3) := by decide +kernel
theorem dX3_tell_104 : decode cX3_tell 104 = .ok (.lload_n 2, 1) := by decide +kernel
theorem dX3_tell_105 : decode cX3_tell 105 = .ok (.ldc2_w 153, 3) := by decide +kernel
theorem dX3_tell_108 : decode cX3_tell 108 = .ok (.lcmp, 1) := by decide +kernel
theorem dX3_tell_109 : decode cX3_tell 109 = .ok (.ifCond .gt 7, 3) := by decide +kernel
theorem dX3_tell_112 : decode cX3_tell 112 = .ok (.iconst 1, 1) := by decide +kernel
theorem dX3_tell_113 : decode cX3_tell 113 = .ok (.goto 4, 3) := by decide +kernel
theorem dX3_tell_116 : decode cX3_tell 116 = .ok (.iconst 0, 1) := by decide +kernel
theorem dX3_tell_117 : decode cX3_tell 117 = .ok (.ireturn, 1) := by decide +kernel
theorem dX3_tell_118 : decode cX3_tell 118 = .ok (.aload_n 0, 1) := by decide +kernel
theorem dX3_tell_119 : decode cX3_tell 119 = .ok (.lload_n 2, 1) := by decide +kernel
theorem dX3_tell_120 : decode cX3_tell 120 = .ok (.putfield 123, 3) := by decide +kernel
theorem dX3_tell_123 : decode cX3_tell 123 = .ok (.lload_n 2, 1) := by decide +kernel
theorem dX3_tell_124 : decode cX3_tell 124 = .ok (.ldc2_w 56, 3) := by decide +kernel
theorem dX3_tell_127 : decode cX3_tell 127 = .ok (.lcmp, 1) := by decide +kernel
theorem dX3_tell_128 : decode cX3_tell 128 = .ok (.ifCond .ne 7, 3) := by decide +kernel
theorem dX3_tell_131 : decode cX3_tell 131 = .ok (.iconst 1, 1) := by decide +kernel
theorem dX3_tell_132 : decode cX3_tell 132 = .ok (.goto 4, 3) := by decide +kernel
theorem dX3_tell_135 : decode cX3_tell 135 = .ok (.iconst 0, 1) := by decide +kernel
theorem dX3_tell_136 : decode cX3_tell 136 = .ok (.ireturn, 1) := by decide +kernel
theorem dX3_tell_137 : decode cX3_tell 137 = .ok (.aload_n 0, 1) := by decide +kernel
theorem dX3_tell_138 : decode cX3_tell 138 = .ok (.lload_n 2, 1) := by decide +kernel
theorem dX3_tell_139 : decode cX3_tell 139 = .ok (.putfield 126, 3) := by decide +kernel
theorem dX3_tell_142 : decode cX3_tell 142 = .ok (.lload_n 2, 1) := by decide +kernel
theorem dX3_tell_143 : decode cX3_tell 143 = .ok (.lconst 0, 1) := by decide +kernel
theorem dX3_tell_144 : decode cX3_tell 144 = .ok (.lcmp, 1) := by decide +kernel
theorem dX3_tell_145 : decode cX3_tell 145 = .ok (.ifCond .eq 9, 3) := by decide +kernel
theorem dX3_tell_148 : decode cX3_tell 148 = .ok (.lload_n 2, 1) := by decide +kernel
theorem dX3_tell_149 : decode cX3_tell 149 = .ok (.lconst 1, 1) := by decide +kernel
theorem dX3_tell_150 : decode cX3_tell 150 = .ok (.lcmp, 1) := by decide +kernel
theorem dX3_tell_151 : decode cX3_tell 151 = .ok (.ifCond .ne 7, 3) := by decide +kernel
theorem dX3_tell_154 : decode cX3_tell 154 = .ok (.iconst 1, 1) := by decide +kernel
theorem dX3_tell_155 : decode cX3_tell 155 = .ok (.goto 4, 3) := by decide +kernel
theorem dX3_tell_158 : decode cX3_tell 158 = .ok (.iconst 0, 1) := by decide +kernel
theorem dX3_tell_159 : decode cX3_tell 159 = .ok (.ireturn, 1) := by decide +kernel
theorem dX3_tell_160 : decode cX3_tell 160 = .ok (.aload_n 0, 1) := by decide +kernel
theorem dX3_tell_161 : decode cX3_tell 161 = .ok (.lload_n 2, 1) := by decide +kernel
theorem dX3_tell_162 : decode cX3_tell 162 = .ok (.putfield 129, 3) := by decide +kernel
theorem dX3_tell_165 : decode cX3_tell 165 = .ok (.lload_n 2, 1) := by decide +kernel
theorem dX3_tell_166 : decode cX3_tell 166 = .ok (.lconst 1, 1) := by decide +kernel
theorem dX3_tell_167 : decode cX3_tell 167 = .ok (.lcmp, 1) := by decide +kernel
theorem dX3_tell_168 : decode cX3_tell 168 = .ok (.ifCond .eq 11, 3) := by decide +kernel
theorem dX3_tell_171 : decode cX3_tell 171 = .ok (.lload_n 2, 1) := by decide +kernel
theorem dX3_tell_172 : decode cX3_tell 172 = .ok (.ldc2_w 84, 3) := by decide +kernel
theorem dX3_tell_175 : decode cX3_tell 175 = .ok (.lcmp, 1) := by decide +kernel
theorem dX3_tell_176 : decode cX3_tell 176 = .ok (.ifCond .ne 7, 3) := by decide +kernel
theorem dX3_tell_179 : decode cX3_tell 179 = .ok (.iconst 1, 1) := by decide +kernel
theorem dX3_tell_180 : decode cX3_tell 180 = .ok (.goto 4, 3) := by decide +kernel
theorem dX3_tell_183 : decode cX3_tell 183 = .ok (.iconst 0, 1) := by decide +kernel
theorem dX3_tell_184 : decode cX3_tell 184 = .ok (.ireturn, 1) := by decide +kernel
theorem dX3_tell_185 : decode cX3_tell 185 = .ok (.aload_n 0, 1) := by decide +kernel
theorem dX3_tell_186 : decode cX3_tell 186 = .ok (.lload_n 2, 1) := by decide +kernel
theorem dX3_tell_187 : decode cX3_tell 187 = .ok (.putfield 132, 3) := by decide +kernel
theorem dX3_tell_190 : decode cX3_tell 190 = .ok (.lload_n 2, 1) := by decide +kernel
theorem dX3_tell_191 : decode cX3_tell 191 = .ok (.lconst 1, 1) := by decide +kernel
theorem dX3_tell_192 : decode cX3_tell 192 = .ok (.lcmp, 1) := by decide +kernel
theorem dX3_tell_193 : decode cX3_tell 193 = .ok (.ifCond .lt 7, 3) := by decide +kernel
theorem dX3_tell_196 : decode cX3_tell 196 = .ok (.iconst 1, 1) := by decide +kernel
theorem dX3_tell_197 : decode cX3_tell 197 = .ok (.goto 4, 3) := by decide +kernel
theorem dX3_tell_200 : decode cX3_tell 200 = .ok (.iconst 0, 1) := by decide +kernel
theorem dX3_tell_201 : decode cX3_tell 201 = .ok (.ireturn, 1) := by decide +kernel
theorem dX3_tell_202 : decode cX3_tell 202 = .ok (.lload_n 2, 1) := by decide +kernel
theorem dX3_tell_203 : decode cX3_tell 203 = .ok (.lconst 0, 1) := by decide +kernel
theorem dX3_tell_204 : decode cX3_tell 204 = .ok (.lcmp, 1) := by decide +kernel
theorem dX3_tell_205 : decode cX3_tell 205 = .ok (.ifCond .ne 7, 3) := by decide +kernel
theorem dX3_tell_208 : decode cX3_tell 208 = .ok (.iconst 1, 1) := by decide +kernel
theorem dX3_tell_209 : decode cX3_tell 209 = .ok (.goto 4, 3) := by decide +kernel
theorem dX3_tell_212 : decode cX3_tell 212 = .ok (.iconst 0, 1) := by decide +kernel
theorem dX3_tell_213 : decode cX3_tell 213 = .ok (.ireturn, 1) := by decide +kernel
theorem dX3_tell_214 : decode cX3_tell 214 = .ok (.lload_n 2, 1) := by decide +kernel
theorem dX3_tell_215 : decode cX3_tell 215 = .ok (.lconst 1, 1) := by decide +kernel
theorem dX3_tell_216 : decode cX3_tell 216 = .ok (.lcmp, 1) := by decide +kernel
theorem dX3_tell_217 : decode cX3_tell 217 = .ok (.ifCond .ne 7, 3) := by decide +kernel
theorem dX3_tell_220 : decode cX3_tell 220 = .ok (.iconst 1, 1) := by decide +kernel
theorem dX3_tell_221 : decode cX3_tell 221 = .ok (.goto 4, 3) := by decide +kernel
theorem dX3_tell_224 : decode cX3_tell 224 = .ok (.iconst 0, 1) := by decide +kernel
theorem dX3_tell_225 : decode cX3_tell 225 = .ok (.ireturn, 1) := by decide +kernel
noncomputable def f_X3_tell (p1 : Int32) (p2 : Int64) (T : Mm) : Option (Int32 × Mm) :=
  if p1 = 256 then (lb (uJ T 309 129 p2) fun T2 =>
  if (lg_cmp p2 1) < 0 then (some (0, T2))
  else (if 0 < (lg_cmp p2 640) then (some (0, T2))
  else (some (1, T2))))
  else if p1 = 257 then (lb (uJ T 310 129 p2) fun T4 =>
  if (lg_cmp p2 1) < 0 then (some (0, T4))
  else (if 0 < (lg_cmp p2 800) then (some (0, T4))
  else (some (1, T4))))
  else if p1 = 259 then (lb (uJ T 311 129 p2) fun T6 =>
  if (lg_cmp p2 4) = 0 then (some (1, T6))
  else (some (0, T6)))
  else if p1 = 262 then (lb (uJ T 312 129 p2) fun T8 =>
  if (lg_cmp p2 0) = 0 then (some (1, T8))
  else (if (lg_cmp p2 1) = 0 then (some (1, T8))
  else (some (0, T8))))
  else if p1 = 266 then (lb (uJ T 313 129 p2) fun T10 =>
  if (lg_cmp p2 1) = 0 then (some (1, T10))
  else (if (lg_cmp p2 2) = 0 then (some (1, T10))
  else (some (0, T10))))
  else if p1 = 278 then (lb (uJ T 314 129 p2) fun T12 =>
  if (lg_cmp p2 1) < 0 then (some (0, T12))
  else (some (1, T12)))
  else if p1 = 293 then (if (lg_cmp p2 0) = 0 then (some (1, T))
  else (some (0, T)))
  else (if (lg_cmp p2 1) = 0 then (some (1, T))
  else (some (0, T)))
set_option maxRecDepth 100000 in
set_option maxHeartbeats 4000000 in
theorem s_X3_tell {ad : Nat → Nat} {U T : Mm} {q : Int32 × Mm}  (p1 : Int32) (p2 : Int64) (h : f_X3_tell p1 p2 T = some q) : Cr 1 yX3_tell cX3_tell 4 (some .boolean) [.ref (ad 129), .int p1, .long p2] ad true U T eI q := by
  refine cr_of (by decide) (Nat.le_of_ble_eq_true rfl) fun x S0 hn9 C M => ?_
  have C : CB x RX3 cX3_tell := C
  refine Jr.eq (lv' := [(0, .ref (ad 129)), (1, .int p1), (2, .long p2)]) (st' := []) rfl rfl ?_
  unfold f_X3_tell at h
  refine r_iload_n C dX3_tell_0 rfl 1 rfl ?_
  by_cases hs1 : p1 = 256
  · rw [if_pos hs1] at h
    refine r_top hs1 ?_
    refine r_look (off := 67) (tgt := 68) C dX3_tell_1 (by decide) (by decide) (by decide) ?_
    refine r_aload_n C dX3_tell_68 rfl 0 rfl ?_
    refine r_lload_n C dX3_tell_69 rfl 2 rfl ?_
    refine r_putl (f := 309) C flX3_105 (by decide) rfl rfl dX3_tell_70 kq_129 rfl h (fun T2 h => ?_)
    refine r_lload_n C dX3_tell_73 rfl 2 rfl ?_
    refine r_lconst (v := 1) C dX3_tell_74 (by decide) ?_
    show Jr _ _ _ _ _ _ 75 _
    refine r_lcmp C dX3_tell_75 ?_
    refine r_if_lt (tgt := 91) C dX3_tell_76 (by decide) h (fun h => ?_) (fun h => ?_)
    · refine r_iconst (v := 0) C dX3_tell_91 (by decide) ?_
      exact r_zret C M dX3_tell_92 (by decide) h
    · refine r_lload_n C dX3_tell_79 rfl 2 rfl ?_
      refine r_ldc2 (v := 640) C dX3_tell_80 kcX3_151 ?_
      refine r_lcmp C dX3_tell_83 ?_
      refine r_if_gt (tgt := 91) C dX3_tell_84 (by decide) h (fun h => ?_) (fun h => ?_)
      · refine r_iconst (v := 0) C dX3_tell_91 (by decide) ?_
        exact r_zret C M dX3_tell_92 (by decide) h
      · refine r_iconst (v := 1) C dX3_tell_87 (by decide) ?_
        refine r_goto (tgt := 92) C dX3_tell_88 (by decide) ?_
        exact r_zret C M dX3_tell_92 (by decide) h
  rw [if_neg hs1] at h
  by_cases hs3 : p1 = 257
  · rw [if_pos hs3] at h
    refine r_top hs3 ?_
    refine r_look (off := 92) (tgt := 93) C dX3_tell_1 (by decide) (by decide) (by decide) ?_
    refine r_aload_n C dX3_tell_93 rfl 0 rfl ?_
    refine r_lload_n C dX3_tell_94 rfl 2 rfl ?_
    refine r_putl (f := 310) C flX3_109 (by decide) rfl rfl dX3_tell_95 kq_129 rfl h (fun T4 h => ?_)
    refine r_lload_n C dX3_tell_98 rfl 2 rfl ?_
    refine r_lconst (v := 1) C dX3_tell_99 (by decide) ?_
    show Jr _ _ _ _ _ _ 100 _
    refine r_lcmp C dX3_tell_100 ?_
    refine r_if_lt (tgt := 116) C dX3_tell_101 (by decide) h (fun h => ?_) (fun h => ?_)
    · refine r_iconst (v := 0) C dX3_tell_116 (by decide) ?_
      exact r_zret C M dX3_tell_117 (by decide) h
    · refine r_lload_n C dX3_tell_104 rfl 2 rfl ?_
      refine r_ldc2 (v := 800) C dX3_tell_105 kcX3_153 ?_
      refine r_lcmp C dX3_tell_108 ?_
      refine r_if_gt (tgt := 116) C dX3_tell_109 (by decide) h (fun h => ?_) (fun h => ?_)
      · refine r_iconst (v := 0) C dX3_tell_116 (by decide) ?_
        exact r_zret C M dX3_tell_117 (by decide) h
      · refine r_iconst (v := 1) C dX3_tell_112 (by decide) ?_
        refine r_goto (tgt := 117) C dX3_tell_113 (by decide) ?_
        exact r_zret C M dX3_tell_117 (by decide) h
  rw [if_neg hs3] at h
  by_cases hs5 : p1 = 259
  · rw [if_pos hs5] at h
    refine r_top hs5 ?_
    refine r_look (off := 117) (tgt := 118) C dX3_tell_1 (by decide) (by decide) (by decide) ?_
    refine r_aload_n C dX3_tell_118 rfl 0 rfl ?_
    refine r_lload_n C dX3_tell_119 rfl 2 rfl ?_
    refine r_putl (f := 311) C flX3_123 (by decide) rfl rfl dX3_tell_120 kq_129 rfl h (fun T6 h => ?_)
    refine r_lload_n C dX3_tell_123 rfl 2 rfl ?_
    refine r_ldc2 (v := 4) C dX3_tell_124 kcX3_56 ?_
    show Jr _ _ _ _ _ _ 127 _
    refine r_lcmp C dX3_tell_127 ?_
    refine r_if_ne (tgt := 135) C dX3_tell_128 (by decide) h (fun h => ?_) (fun h => ?_)
    · refine r_iconst (v := 0) C dX3_tell_135 (by decide) ?_
      exact r_zret C M dX3_tell_136 (by decide) h
    · refine r_iconst (v := 1) C dX3_tell_131 (by decide) ?_
      refine r_goto (tgt := 136) C dX3_tell_132 (by decide) ?_
      exact r_zret C M dX3_tell_136 (by decide) h
  rw [if_neg hs5] at h
  by_cases hs7 : p1 = 262
  · rw [if_pos hs7] at h
    refine r_top hs7 ?_
    refine r_look (off := 136) (tgt := 137) C dX3_tell_1 (by decide) (by decide) (by decide) ?_
    refine r_aload_n C dX3_tell_137 rfl 0 rfl ?_
    refine r_lload_n C dX3_tell_138 rfl 2 rfl ?_
    refine r_putl (f := 312) C flX3_126 (by decide) rfl rfl dX3_tell_139 kq_129 rfl h (fun T8 h => ?_)
    refine r_lload_n C dX3_tell_142 rfl 2 rfl ?_
    refine r_lconst (v := 0) C dX3_tell_143 (by decide) ?_
    show Jr _ _ _ _ _ _ 144 _
    refine r_lcmp C dX3_tell_144 ?_
    refine r_if_eq (tgt := 154) C dX3_tell_145 (by decide) h (fun h => ?_) (fun h => ?_)
    · refine r_iconst (v := 1) C dX3_tell_154 (by decide) ?_
      refine r_goto (tgt := 159) C dX3_tell_155 (by decide) ?_
      exact r_zret C M dX3_tell_159 (by decide) h
    · refine r_lload_n C dX3_tell_148 rfl 2 rfl ?_
      refine r_lconst (v := 1) C dX3_tell_149 (by decide) ?_
      refine r_lcmp C dX3_tell_150 ?_
      refine r_if_ne (tgt := 158) C dX3_tell_151 (by decide) h (fun h => ?_) (fun h => ?_)
      · refine r_iconst (v := 0) C dX3_tell_158 (by decide) ?_
        exact r_zret C M dX3_tell_159 (by decide) h
      · refine r_iconst (v := 1) C dX3_tell_154 (by decide) ?_
        refine r_goto (tgt := 159) C dX3_tell_155 (by decide) ?_
        exact r_zret C M dX3_tell_159 (by decide) h
  rw [if_neg hs7] at h
  by_cases hs9 : p1 = 266
  · rw [if_pos hs9] at h
    refine r_top hs9 ?_
    refine r_look (off := 159) (tgt := 160) C dX3_tell_1 (by decide) (by decide) (by decide) ?_
    refine r_aload_n C dX3_tell_160 rfl 0 rfl ?_
    refine r_lload_n C dX3_tell_161 rfl 2 rfl ?_
    refine r_putl (f := 313) C flX3_129 (by decide) rfl rfl dX3_tell_162 kq_129 rfl h (fun T10 h => ?_)
    refine r_lload_n C dX3_tell_165 rfl 2 rfl ?_
    refine r_lconst (v := 1) C dX3_tell_166 (by decide) ?_
    show Jr _ _ _ _ _ _ 167 _
    refine r_lcmp C dX3_tell_167 ?_
    refine r_if_eq (tgt := 179) C dX3_tell_168 (by decide) h (fun h => ?_) (fun h => ?_)
    · refine r_iconst (v := 1) C dX3_tell_179 (by decide) ?_
      refine r_goto (tgt := 184) C dX3_tell_180 (by decide) ?_
      exact r_zret C M dX3_tell_184 (by decide) h
    · refine r_lload_n C dX3_tell_171 rfl 2 rfl ?_
      refine r_ldc2 (v := 2) C dX3_tell_172 kcX3_84 ?_
      refine r_lcmp C dX3_tell_175 ?_
      refine r_if_ne (tgt := 183) C dX3_tell_176 (by decide) h (fun h => ?_) (fun h => ?_)
      · refine r_iconst (v := 0) C dX3_tell_183 (by decide) ?_
        exact r_zret C M dX3_tell_184 (by decide) h
      · refine r_iconst (v := 1) C dX3_tell_179 (by decide) ?_
        refine r_goto (tgt := 184) C dX3_tell_180 (by decide) ?_
        exact r_zret C M dX3_tell_184 (by decide) h
  rw [if_neg hs9] at h
  by_cases hs11 : p1 = 278
  · rw [if_pos hs11] at h
    refine r_top hs11 ?_
    refine r_look (off := 184) (tgt := 185) C dX3_tell_1 (by decide) (by decide) (by decide) ?_
    refine r_aload_n C dX3_tell_185 rfl 0 rfl ?_
    refine r_lload_n C dX3_tell_186 rfl 2 rfl ?_
    refine r_putl (f := 314) C flX3_132 (by decide) rfl rfl dX3_tell_187 kq_129 rfl h (fun T12 h => ?_)
    refine r_lload_n C dX3_tell_190 rfl 2 rfl ?_
    refine r_lconst (v := 1) C dX3_tell_191 (by decide) ?_
    show Jr _ _ _ _ _ _ 192 _
    refine r_lcmp C dX3_tell_192 ?_
    refine r_if_lt (tgt := 200) C dX3_tell_193 (by decide) h (fun h => ?_) (fun h => ?_)
    · refine r_iconst (v := 0) C dX3_tell_200 (by decide) ?_
      exact r_zret C M dX3_tell_201 (by decide) h
    · refine r_iconst (v := 1) C dX3_tell_196 (by decide) ?_
      refine r_goto (tgt := 201) C dX3_tell_197 (by decide) ?_
      exact r_zret C M dX3_tell_201 (by decide) h
  rw [if_neg hs11] at h
  by_cases hs13 : p1 = 293
  · rw [if_pos hs13] at h
    refine r_top hs13 ?_
    refine r_look (off := 201) (tgt := 202) C dX3_tell_1 (by decide) (by decide) (by decide) ?_
    refine r_lload_n C dX3_tell_202 rfl 2 rfl ?_
    refine r_lconst (v := 0) C dX3_tell_203 (by decide) ?_
    refine r_lcmp C dX3_tell_204 ?_
    refine r_if_ne (tgt := 212) C dX3_tell_205 (by decide) h (fun h => ?_) (fun h => ?_)
    · refine r_iconst (v := 0) C dX3_tell_212 (by decide) ?_
      exact r_zret C M dX3_tell_213 (by decide) h
    · refine r_iconst (v := 1) C dX3_tell_208 (by decide) ?_
      refine r_goto (tgt := 213) C dX3_tell_209 (by decide) ?_
      exact r_zret C M dX3_tell_213 (by decide) h
  rw [if_neg hs13] at h
  refine r_look (tgt := 214) (off := 213) C dX3_tell_1 (by decide) (by rw [lv_osw hs1 (by decide), lv_osw hs3 (by decide), lv_osw hs5 (by decide), lv_osw hs7 (by decide), lv_osw hs9 (by decide), lv_osw hs11 (by decide), lv_osw hs13 (by decide)]; rfl) (by decide) ?_
  refine r_lload_n C dX3_tell_214 rfl 2 rfl ?_
  refine r_lconst (v := 1) C dX3_tell_215 (by decide) ?_
  refine r_lcmp C dX3_tell_216 ?_
  refine r_if_ne (tgt := 224) C dX3_tell_217 (by decide) h (fun h => ?_) (fun h => ?_)
  · refine r_iconst (v := 0) C dX3_tell_224 (by decide) ?_
    exact r_zret C M dX3_tell_225 (by decide) h
  · refine r_iconst (v := 1) C dX3_tell_220 (by decide) ?_
    refine r_goto (tgt := 225) C dX3_tell_221 (by decide) ?_
    exact r_zret C M dX3_tell_225 (by decide) h
theorem dX3_readEntry_0 : decode cX3_readEntry 0 = .ok (.aload_n 0, 1) := by decide +kernel
theorem dX3_readEntry_1 : decode cX3_readEntry 1 = .ok (.lload_n 1, 1) := by decide +kernel
theorem dX3_readEntry_2 : decode cX3_readEntry 2 = .ok (.iconst 2, 1) := by decide +kernel
theorem dX3_readEntry_3 : decode cX3_readEntry 3 = .ok (.invokevirtual 58, 3) := by decide +kernel
theorem dX3_readEntry_6 : decode cX3_readEntry 6 = .ok (.l2i, 1) := by decide +kernel
theorem dX3_readEntry_7 : decode cX3_readEntry 7 = .ok (.istore_n 3, 1) := by decide +kernel
theorem dX3_readEntry_8 : decode cX3_readEntry 8 = .ok (.iload_n 3, 1) := by decide +kernel
theorem dX3_readEntry_9 : decode cX3_readEntry 9 = .ok (.sipush 273, 3) := by decide +kernel
theorem dX3_readEntry_12 : decode cX3_readEntry 12 = .ok (.if_icmp .ne 11, 3) := by decide +kernel
theorem dX3_readEntry_15 : decode cX3_readEntry 15 = .ok (.aload_n 0, 1) := by decide +kernel
theorem dX3_readEntry_16 : decode cX3_readEntry 16 = .ok (.lload_n 1, 1) := by decide +kernel
theorem dX3_readEntry_17 : decode cX3_readEntry 17 = .ok (.putfield 135, 3) := by decide +kernel
theorem dX3_readEntry_20 : decode cX3_readEntry 20 = .ok (.goto 119, 3) := by decide +kernel
theorem dX3_readEntry_23 : decode cX3_readEntry 23 = .ok (.iload_n 3, 1) := by decide +kernel
theorem dX3_readEntry_24 : decode cX3_readEntry 24 = .ok (.sipush 279, 3) := by decide +kernel
theorem dX3_readEntry_27 : decode cX3_readEntry 27 = .ok (.if_icmp .ne 11, 3) := by decide +kernel
theorem dX3_readEntry_30 : decode cX3_readEntry 30 = .ok (.aload_n 0, 1) := by decide +kernel
theorem dX3_readEntry_31 : decode cX3_readEntry 31 = .ok (.lload_n 1, 1) := by decide +kernel
theorem dX3_readEntry_32 : decode cX3_readEntry 32 = .ok (.putfield 138, 3) := by decide +kernel
theorem dX3_readEntry_35 : decode cX3_readEntry 35 = .ok (.goto 104, 3) := by decide +kernel
theorem dX3_readEntry_38 : decode cX3_readEntry 38 = .ok (.iload_n 3, 1) := by decide +kernel
theorem dX3_readEntry_39 : decode cX3_readEntry 39 = .ok (.invokestatic 141, 3) := by decide +kernel
theorem dX3_readEntry_42 : decode cX3_readEntry 42 = .ok (.ifCond .eq 97, 3) := by decide +kernel
theorem dX3_readEntry_45 : decode cX3_readEntry 45 = .ok (.aload_n 0, 1) := by decide +kernel
theorem dX3_readEntry_46 : decode cX3_readEntry 46 = .ok (.lload_n 1, 1) := by decide +kernel
theorem dX3_readEntry_47 : decode cX3_readEntry 47 = .ok (.ldc2_w 84, 3) := by decide +kernel
theorem dX3_readEntry_50 : decode cX3_readEntry 50 = .ok (.ladd, 1) := by decide +kernel
theorem dX3_readEntry_51 : decode cX3_readEntry 51 = .ok (.iconst 2, 1) := by decide +kernel
theorem dX3_readEntry_52 : decode cX3_readEntry 52 = .ok (.invokevirtual 58, 3) := by decide +kernel
theorem dX3_readEntry_55 : decode cX3_readEntry 55 = .ok (.l2i, 1) := by decide +kernel
theorem dX3_readEntry_56 : decode cX3_readEntry 56 = .ok (.istore 4, 2) := by decide +kernel
theorem dX3_readEntry_58 : decode cX3_readEntry 58 = .ok (.aload_n 0, 1) := by decide +kernel
theorem dX3_readEntry_59 : decode cX3_readEntry 59 = .ok (.lload_n 1, 1) := by decide +kernel
theorem dX3_readEntry_60 : decode cX3_readEntry 60 = .ok (.ldc2_w 56, 3) := by decide +kernel
theorem dX3_readEntry_63 : decode cX3_readEntry 63 = .ok (.ladd, 1) := by decide +kernel
theorem dX3_readEntry_64 : decode cX3_readEntry 64 = .ok (.iconst 4, 1) := by decide +kernel
theorem dX3_readEntry_65 : decode cX3_readEntry 65 = .ok (.invokevirtual 58, 3) := by decide +kernel
theorem dX3_readEntry_68 : decode cX3_readEntry 68 = .ok (.lstore 5, 2) := by decide +kernel
theorem dX3_readEntry_70 : decode cX3_readEntry 70 = .ok (.aload_n 0, 1) := by decide +kernel
theorem dX3_readEntry_71 : decode cX3_readEntry 71 = .ok (.lload_n 1, 1) := by decide +kernel
theorem dX3_readEntry_72 : decode cX3_readEntry 72 = .ok (.ldc2_w 145, 3) := by decide +kernel
theorem dX3_readEntry_75 : decode cX3_readEntry 75 = .ok (.ladd, 1) := by decide +kernel
theorem dX3_readEntry_76 : decode cX3_readEntry 76 = .ok (.iload 4, 2) := by decide +kernel
theorem dX3_readEntry_78 : decode cX3_readEntry 78 = .ok (.iconst 3, 1) := by decide +kernel
theorem dX3_readEntry_79 : decode cX3_readEntry 79 = .ok (.if_icmp .ne 7, 3) := by decide +kernel
theorem dX3_readEntry_82 : decode cX3_readEntry 82 = .ok (.iconst 2, 1) := by decide +kernel
theorem dX3_readEntry_83 : decode cX3_readEntry 83 = .ok (.goto 4, 3) := by decide +kernel
theorem dX3_readEntry_86 : decode cX3_readEntry 86 = .ok (.iconst 4, 1) := by decide +kernel
theorem dX3_readEntry_87 : decode cX3_readEntry 87 = .ok (.invokevirtual 58, 3) := by decide +kernel
theorem dX3_readEntry_90 : decode cX3_readEntry 90 = .ok (.lstore 7, 2) := by decide +kernel
theorem dX3_readEntry_92 : decode cX3_readEntry 92 = .ok (.iload 4, 2) := by decide +kernel
theorem dX3_readEntry_94 : decode cX3_readEntry 94 = .ok (.iconst 3, 1) := by decide +kernel
theorem dX3_readEntry_95 : decode cX3_readEntry 95 = .ok (.if_icmp .eq 9, 3) := by decide +kernel
theorem dX3_readEntry_98 : decode cX3_readEntry 98 = .ok (.iload 4, 2) := by decide +kernel
theorem dX3_readEntry_100 : decode cX3_readEntry 100 = .ok (.iconst 4, 1) := by decide +kernel
theorem dX3_readEntry_101 : decode cX3_readEntry 101 = .ok (.if_icmp .ne 14, 3) := by decide +kernel
theorem dX3_readEntry_104 : decode cX3_readEntry 104 = .ok (.lload 5, 2) := by decide +kernel
theorem dX3_readEntry_106 : decode cX3_readEntry 106 = .ok (.lconst 1, 1) := by decide +kernel
theorem dX3_readEntry_107 : decode cX3_readEntry 107 = .ok (.lcmp, 1) := by decide +kernel
theorem dX3_readEntry_108 : decode cX3_readEntry 108 = .ok (.ifCond .ne 7, 3) := by decide +kernel
theorem dX3_readEntry_111 : decode cX3_readEntry 111 = .ok (.iconst 1, 1) := by decide +kernel
theorem dX3_readEntry_112 : decode cX3_readEntry 112 = .ok (.goto 4, 3) := by decide +kernel
theorem dX3_readEntry_115 : decode cX3_readEntry 115 = .ok (.iconst 0, 1) := by decide +kernel
theorem dX3_readEntry_116 : decode cX3_readEntry 116 = .ok (.istore 9, 2) := by decide +kernel
theorem dX3_readEntry_118 : decode cX3_readEntry 118 = .ok (.iload 9, 2) := by decide +kernel
theorem dX3_readEntry_120 : decode cX3_readEntry 120 = .ok (.ifCond .eq 13, 3) := by decide +kernel
theorem dX3_readEntry_123 : decode cX3_readEntry 123 = .ok (.aload_n 0, 1) := by decide +kernel
theorem dX3_readEntry_124 : decode cX3_readEntry 124 = .ok (.iload_n 3, 1) := by decide +kernel
theorem dX3_readEntry_125 : decode cX3_readEntry 125 = .ok (.lload 7, 2) := by decide +kernel
theorem dX3_readEntry_127 : decode cX3_readEntry 127 = .ok (.invokevirtual 147, 3) := by decide +kernel
theorem dX3_readEntry_130 : decode cX3_readEntry 130 = .ok (.ifCond .ne 9, 3) := by decide +kernel
theorem dX3_readEntry_133 : decode cX3_readEntry 133 = .ok (.aload_n 0, 1) := by decide +kernel
theorem dX3_readEntry_134 : decode cX3_readEntry 134 = .ok (.iconst 4, 1) := by decide +kernel
theorem dX3_readEntry_135 : decode cX3_readEntry 135 = .ok (.lload_n 1, 1) := by decide +kernel
theorem dX3_readEntry_136 : decode cX3_readEntry 136 = .ok (.invokevirtual 80, 3) := by decide +kernel
theorem dX3_readEntry_139 : decode cX3_readEntry 139 = .ok (.return_, 1) := by decide +kernel
noncomputable def f_X3_readEntry_116 (a1 : Int64) (a3 : Int32) (a7 : Int64) (b0 : Int32) (T : Mm) : Option (Unit × Mm) :=
  if b0 = 0 then (bd (f_X3_fail 4 a1 T) fun _ T1 =>
  some ((), T1))
  else (bd (f_X3_tell a3 a7 T) fun v2 T3 =>
  if v2 = 0 then (bd (f_X3_fail 4 a1 T3) fun _ T4 =>
  some ((), T4))
  else (some ((), T3)))
set_option maxRecDepth 100000 in
set_option maxHeartbeats 4000000 in
theorem s_X3_readEntry_116 {x : JX} {ad : Nat → Nat} {U : Mm} {S0 : Hp} {q : Unit × Mm}  (hn9 : x_n x = 10) (C : CB x RX3 cX3_readEntry) (M : CMr x 3 none S0 ad true U eV q) (a1 : Int64) (a3 : Int32) (a7 : Int64) (b0 : Int32) (T : Mm) (h : f_X3_readEntry_116  a1 a3 a7 b0 T = some q) : Jr x ad true U T [(0, .ref (ad 129)), (1, .long a1), (3, .int a3), (7, .long a7)] 116 [.int b0] := by
  unfold f_X3_readEntry_116 at h
  refine r_istore (lv' := [(9, .int b0), (0, .ref (ad 129)), (1, .long a1), (3, .int a3), (7, .long a7)]) C dX3_readEntry_116 (by rw [hn9]; decide) rfl ?_
  refine r_iload C dX3_readEntry_118 0 rfl ?_
  refine r_if_eq (tgt := 133) C dX3_readEntry_120 (by decide) h (fun h => ?_) (fun h => ?_)
  · refine r_aload_n C dX3_readEntry_133 rfl 1 rfl ?_
    refine r_iconst (v := 4) C dX3_readEntry_134 (by decide) ?_
    refine r_lload_n C dX3_readEntry_135 rfl 2 rfl ?_
    refine r_callVN C M h [.int 4, .long a1] [] mlX3_80 mcX3_fail (fun q9 e9 => s_X3_fail 4 a1  e9) kq_129 rfl (by decide) (by decide) rfl rfl (Nat.le_of_ble_eq_true rfl) dX3_readEntry_136 (fun _ T1 h => ?_)
    exact r_vret C M dX3_readEntry_139 h
  · refine r_aload_n C dX3_readEntry_123 rfl 1 rfl ?_
    refine r_iload_n C dX3_readEntry_124 rfl 3 rfl ?_
    refine r_lload C dX3_readEntry_125 4 rfl ?_
    refine r_callVI C M h [.int a3, .long a7] [] mlX3_147 mcX3_tell (fun q9 e9 => s_X3_tell a3 a7  e9) kq_129 rfl (by decide) (by decide) rfl rfl (Nat.le_of_ble_eq_true rfl) dX3_readEntry_127 (fun v2 T3 h => ?_)
    refine r_if_ne (tgt := 139) C dX3_readEntry_130 (by decide) h (fun h => ?_) (fun h => ?_)
    · exact r_vret C M dX3_readEntry_139 h
    · refine r_aload_n C dX3_readEntry_133 rfl 1 rfl ?_
      refine r_iconst (v := 4) C dX3_readEntry_134 (by decide) ?_
      refine r_lload_n C dX3_readEntry_135 rfl 2 rfl ?_
      refine r_callVN C M h [.int 4, .long a1] [] mlX3_80 mcX3_fail (fun q9 e9 => s_X3_fail 4 a1  e9) kq_129 rfl (by decide) (by decide) rfl rfl (Nat.le_of_ble_eq_true rfl) dX3_readEntry_136 (fun _ T4 h => ?_)
      exact r_vret C M dX3_readEntry_139 h
noncomputable def f_X3_readEntry_104 (a1 : Int64) (a3 : Int32) (a5 : Int64) (a7 : Int64) (T : Mm) : Option (Unit × Mm) :=
  if (lg_cmp a5 1) = 0 then (f_X3_readEntry_116 a1 a3 a7 1 T)
  else (f_X3_readEntry_116 a1 a3 a7 0 T)
set_option maxRecDepth 100000 in
set_option maxHeartbeats 4000000 in
theorem s_X3_readEntry_104 {x : JX} {ad : Nat → Nat} {U : Mm} {S0 : Hp} {q : Unit × Mm}  (hn9 : x_n x = 10) (C : CB x RX3 cX3_readEntry) (M : CMr x 3 none S0 ad true U eV q) (a1 : Int64) (a3 : Int32) (a5 : Int64) (a7 : Int64) (T : Mm) (h : f_X3_readEntry_104  a1 a3 a5 a7 T = some q) : Jr x ad true U T [(0, .ref (ad 129)), (1, .long a1), (3, .int a3), (5, .long a5), (7, .long a7)] 104 [] := by
  unfold f_X3_readEntry_104 at h
  refine r_lload C dX3_readEntry_104 3 rfl ?_
  refine r_lconst (v := 1) C dX3_readEntry_106 (by decide) ?_
  refine r_lcmp C dX3_readEntry_107 ?_
  refine r_if_ne (tgt := 115) C dX3_readEntry_108 (by decide) h (fun h => ?_) (fun h => ?_)
  · refine r_iconst (v := 0) C dX3_readEntry_115 (by decide) ?_
    refine Jr.sub [0, 1, 2, 4] (lv' := [(0, .ref (ad 129)), (1, .long a1), (3, .int a3), (7, .long a7)]) rfl ?_
    exact s_X3_readEntry_116 hn9 C M  a1 a3 a7 0 T h
  · refine r_iconst (v := 1) C dX3_readEntry_111 (by decide) ?_
    refine r_goto (tgt := 116) C dX3_readEntry_112 (by decide) ?_
    refine Jr.sub [0, 1, 2, 4] (lv' := [(0, .ref (ad 129)), (1, .long a1), (3, .int a3), (7, .long a7)]) rfl ?_
    exact s_X3_readEntry_116 hn9 C M  a1 a3 a7 1 T h
noncomputable def f_X3_readEntry_87 (a1 : Int64) (a3 : Int32) (a4 : Int32) (a5 : Int64) (b0 : Int32) (b1 : Int64) (T : Mm) : Option (Unit × Mm) :=
  bd (f_X3_number b1 b0 T) fun v1 T2 =>
  if a4 = 3 then (f_X3_readEntry_104 a1 a3 a5 v1 T2)
  else (if a4 = 4 then (f_X3_readEntry_104 a1 a3 a5 v1 T2)
  else (f_X3_readEntry_116 a1 a3 v1 0 T2))
set_option maxRecDepth 100000 in
set_option maxHeartbeats 4000000 in
theorem s_X3_readEntry_87 {x : JX} {ad : Nat → Nat} {U : Mm} {S0 : Hp} {q : Unit × Mm}  (hn9 : x_n x = 10) (C : CB x RX3 cX3_readEntry) (M : CMr x 3 none S0 ad true U eV q) (a1 : Int64) (a3 : Int32) (a4 : Int32) (a5 : Int64) (b0 : Int32) (b1 : Int64) (T : Mm) (h : f_X3_readEntry_87  a1 a3 a4 a5 b0 b1 T = some q) : Jr x ad true U T [(0, .ref (ad 129)), (1, .long a1), (3, .int a3), (4, .int a4), (5, .long a5)] 87 [.int b0, .long b1, .ref (ad 129)] := by
  unfold f_X3_readEntry_87 at h
  refine r_callVJ C M h [.long b1, .int b0] [] mlX3_58 mcX3_number (fun q9 e9 => s_X3_number b1 b0  e9) kq_129 rfl (by decide) (by decide) rfl rfl (Nat.le_of_ble_eq_true rfl) dX3_readEntry_87 (fun v1 T2 h => ?_)
  refine r_lstore (lv' := [(7, .long v1), (0, .ref (ad 129)), (1, .long a1), (3, .int a3), (4, .int a4), (5, .long a5)]) C dX3_readEntry_90 (by rw [hn9]; decide) rfl ?_
  refine r_iload C dX3_readEntry_92 4 rfl ?_
  refine r_iconst (v := 3) C dX3_readEntry_94 (by decide) ?_
  refine r_ic_eq (tgt := 104) C dX3_readEntry_95 (by decide) h (fun h => ?_) (fun h => ?_)
  · refine Jr.sub [1, 2, 3, 5, 0] (lv' := [(0, .ref (ad 129)), (1, .long a1), (3, .int a3), (5, .long a5), (7, .long v1)]) rfl ?_
    exact s_X3_readEntry_104 hn9 C M  a1 a3 a5 v1 T2 h
  · refine r_iload C dX3_readEntry_98 4 rfl ?_
    refine r_iconst (v := 4) C dX3_readEntry_100 (by decide) ?_
    refine r_ic_ne (tgt := 115) C dX3_readEntry_101 (by decide) h (fun h => ?_) (fun h => ?_)
    · refine r_iconst (v := 0) C dX3_readEntry_115 (by decide) ?_
      refine Jr.sub [1, 2, 3, 0] (lv' := [(0, .ref (ad 129)), (1, .long a1), (3, .int a3), (7, .long v1)]) rfl ?_
      exact s_X3_readEntry_116 hn9 C M  a1 a3 v1 0 T2 h
    · refine Jr.sub [1, 2, 3, 5, 0] (lv' := [(0, .ref (ad 129)), (1, .long a1), (3, .int a3), (5, .long a5), (7, .long v1)]) rfl ?_
      exact s_X3_readEntry_104 hn9 C M  a1 a3 a5 v1 T2 h
noncomputable def f_X3_readEntry (p1 : Int64) (T : Mm) : Option (Unit × Mm) :=
  bd (f_X3_number p1 2 T) fun v1 T2 =>
  lb ((v1).toInt32) fun v3 =>
  if v3 = 273 then (lb (uJ T2 315 129 p1) fun T12 =>
  some ((), T12))
  else (if v3 = 279 then (lb (uJ T2 316 129 p1) fun T11 =>
  some ((), T11))
  else (bd (f_X3_isOfOne v3 T2) fun v4 T5 =>
  if v4 = 0 then (some ((), T5))
  else (bd (f_X3_number (p1 + 2) 2 T5) fun v6 T7 =>
  lb ((v6).toInt32) fun v8 =>
  bd (f_X3_number (p1 + 4) 4 T7) fun v9 T10 =>
  if v8 = 3 then (f_X3_readEntry_87 p1 v3 v8 v9 2 (p1 + 8) T10)
  else (f_X3_readEntry_87 p1 v3 v8 v9 4 (p1 + 8) T10))))
set_option maxRecDepth 100000 in
set_option maxHeartbeats 4000000 in
theorem s_X3_readEntry {ad : Nat → Nat} {U T : Mm} {q : Unit × Mm}  (p1 : Int64) (h : f_X3_readEntry p1 T = some q) : Cr 3 yX3_readEntry cX3_readEntry 10 none [.ref (ad 129), .long p1] ad true U T eV q := by
  refine cr_of (by decide) (Nat.le_of_ble_eq_true rfl) fun x S0 hn9 C M => ?_
  have C : CB x RX3 cX3_readEntry := C
  refine Jr.eq (lv' := [(0, .ref (ad 129)), (1, .long p1)]) (st' := []) rfl rfl ?_
  unfold f_X3_readEntry at h
  refine r_aload_n C dX3_readEntry_0 rfl 0 rfl ?_
  refine r_lload_n C dX3_readEntry_1 rfl 1 rfl ?_
  refine r_iconst (v := 2) C dX3_readEntry_2 (by decide) ?_
  refine r_callVJ C M h [.long p1, .int 2] [] mlX3_58 mcX3_number (fun q9 e9 => s_X3_number p1 2  e9) kq_129 rfl (by decide) (by decide) rfl rfl (Nat.le_of_ble_eq_true rfl) dX3_readEntry_3 (fun v1 T2 h => ?_)
  refine r_l2i C dX3_readEntry_6 rfl ?_
  show Jr _ _ _ _ _ _ 7 _
  refine r_lbI h (fun v3 h => ?_)
  refine r_istore_n (lv' := [(3, .int v3), (0, .ref (ad 129)), (1, .long p1)]) C dX3_readEntry_7 rfl (by rw [hn9]; decide) rfl ?_
  refine r_iload_n C dX3_readEntry_8 rfl 0 rfl ?_
  refine r_sipush (v := 273) C dX3_readEntry_9 (by decide) ?_
  refine r_ic_ne (tgt := 23) C dX3_readEntry_12 (by decide) h (fun h => ?_) (fun h => ?_)
  · refine r_iload_n C dX3_readEntry_23 rfl 0 rfl ?_
    refine r_sipush (v := 279) C dX3_readEntry_24 (by decide) ?_
    refine r_ic_ne (tgt := 38) C dX3_readEntry_27 (by decide) h (fun h => ?_) (fun h => ?_)
    · refine r_iload_n C dX3_readEntry_38 rfl 0 rfl ?_
      refine r_callSI C M h [.int v3] [] mlX3_141 mcX3_isOfOne (fun q9 e9 => s_X3_isOfOne v3  e9) (by decide) (by decide) rfl rfl (Nat.le_of_ble_eq_true rfl) dX3_readEntry_39 (fun v4 T5 h => ?_)
      refine r_if_eq (tgt := 139) C dX3_readEntry_42 (by decide) h (fun h => ?_) (fun h => ?_)
      · exact r_vret C M dX3_readEntry_139 h
      · refine r_aload_n C dX3_readEntry_45 rfl 1 rfl ?_
        refine r_lload_n C dX3_readEntry_46 rfl 2 rfl ?_
        refine r_ldc2 (v := 2) C dX3_readEntry_47 kcX3_84 ?_
        refine r_ladd C dX3_readEntry_50 rfl ?_
        refine r_iconst (v := 2) C dX3_readEntry_51 (by decide) ?_
        show Jr _ _ _ _ _ _ 52 _
        refine r_callVJ C M h [.long (p1 + 2), .int 2] [] mlX3_58 mcX3_number (fun q9 e9 => s_X3_number (p1 + 2) 2  e9) kq_129 rfl (by decide) (by decide) rfl rfl (Nat.le_of_ble_eq_true rfl) dX3_readEntry_52 (fun v6 T7 h => ?_)
        refine r_l2i C dX3_readEntry_55 rfl ?_
        refine r_lbI h (fun v8 h => ?_)
        refine r_istore (lv' := [(4, .int v8), (3, .int v3), (0, .ref (ad 129)), (1, .long p1)]) C dX3_readEntry_56 (by rw [hn9]; decide) rfl ?_
        refine r_aload_n C dX3_readEntry_58 rfl 2 rfl ?_
        refine r_lload_n C dX3_readEntry_59 rfl 3 rfl ?_
        refine r_ldc2 (v := 4) C dX3_readEntry_60 kcX3_56 ?_
        show Jr _ _ _ _ _ _ 63 _
        refine r_ladd C dX3_readEntry_63 rfl ?_
        refine r_iconst (v := 4) C dX3_readEntry_64 (by decide) ?_
        refine r_callVJ C M h [.long (p1 + 4), .int 4] [] mlX3_58 mcX3_number (fun q9 e9 => s_X3_number (p1 + 4) 4  e9) kq_129 rfl (by decide) (by decide) rfl rfl (Nat.le_of_ble_eq_true rfl) dX3_readEntry_65 (fun v9 T10 h => ?_)
        refine r_lstore (lv' := [(5, .long v9), (4, .int v8), (3, .int v3), (0, .ref (ad 129)), (1, .long p1)]) C dX3_readEntry_68 (by rw [hn9]; decide) rfl ?_
        refine r_aload_n C dX3_readEntry_70 rfl 3 rfl ?_
        refine r_lload_n C dX3_readEntry_71 rfl 4 rfl ?_
        show Jr _ _ _ _ _ _ 72 _
        refine r_ldc2 (v := 8) C dX3_readEntry_72 kcX3_145 ?_
        refine r_ladd C dX3_readEntry_75 rfl ?_
        refine r_iload C dX3_readEntry_76 1 rfl ?_
        refine r_iconst (v := 3) C dX3_readEntry_78 (by decide) ?_
        refine r_ic_ne (tgt := 86) C dX3_readEntry_79 (by decide) h (fun h => ?_) (fun h => ?_)
        · refine r_iconst (v := 4) C dX3_readEntry_86 (by decide) ?_
          refine Jr.sub [3, 4, 2, 1, 0] (lv' := [(0, .ref (ad 129)), (1, .long p1), (3, .int v3), (4, .int v8), (5, .long v9)]) rfl ?_
          exact s_X3_readEntry_87 hn9 C M  p1 v3 v8 v9 4 (p1 + 8) T10 h
        · refine r_iconst (v := 2) C dX3_readEntry_82 (by decide) ?_
          refine r_goto (tgt := 87) C dX3_readEntry_83 (by decide) ?_
          refine Jr.sub [3, 4, 2, 1, 0] (lv' := [(0, .ref (ad 129)), (1, .long p1), (3, .int v3), (4, .int v8), (5, .long v9)]) rfl ?_
          exact s_X3_readEntry_87 hn9 C M  p1 v3 v8 v9 2 (p1 + 8) T10 h
    · refine r_aload_n C dX3_readEntry_30 rfl 1 rfl ?_
      refine r_lload_n C dX3_readEntry_31 rfl 2 rfl ?_
      refine r_putl (f := 316) C flX3_138 (by decide) rfl rfl dX3_readEntry_32 kq_129 rfl h (fun T11 h => ?_)
      refine r_goto (tgt := 139) C dX3_readEntry_35 (by decide) ?_
      exact r_vret C M dX3_readEntry_139 h
  · refine r_aload_n C dX3_readEntry_15 rfl 1 rfl ?_
    refine r_lload_n C dX3_readEntry_16 rfl 2 rfl ?_
    refine r_putl (f := 315) C flX3_135 (by decide) rfl rfl dX3_readEntry_17 kq_129 rfl h (fun T12 h => ?_)
    refine r_goto (tgt := 139) C dX3_readEntry_20 (by decide) ?_
    exact r_vret C M dX3_readEntry_139 h
theorem dX3_strips_0 : decode cX3_strips 0 = .ok (.aload_n 0, 1) := by decide +kernel
theorem dX3_strips_1 : decode cX3_strips 1 = .ok (.getfield 109, 3) := by decide +kernel
theorem dX3_strips_4 : decode cX3_strips 4 = .ok (.aload_n 0, 1) := by decide +kernel
theorem dX3_strips_5 : decode cX3_strips 5 = .ok (.getfield 132, 3) := by decide +kernel
theorem dX3_strips_8 : decode cX3_strips 8 = .ok (.ladd, 1) := by decide +kernel
theorem dX3_strips_9 : decode cX3_strips 9 = .ok (.lconst 1, 1) := by decide +kernel
theorem dX3_strips_10 : decode cX3_strips 10 = .ok (.lsub, 1) := by decide +kernel
theorem dX3_strips_11 : decode cX3_strips 11 = .ok (.aload_n 0, 1) := by decide +kernel
theorem dX3_strips_12 : decode cX3_strips 12 = .ok (.getfield 132, 3) := by decide +kernel
theorem dX3_strips_15 : decode cX3_strips 15 = .ok (.lconst 1, 1) := by decide +kernel
theorem dX3_strips_16 : decode cX3_strips 16 = .ok (.invokestatic 159, 3) := by decide +kernel
theorem dX3_strips_19 : decode cX3_strips 19 = .ok (.ldiv, 1) := by decide +kernel
theorem dX3_strips_20 : decode cX3_strips 20 = .ok (.lreturn, 1) := by decide +kernel
noncomputable def f_X3_strips (T : Mm) : Option (Int64 × Mm) :=
  bd (f_J9_max_f86c9 (gJ T 314 129) 1 T) fun v1 T2 =>
  gd (¬ v1 = 0) <|
  some (((((gJ T 310 129) + (gJ T 314 129)) - 1) / v1), T2)
set_option maxRecDepth 100000 in
set_option maxHeartbeats 4000000 in
theorem s_X3_strips {ad : Nat → Nat} {U T : Mm} {q : Int64 × Mm}  (h : f_X3_strips  T = some q) : Cr 2 yX3_strips cX3_strips 1 (some .long) [.ref (ad 129)] ad true U T eJ q := by
  refine cr_of (by decide) (Nat.le_of_ble_eq_true rfl) fun x S0 hn9 C M => ?_
  have C : CB x RX3 cX3_strips := C
  refine Jr.eq (lv' := [(0, .ref (ad 129))]) (st' := []) rfl rfl ?_
  unfold f_X3_strips at h
  refine r_aload_n C dX3_strips_0 rfl 0 rfl ?_
  refine r_getl (f := 310) C flX3_109 dX3_strips_1 kq_129 (by decide) rfl ?_
  refine r_aload_n C dX3_strips_4 rfl 0 rfl ?_
  refine r_getl (f := 314) C flX3_132 dX3_strips_5 kq_129 (by decide) rfl ?_
  refine r_ladd C dX3_strips_8 rfl ?_
  show Jr _ _ _ _ _ _ 9 _
  refine r_lconst (v := 1) C dX3_strips_9 (by decide) ?_
  refine r_lsub C dX3_strips_10 rfl ?_
  refine r_aload_n C dX3_strips_11 rfl 0 rfl ?_
  refine r_getl (f := 314) C flX3_132 dX3_strips_12 kq_129 (by decide) rfl ?_
  refine r_lconst (v := 1) C dX3_strips_15 (by decide) ?_
  refine r_callSJ C M h [.long (gJ T 314 129), .long 1] [.long (((gJ T 310 129) + (gJ T 314 129)) - 1)] mlX3_159 mcJ9_max_f86c9 (fun q9 e9 => s_J9_max_f86c9 (gJ T 314 129) 1  e9) (by decide) (by decide) rfl rfl (Nat.le_of_ble_eq_true rfl) dX3_strips_16 (fun v1 T2 h => ?_)
  show Jr _ _ _ _ _ _ 19 _
  refine r_gd h (fun hz3 h => ?_)
  refine r_ldiv C dX3_strips_19 hz3 rfl ?_
  exact r_lret C M dX3_strips_20 h
theorem dX3_isList_0 : decode cX3_isList 0 = .ok (.aload_n 0, 1) := by decide +kernel
theorem dX3_isList_1 : decode cX3_isList 1 = .ok (.lload_n 1, 1) := by decide +kernel
theorem dX3_isList_2 : decode cX3_isList 2 = .ok (.ldc2_w 84, 3) := by decide +kernel
theorem dX3_isList_5 : decode cX3_isList 5 = .ok (.ladd, 1) := by decide +kernel
theorem dX3_isList_6 : decode cX3_isList 6 = .ok (.iconst 2, 1) := by decide +kernel
theorem dX3_isList_7 : decode cX3_isList 7 = .ok (.invokevirtual 58, 3) := by decide +kernel
theorem dX3_isList_10 : decode cX3_isList 10 = .ok (.lstore_n 3, 1) := by decide +kernel
theorem dX3_isList_11 : decode cX3_isList 11 = .ok (.aload_n 0, 1) := by decide +kernel
theorem dX3_isList_12 : decode cX3_isList 12 = .ok (.lload_n 1, 1) := by decide +kernel
theorem dX3_isList_13 : decode cX3_isList 13 = .ok (.ldc2_w 56, 3) := by decide +kernel
theorem dX3_isList_16 : decode cX3_isList 16 = .ok (.ladd, 1) := by decide +kernel
theorem dX3_isList_17 : decode cX3_isList 17 = .ok (.iconst 4, 1) := by decide +kernel
theorem dX3_isList_18 : decode cX3_isList 18 = .ok (.invokevirtual 58, 3) := by decide +kernel
theorem dX3_isList_21 : decode cX3_isList 21 = .ok (.lstore 5, 2) := by decide +kernel
theorem dX3_isList_23 : decode cX3_isList 23 = .ok (.lload_n 3, 1) := by decide +kernel
theorem dX3_isList_24 : decode cX3_isList 24 = .ok (.ldc2_w 162, 3) := by decide +kernel
theorem dX3_isList_27 : decode cX3_isList 27 = .ok (.lcmp, 1) := by decide +kernel
theorem dX3_isList_28 : decode cX3_isList 28 = .ok (.ifCond .eq 11, 3) := by decide +kernel
theorem dX3_isList_31 : decode cX3_isList 31 = .ok (.lload_n 3, 1) := by decide +kernel
theorem dX3_isList_32 : decode cX3_isList 32 = .ok (.ldc2_w 56, 3) := by decide +kernel
theorem dX3_isList_35 : decode cX3_isList 35 = .ok (.lcmp, 1) := by decide +kernel
theorem dX3_isList_36 : decode cX3_isList 36 = .ok (.ifCond .ne 22, 3) := by decide +kernel
theorem dX3_isList_39 : decode cX3_isList 39 = .ok (.lload 5, 2) := by decide +kernel
theorem dX3_isList_41 : decode cX3_isList 41 = .ok (.aload_n 0, 1) := by decide +kernel
theorem dX3_isList_42 : decode cX3_isList 42 = .ok (.invokevirtual 164, 3) := by decide +kernel
theorem dX3_isList_45 : decode cX3_isList 45 = .ok (.lcmp, 1) := by decide +kernel
theorem dX3_isList_46 : decode cX3_isList 46 = .ok (.ifCond .ne 12, 3) := by decide +kernel
theorem dX3_isList_49 : decode cX3_isList 49 = .ok (.lload 5, 2) := by decide +kernel
theorem dX3_isList_51 : decode cX3_isList 51 = .ok (.ldc2_w 168, 3) := by decide +kernel
theorem dX3_isList_54 : decode cX3_isList 54 = .ok (.lcmp, 1) := by decide +kernel
theorem dX3_isList_55 : decode cX3_isList 55 = .ok (.ifCond .le 5, 3) := by decide +kernel
theorem dX3_isList_58 : decode cX3_isList 58 = .ok (.iconst 0, 1) := by decide +kernel
theorem dX3_isList_59 : decode cX3_isList 59 = .ok (.ireturn, 1) := by decide +kernel
theorem dX3_isList_60 : decode cX3_isList 60 = .ok (.lload 5, 2) := by decide +kernel
theorem dX3_isList_62 : decode cX3_isList 62 = .ok (.lload_n 3, 1) := by decide +kernel
theorem dX3_isList_63 : decode cX3_isList 63 = .ok (.ldc2_w 162, 3) := by decide +kernel
theorem dX3_isList_66 : decode cX3_isList 66 = .ok (.lcmp, 1) := by decide +kernel
theorem dX3_isList_67 : decode cX3_isList 67 = .ok (.ifCond .ne 7, 3) := by decide +kernel
theorem dX3_isList_70 : decode cX3_isList 70 = .ok (.iconst 2, 1) := by decide +kernel
theorem dX3_isList_71 : decode cX3_isList 71 = .ok (.goto 4, 3) := by decide +kernel
theorem dX3_isList_74 : decode cX3_isList 74 = .ok (.iconst 4, 1) := by decide +kernel
theorem dX3_isList_75 : decode cX3_isList 75 = .ok (.i2l, 1) := by decide +kernel
theorem dX3_isList_76 : decode cX3_isList 76 = .ok (.lmul, 1) := by decide +kernel
theorem dX3_isList_77 : decode cX3_isList 77 = .ok (.lstore 7, 2) := by decide +kernel
theorem dX3_isList_79 : decode cX3_isList 79 = .ok (.lload 7, 2) := by decide +kernel
theorem dX3_isList_81 : decode cX3_isList 81 = .ok (.ldc2_w 56, 3) := by decide +kernel
theorem dX3_isList_84 : decode cX3_isList 84 = .ok (.lcmp, 1) := by decide +kernel
theorem dX3_isList_85 : decode cX3_isList 85 = .ok (.ifCond .le 25, 3) := by decide +kernel
theorem dX3_isList_88 : decode cX3_isList 88 = .ok (.aload_n 0, 1) := by decide +kernel
theorem dX3_isList_89 : decode cX3_isList 89 = .ok (.lload_n 1, 1) := by decide +kernel
theorem dX3_isList_90 : decode cX3_isList 90 = .ok (.ldc2_w 145, 3) := by decide +kernel
theorem dX3_isList_93 : decode cX3_isList 93 = .ok (.ladd, 1) := by decide +kernel
theorem dX3_isList_94 : decode cX3_isList 94 = .ok (.iconst 4, 1) := by decide +kernel
theorem dX3_isList_95 : decode cX3_isList 95 = .ok (.invokevirtual 58, 3) := by decide +kernel
theorem dX3_isList_98 : decode cX3_isList 98 = .ok (.lload 7, 2) := by decide +kernel
theorem dX3_isList_100 : decode cX3_isList 100 = .ok (.ladd, 1) := by decide +kernel
theorem dX3_isList_101 : decode cX3_isList 101 = .ok (.aload_n 0, 1) := by decide +kernel
theorem dX3_isList_102 : decode cX3_isList 102 = .ok (.getfield 41, 3) := by decide +kernel
theorem dX3_isList_105 : decode cX3_isList 105 = .ok (.i2l, 1) := by decide +kernel
theorem dX3_isList_106 : decode cX3_isList 106 = .ok (.lcmp, 1) := by decide +kernel
theorem dX3_isList_107 : decode cX3_isList 107 = .ok (.ifCond .gt 7, 3) := by decide +kernel
theorem dX3_isList_110 : decode cX3_isList 110 = .ok (.iconst 1, 1) := by decide +kernel
theorem dX3_isList_111 : decode cX3_isList 111 = .ok (.goto 4, 3) := by decide +kernel
theorem dX3_isList_114 : decode cX3_isList 114 = .ok (.iconst 0, 1) := by decide +kernel
theorem dX3_isList_115 : decode cX3_isList 115 = .ok (.ireturn, 1) := by decide +kernel
noncomputable def f_X3_isList_75 (a1 : Int64) (b0 : Int32) (b1 : Int64) (T : Mm) : Option (Int32 × Mm) :=
  lb ((b1 * ((b0).toInt64))) fun v1 =>
  if (lg_cmp v1 4) ≤ 0 then (some (1, T))
  else (bd (f_X3_number (a1 + 8) 4 T) fun v2 T3 =>
  if 0 < (lg_cmp (v2 + v1) (((gI T3 303 129)).toInt64)) then (some (0, T3))
  else (some (1, T3)))
set_option maxRecDepth 100000 in
set_option maxHeartbeats 4000000 in
theorem s_X3_isList_75 {x : JX} {ad : Nat → Nat} {U : Mm} {S0 : Hp} {q : Int32 × Mm}  (hn9 : x_n x = 9) (C : CB x RX3 cX3_isList) (M : CMr x 3 (some .boolean) S0 ad true U eI q) (a1 : Int64) (b0 : Int32) (b1 : Int64) (T : Mm) (h : f_X3_isList_75  a1 b0 b1 T = some q) : Jr x ad true U T [(0, .ref (ad 129)), (1, .long a1)] 75 [.int b0, .long b1] := by
  unfold f_X3_isList_75 at h
  refine r_i2l C dX3_isList_75 rfl ?_
  refine r_lmul C dX3_isList_76 rfl ?_
  refine r_lbJ h (fun v1 h => ?_)
  refine r_lstore (lv' := [(7, .long v1), (0, .ref (ad 129)), (1, .long a1)]) C dX3_isList_77 (by rw [hn9]; decide) rfl ?_
  refine r_lload C dX3_isList_79 0 rfl ?_
  refine r_ldc2 (v := 4) C dX3_isList_81 kcX3_56 ?_
  show Jr _ _ _ _ _ _ 84 _
  refine r_lcmp C dX3_isList_84 ?_
  refine r_if_le (tgt := 110) C dX3_isList_85 (by decide) h (fun h => ?_) (fun h => ?_)
  · refine r_iconst (v := 1) C dX3_isList_110 (by decide) ?_
    refine r_goto (tgt := 115) C dX3_isList_111 (by decide) ?_
    exact r_zret C M dX3_isList_115 (by decide) h
  · refine r_aload_n C dX3_isList_88 rfl 1 rfl ?_
    refine r_lload_n C dX3_isList_89 rfl 2 rfl ?_
    refine r_ldc2 (v := 8) C dX3_isList_90 kcX3_145 ?_
    refine r_ladd C dX3_isList_93 rfl ?_
    refine r_iconst (v := 4) C dX3_isList_94 (by decide) ?_
    show Jr _ _ _ _ _ _ 95 _
    refine r_callVJ C M h [.long (a1 + 8), .int 4] [] mlX3_58 mcX3_number (fun q9 e9 => s_X3_number (a1 + 8) 4  e9) kq_129 rfl (by decide) (by decide) rfl rfl (Nat.le_of_ble_eq_true rfl) dX3_isList_95 (fun v2 T3 h => ?_)
    refine r_lload C dX3_isList_98 0 rfl ?_
    refine r_ladd C dX3_isList_100 rfl ?_
    refine r_aload_n C dX3_isList_101 rfl 1 rfl ?_
    refine r_geti (f := 303) C flX3_41 dX3_isList_102 kq_129 (by decide) (by decide) rfl ?_
    refine r_i2l C dX3_isList_105 rfl ?_
    show Jr _ _ _ _ _ _ 106 _
    refine r_lcmp C dX3_isList_106 ?_
    refine r_if_gt (tgt := 114) C dX3_isList_107 (by decide) h (fun h => ?_) (fun h => ?_)
    · refine r_iconst (v := 0) C dX3_isList_114 (by decide) ?_
      exact r_zret C M dX3_isList_115 (by decide) h
    · refine r_iconst (v := 1) C dX3_isList_110 (by decide) ?_
      refine r_goto (tgt := 115) C dX3_isList_111 (by decide) ?_
      exact r_zret C M dX3_isList_115 (by decide) h
noncomputable def f_X3_isList_39 (a1 : Int64) (a3 : Int64) (a5 : Int64) (T : Mm) : Option (Int32 × Mm) :=
  bd (f_X3_strips T) fun v1 T2 =>
  if (lg_cmp a5 v1) = 0 then (if (lg_cmp a5 40) ≤ 0 then (if (lg_cmp a3 3) = 0 then (f_X3_isList_75 a1 2 a5 T2)
  else (f_X3_isList_75 a1 4 a5 T2))
  else (some (0, T2)))
  else (some (0, T2))
set_option maxRecDepth 100000 in
set_option maxHeartbeats 4000000 in
theorem s_X3_isList_39 {x : JX} {ad : Nat → Nat} {U : Mm} {S0 : Hp} {q : Int32 × Mm}  (hn9 : x_n x = 9) (C : CB x RX3 cX3_isList) (M : CMr x 3 (some .boolean) S0 ad true U eI q) (a1 : Int64) (a3 : Int64) (a5 : Int64) (T : Mm) (h : f_X3_isList_39  a1 a3 a5 T = some q) : Jr x ad true U T [(0, .ref (ad 129)), (1, .long a1), (3, .long a3), (5, .long a5)] 39 [] := by
  unfold f_X3_isList_39 at h
  refine r_lload C dX3_isList_39 3 rfl ?_
  refine r_aload_n C dX3_isList_41 rfl 0 rfl ?_
  refine r_callVJ C M h [] [.long a5] mlX3_164 mcX3_strips (fun q9 e9 => s_X3_strips   e9) kq_129 rfl (by decide) (by decide) rfl rfl (Nat.le_of_ble_eq_true rfl) dX3_isList_42 (fun v1 T2 h => ?_)
  refine r_lcmp C dX3_isList_45 ?_
  refine r_if_ne (tgt := 58) C dX3_isList_46 (by decide) h (fun h => ?_) (fun h => ?_)
  · refine r_iconst (v := 0) C dX3_isList_58 (by decide) ?_
    exact r_zret C M dX3_isList_59 (by decide) h
  · refine r_lload C dX3_isList_49 3 rfl ?_
    refine r_ldc2 (v := 40) C dX3_isList_51 kcX3_168 ?_
    refine r_lcmp C dX3_isList_54 ?_
    refine r_if_le (tgt := 60) C dX3_isList_55 (by decide) h (fun h => ?_) (fun h => ?_)
    · refine r_lload C dX3_isList_60 3 rfl ?_
      refine r_lload_n C dX3_isList_62 rfl 2 rfl ?_
      refine r_ldc2 (v := 3) C dX3_isList_63 kcX3_162 ?_
      refine r_lcmp C dX3_isList_66 ?_
      refine r_if_ne (tgt := 74) C dX3_isList_67 (by decide) h (fun h => ?_) (fun h => ?_)
      · refine r_iconst (v := 4) C dX3_isList_74 (by decide) ?_
        refine Jr.sub [0, 1] (lv' := [(0, .ref (ad 129)), (1, .long a1)]) rfl ?_
        exact s_X3_isList_75 hn9 C M  a1 4 a5 T2 h
      · refine r_iconst (v := 2) C dX3_isList_70 (by decide) ?_
        refine r_goto (tgt := 75) C dX3_isList_71 (by decide) ?_
        refine Jr.sub [0, 1] (lv' := [(0, .ref (ad 129)), (1, .long a1)]) rfl ?_
        exact s_X3_isList_75 hn9 C M  a1 2 a5 T2 h
    · refine r_iconst (v := 0) C dX3_isList_58 (by decide) ?_
      exact r_zret C M dX3_isList_59 (by decide) h
noncomputable def f_X3_isList (p1 : Int64) (T : Mm) : Option (Int32 × Mm) :=
  bd (f_X3_number (p1 + 2) 2 T) fun v1 T2 =>
  bd (f_X3_number (p1 + 4) 4 T2) fun v3 T4 =>
  if (lg_cmp v1 3) = 0 then (f_X3_isList_39 p1 v1 v3 T4)
  else (if (lg_cmp v1 4) = 0 then (f_X3_isList_39 p1 v1 v3 T4)
  else (some (0, T4)))
set_option maxRecDepth 100000 in
set_option maxHeartbeats 4000000 in
theorem s_X3_isList {ad : Nat → Nat} {U T : Mm} {q : Int32 × Mm}  (p1 : Int64) (h : f_X3_isList p1 T = some q) : Cr 3 yX3_isList cX3_isList 9 (some .boolean) [.ref (ad 129), .long p1] ad true U T eI q := by
  refine cr_of (by decide) (Nat.le_of_ble_eq_true rfl) fun x S0 hn9 C M => ?_
  have C : CB x RX3 cX3_isList := C
  refine Jr.eq (lv' := [(0, .ref (ad 129)), (1, .long p1)]) (st' := []) rfl rfl ?_
  unfold f_X3_isList at h
  refine r_aload_n C dX3_isList_0 rfl 0 rfl ?_
  refine r_lload_n C dX3_isList_1 rfl 1 rfl ?_
  refine r_ldc2 (v := 2) C dX3_isList_2 kcX3_84 ?_
  refine r_ladd C dX3_isList_5 rfl ?_
  refine r_iconst (v := 2) C dX3_isList_6 (by decide) ?_
  show Jr _ _ _ _ _ _ 7 _
  refine r_callVJ C M h [.long (p1 + 2), .int 2] [] mlX3_58 mcX3_number (fun q9 e9 => s_X3_number (p1 + 2) 2  e9) kq_129 rfl (by decide) (by decide) rfl rfl (Nat.le_of_ble_eq_true rfl) dX3_isList_7 (fun v1 T2 h => ?_)
  refine r_lstore_n (lv' := [(3, .long v1), (0, .ref (ad 129)), (1, .long p1)]) C dX3_isList_10 rfl (by rw [hn9]; decide) rfl ?_
  refine r_aload_n C dX3_isList_11 rfl 1 rfl ?_
  refine r_lload_n C dX3_isList_12 rfl 2 rfl ?_
  refine r_ldc2 (v := 4) C dX3_isList_13 kcX3_56 ?_
  refine r_ladd C dX3_isList_16 rfl ?_
  show Jr _ _ _ _ _ _ 17 _
  refine r_iconst (v := 4) C dX3_isList_17 (by decide) ?_
  refine r_callVJ C M h [.long (p1 + 4), .int 4] [] mlX3_58 mcX3_number (fun q9 e9 => s_X3_number (p1 + 4) 4  e9) kq_129 rfl (by decide) (by decide) rfl rfl (Nat.le_of_ble_eq_true rfl) dX3_isList_18 (fun v3 T4 h => ?_)
  refine r_lstore (lv' := [(5, .long v3), (3, .long v1), (0, .ref (ad 129)), (1, .long p1)]) C dX3_isList_21 (by rw [hn9]; decide) rfl ?_
  refine r_lload_n C dX3_isList_23 rfl 1 rfl ?_
  refine r_ldc2 (v := 3) C dX3_isList_24 kcX3_162 ?_
  refine r_lcmp C dX3_isList_27 ?_
  show Jr _ _ _ _ _ _ 28 _
  refine r_if_eq (tgt := 39) C dX3_isList_28 (by decide) h (fun h => ?_) (fun h => ?_)
  · refine Jr.sub [2, 3, 1, 0] (lv' := [(0, .ref (ad 129)), (1, .long p1), (3, .long v1), (5, .long v3)]) rfl ?_
    exact s_X3_isList_39 hn9 C M  p1 v1 v3 T4 h
  · refine r_lload_n C dX3_isList_31 rfl 1 rfl ?_
    refine r_ldc2 (v := 4) C dX3_isList_32 kcX3_56 ?_
    refine r_lcmp C dX3_isList_35 ?_
    refine r_if_ne (tgt := 58) C dX3_isList_36 (by decide) h (fun h => ?_) (fun h => ?_)
    · refine r_iconst (v := 0) C dX3_isList_58 (by decide) ?_
      exact r_zret C M dX3_isList_59 (by decide) h
    · refine Jr.sub [2, 3, 1, 0] (lv' := [(0, .ref (ad 129)), (1, .long p1), (3, .long v1), (5, .long v3)]) rfl ?_
      exact s_X3_isList_39 hn9 C M  p1 v1 v3 T4 h
theorem dX3_checkEntries_0 : decode cX3_checkEntries 0 = .ok (.aload_n 0, 1) := by decide +kernel
theorem dX3_checkEntries_1 : decode cX3_checkEntries 1 = .ok (.getfield 105, 3) := by decide +kernel
theorem dX3_checkEntries_4 : decode cX3_checkEntries 4 = .ok (.ldc2_w 121, 3) := by decide +kernel
theorem dX3_checkEntries_7 : decode cX3_checkEntries 7 = .ok (.lcmp, 1) := by decide +kernel
theorem dX3_checkEntries_8 : decode cX3_checkEntries 8 = .ok (.ifCond .eq 58, 3) := by decide +kernel
theorem dX3_checkEntries_11 : decode cX3_checkEntries 11 = .ok (.aload_n 0, 1) := by decide +kernel
theorem dX3_checkEntries_12 : decode cX3_checkEntries 12 = .ok (.getfield 109, 3) := by decide +kernel
theorem dX3_checkEntries_15 : decode cX3_checkEntries 15 = .ok (.ldc2_w 121, 3) := by decide +kernel
theorem dX3_checkEntries_18 : decode cX3_checkEntries 18 = .ok (.lcmp, 1) := by decide +kernel
theorem dX3_checkEntries_19 : decode cX3_checkEntries 19 = .ok (.ifCond .eq 47, 3) := by decide +kernel
theorem dX3_checkEntries_22 : decode cX3_checkEntries 22 = .ok (.aload_n 0, 1) := by decide +kernel
theorem dX3_checkEntries_23 : decode cX3_checkEntries 23 = .ok (.getfield 123, 3) := by decide +kernel
theorem dX3_checkEntries_26 : decode cX3_checkEntries 26 = .ok (.ldc2_w 121, 3) := by decide +kernel
theorem dX3_checkEntries_29 : decode cX3_checkEntries 29 = .ok (.lcmp, 1) := by decide +kernel
theorem dX3_checkEntries_30 : decode cX3_checkEntries 30 = .ok (.ifCond .eq 36, 3) := by decide +kernel
theorem dX3_checkEntries_33 : decode cX3_checkEntries 33 = .ok (.aload_n 0, 1) := by decide +kernel
theorem dX3_checkEntries_34 : decode cX3_checkEntries 34 = .ok (.getfield 126, 3) := by decide +kernel
theorem dX3_checkEntries_37 : decode cX3_checkEntries 37 = .ok (.ldc2_w 121, 3) := by decide +kernel
theorem dX3_checkEntries_40 : decode cX3_checkEntries 40 = .ok (.lcmp, 1) := by decide +kernel
theorem dX3_checkEntries_41 : decode cX3_checkEntries 41 = .ok (.ifCond .eq 25, 3) := by decide +kernel
theorem dX3_checkEntries_44 : decode cX3_checkEntries 44 = .ok (.aload_n 0, 1) := by decide +kernel
theorem dX3_checkEntries_45 : decode cX3_checkEntries 45 = .ok (.getfield 135, 3) := by decide +kernel
theorem dX3_checkEntries_48 : decode cX3_checkEntries 48 = .ok (.ldc2_w 121, 3) := by decide +kernel
theorem dX3_checkEntries_51 : decode cX3_checkEntries 51 = .ok (.lcmp, 1) := by decide +kernel
theorem dX3_checkEntries_52 : decode cX3_checkEntries 52 = .ok (.ifCond .eq 14, 3) := by decide +kernel
theorem dX3_checkEntries_55 : decode cX3_checkEntries 55 = .ok (.aload_n 0, 1) := by decide +kernel
theorem dX3_checkEntries_56 : decode cX3_checkEntries 56 = .ok (.getfield 138, 3) := by decide +kernel
theorem dX3_checkEntries_59 : decode cX3_checkEntries 59 = .ok (.ldc2_w 121, 3) := by decide +kernel
theorem dX3_checkEntries_62 : decode cX3_checkEntries 62 = .ok (.lcmp, 1) := by decide +kernel
theorem dX3_checkEntries_63 : decode cX3_checkEntries 63 = .ok (.ifCond .ne 9, 3) := by decide +kernel
theorem dX3_checkEntries_66 : decode cX3_checkEntries 66 = .ok (.aload_n 0, 1) := by decide +kernel
theorem dX3_checkEntries_67 : decode cX3_checkEntries 67 = .ok (.iconst 4, 1) := by decide +kernel
theorem dX3_checkEntries_68 : decode cX3_checkEntries 68 = .ok (.lload_n 1, 1) := by decide +kernel
theorem dX3_checkEntries_69 : decode cX3_checkEntries 69 = .ok (.invokevirtual 80, 3) := by decide +kernel
theorem dX3_checkEntries_72 : decode cX3_checkEntries 72 = .ok (.aload_n 0, 1) := by decide +kernel
theorem dX3_checkEntries_73 : decode cX3_checkEntries 73 = .ok (.getfield 44, 3) := by decide +kernel
theorem dX3_checkEntries_76 : decode cX3_checkEntries 76 = .ok (.ifCond .eq 4, 3) := by decide +kernel
theorem dX3_checkEntries_79 : decode cX3_checkEntries 79 = .ok (.return_, 1) := by decide +kernel
theorem dX3_checkEntries_80 : decode cX3_checkEntries 80 = .ok (.aload_n 0, 1) := by decide +kernel
theorem dX3_checkEntries_81 : decode cX3_checkEntries 81 = .ok (.aload_n 0, 1) := by decide +kernel
theorem dX3_checkEntries_82 : decode cX3_checkEntries 82 = .ok (.getfield 132, 3) := by decide +kernel
theorem dX3_checkEntries_85 : decode cX3_checkEntries 85 = .ok (.ldc2_w 121, 3) := by decide +kernel
theorem dX3_checkEntries_88 : decode cX3_checkEntries 88 = .ok (.lcmp, 1) := by decide +kernel
theorem dX3_checkEntries_89 : decode cX3_checkEntries 89 = .ok (.ifCond .ne 10, 3) := by decide +kernel
theorem dX3_checkEntries_92 : decode cX3_checkEntries 92 = .ok (.aload_n 0, 1) := by decide +kernel
theorem dX3_checkEntries_93 : decode cX3_checkEntries 93 = .ok (.getfield 109, 3) := by decide +kernel
theorem dX3_checkEntries_96 : decode cX3_checkEntries 96 = .ok (.goto 14, 3) := by decide +kernel
theorem dX3_checkEntries_99 : decode cX3_checkEntries 99 = .ok (.aload_n 0, 1) := by decide +kernel
theorem dX3_checkEntries_100 : decode cX3_checkEntries 100 = .ok (.getfield 132, 3) := by decide +kernel
theorem dX3_checkEntries_103 : decode cX3_checkEntries 103 = .ok (.aload_n 0, 1) := by decide +kernel
theorem dX3_checkEntries_104 : decode cX3_checkEntries 104 = .ok (.getfield 109, 3) := by decide +kernel
theorem dX3_checkEntries_107 : decode cX3_checkEntries 107 = .ok (.invokestatic 66, 3) := by decide +kernel
theorem dX3_checkEntries_110 : decode cX3_checkEntries 110 = .ok (.putfield 132, 3) := by decide +kernel
theorem dX3_checkEntries_113 : decode cX3_checkEntries 113 = .ok (.aload_n 0, 1) := by decide +kernel
theorem dX3_checkEntries_114 : decode cX3_checkEntries 114 = .ok (.aload_n 0, 1) := by decide +kernel
theorem dX3_checkEntries_115 : decode cX3_checkEntries 115 = .ok (.getfield 135, 3) := by decide +kernel
theorem dX3_checkEntries_118 : decode cX3_checkEntries 118 = .ok (.invokevirtual 155, 3) := by decide +kernel
theorem dX3_checkEntries_121 : decode cX3_checkEntries 121 = .ok (.ifCond .ne 12, 3) := by decide +kernel
theorem dX3_checkEntries_124 : decode cX3_checkEntries 124 = .ok (.aload_n 0, 1) := by decide +kernel
theorem dX3_checkEntries_125 : decode cX3_checkEntries 125 = .ok (.iconst 4, 1) := by decide +kernel
theorem dX3_checkEntries_126 : decode cX3_checkEntries 126 = .ok (.aload_n 0, 1) := by decide +kernel
theorem dX3_checkEntries_127 : decode cX3_checkEntries 127 = .ok (.getfield 135, 3) := by decide +kernel
theorem dX3_checkEntries_130 : decode cX3_checkEntries 130 = .ok (.invokevirtual 80, 3) := by decide +kernel
theorem dX3_checkEntries_133 : decode cX3_checkEntries 133 = .ok (.aload_n 0, 1) := by decide +kernel
theorem dX3_checkEntries_134 : decode cX3_checkEntries 134 = .ok (.aload_n 0, 1) := by decide +kernel
theorem dX3_checkEntries_135 : decode cX3_checkEntries 135 = .ok (.getfield 138, 3) := by decide +kernel
theorem dX3_checkEntries_138 : decode cX3_checkEntries 138 = .ok (.invokevirtual 155, 3) := by decide +kernel
theorem dX3_checkEntries_141 : decode cX3_checkEntries 141 = .ok (.ifCond .ne 12, 3) := by decide +kernel
theorem dX3_checkEntries_144 : decode cX3_checkEntries 144 = .ok (.aload_n 0, 1) := by decide +kernel
theorem dX3_checkEntries_145 : decode cX3_checkEntries 145 = .ok (.iconst 4, 1) := by decide +kernel
theorem dX3_checkEntries_146 : decode cX3_checkEntries 146 = .ok (.aload_n 0, 1) := by decide +kernel
theorem dX3_checkEntries_147 : decode cX3_checkEntries 147 = .ok (.getfield 138, 3) := by decide +kernel
theorem dX3_checkEntries_150 : decode cX3_checkEntries 150 = .ok (.invokevirtual 80, 3) := by decide +kernel
theorem dX3_checkEntries_153 : decode cX3_checkEntries 153 = .ok (.return_, 1) := by decide +kernel
noncomputable def f_X3_checkEntries_133 (T : Mm) : Option (Unit × Mm) :=
  bd (f_X3_isList (gJ T 316 129) T) fun v1 T2 =>
  if v1 = 0 then (bd (f_X3_fail 4 (gJ T2 316 129) T2) fun _ T3 =>
  some ((), T3))
  else (some ((), T2))
set_option maxRecDepth 100000 in
set_option maxHeartbeats 4000000 in
theorem s_X3_checkEntries_133 {x : JX} {ad : Nat → Nat} {U : Mm} {S0 : Hp} {q : Unit × Mm}  (hn9 : x_n x = 3) (C : CB x RX3 cX3_checkEntries) (M : CMr x 4 none S0 ad true U eV q) (T : Mm) (h : f_X3_checkEntries_133   T = some q) : Jr x ad true U T [(0, .ref (ad 129))] 133 [] := by
  unfold f_X3_checkEntries_133 at h
  refine r_aload_n C dX3_checkEntries_133 rfl 0 rfl ?_
  refine r_aload_n C dX3_checkEntries_134 rfl 0 rfl ?_
  refine r_getl (f := 316) C flX3_138 dX3_checkEntries_135 kq_129 (by decide) rfl ?_
  refine r_callVI C M h [.long (gJ T 316 129)] [] mlX3_155 mcX3_isList (fun q9 e9 => s_X3_isList (gJ T 316 129)  e9) kq_129 rfl (by decide) (by decide) rfl rfl (Nat.le_of_ble_eq_true rfl) dX3_checkEntries_138 (fun v1 T2 h => ?_)
  refine r_if_ne (tgt := 153) C dX3_checkEntries_141 (by decide) h (fun h => ?_) (fun h => ?_)
  · exact r_vret C M dX3_checkEntries_153 h
  · refine r_aload_n C dX3_checkEntries_144 rfl 0 rfl ?_
    refine r_iconst (v := 4) C dX3_checkEntries_145 (by decide) ?_
    refine r_aload_n C dX3_checkEntries_146 rfl 0 rfl ?_
    refine r_getl (f := 316) C flX3_138 dX3_checkEntries_147 kq_129 (by decide) rfl ?_
    refine r_callVN C M h [.int 4, .long (gJ T2 316 129)] [] mlX3_80 mcX3_fail (fun q9 e9 => s_X3_fail 4 (gJ T2 316 129)  e9) kq_129 rfl (by decide) (by decide) rfl rfl (Nat.le_of_ble_eq_true rfl) dX3_checkEntries_150 (fun _ T3 h => ?_)
    show Jr _ _ _ _ _ _ 153 _
    exact r_vret C M dX3_checkEntries_153 h
noncomputable def f_X3_checkEntries_110 (b0 : Int64) (T : Mm) : Option (Unit × Mm) :=
  lb (uJ T 314 129 b0) fun T1 =>
  bd (f_X3_isList (gJ T1 315 129) T1) fun v2 T3 =>
  if v2 = 0 then (bd (f_X3_fail 4 (gJ T3 315 129) T3) fun _ T4 =>
  f_X3_checkEntries_133 T4)
  else (f_X3_checkEntries_133 T3)
set_option maxRecDepth 100000 in
set_option maxHeartbeats 4000000 in
theorem s_X3_checkEntries_110 {x : JX} {ad : Nat → Nat} {U : Mm} {S0 : Hp} {q : Unit × Mm}  (hn9 : x_n x = 3) (C : CB x RX3 cX3_checkEntries) (M : CMr x 4 none S0 ad true U eV q) (b0 : Int64) (T : Mm) (h : f_X3_checkEntries_110  b0 T = some q) : Jr x ad true U T [(0, .ref (ad 129))] 110 [.long b0, .ref (ad 129)] := by
  unfold f_X3_checkEntries_110 at h
  refine r_putl (f := 314) C flX3_132 (by decide) rfl rfl dX3_checkEntries_110 kq_129 rfl h (fun T1 h => ?_)
  refine r_aload_n C dX3_checkEntries_113 rfl 0 rfl ?_
  refine r_aload_n C dX3_checkEntries_114 rfl 0 rfl ?_
  refine r_getl (f := 315) C flX3_135 dX3_checkEntries_115 kq_129 (by decide) rfl ?_
  refine r_callVI C M h [.long (gJ T1 315 129)] [] mlX3_155 mcX3_isList (fun q9 e9 => s_X3_isList (gJ T1 315 129)  e9) kq_129 rfl (by decide) (by decide) rfl rfl (Nat.le_of_ble_eq_true rfl) dX3_checkEntries_118 (fun v2 T3 h => ?_)
  show Jr _ _ _ _ _ _ 121 _
  refine r_if_ne (tgt := 133) C dX3_checkEntries_121 (by decide) h (fun h => ?_) (fun h => ?_)
  · exact s_X3_checkEntries_133 hn9 C M  T3 h
  · refine r_aload_n C dX3_checkEntries_124 rfl 0 rfl ?_
    refine r_iconst (v := 4) C dX3_checkEntries_125 (by decide) ?_
    refine r_aload_n C dX3_checkEntries_126 rfl 0 rfl ?_
    refine r_getl (f := 315) C flX3_135 dX3_checkEntries_127 kq_129 (by decide) rfl ?_
    refine r_callVN C M h [.int 4, .long (gJ T3 315 129)] [] mlX3_80 mcX3_fail (fun q9 e9 => s_X3_fail 4 (gJ T3 315 129)  e9) kq_129 rfl (by decide) (by decide) rfl rfl (Nat.le_of_ble_eq_true rfl) dX3_checkEntries_130 (fun _ T4 h => ?_)
    exact s_X3_checkEntries_133 hn9 C M  T4 h
noncomputable def f_X3_checkEntries_72 (T : Mm) : Option (Unit × Mm) :=
  if (gI T 304 129) = 0 then (if (lg_cmp (gJ T 314 129) (-1)) = 0 then (f_X3_checkEntries_110 (gJ T 310 129) T)
  else (bd (f_J9_min_f86c9 (gJ T 314 129) (gJ T 310 129) T) fun v1 T2 =>
  f_X3_checkEntries_110 v1 T2))
  else (some ((), T))
set_option maxRecDepth 100000 in
set_option maxHeartbeats 4000000 in
theorem s_X3_checkEntries_72 {x : JX} {ad : Nat → Nat} {U : Mm} {S0 : Hp} {q : Unit × Mm}  (hn9 : x_n x = 3) (C : CB x RX3 cX3_checkEntries) (M : CMr x 4 none S0 ad true U eV q) (T : Mm) (h : f_X3_checkEntries_72   T = some q) : Jr x ad true U T [(0, .ref (ad 129))] 72 [] := by
  unfold f_X3_checkEntries_72 at h
  refine r_aload_n C dX3_checkEntries_72 rfl 0 rfl ?_
  refine r_geti (f := 304) C flX3_44 dX3_checkEntries_73 kq_129 (by decide) (by decide) rfl ?_
  refine r_if_eq (tgt := 80) C dX3_checkEntries_76 (by decide) h (fun h => ?_) (fun h => ?_)
  · refine r_aload_n C dX3_checkEntries_80 rfl 0 rfl ?_
    refine r_aload_n C dX3_checkEntries_81 rfl 0 rfl ?_
    refine r_getl (f := 314) C flX3_132 dX3_checkEntries_82 kq_129 (by decide) rfl ?_
    refine r_ldc2 (v := (-1)) C dX3_checkEntries_85 kcX3_121 ?_
    refine r_lcmp C dX3_checkEntries_88 ?_
    show Jr _ _ _ _ _ _ 89 _
    refine r_if_ne (tgt := 99) C dX3_checkEntries_89 (by decide) h (fun h => ?_) (fun h => ?_)
    · refine r_aload_n C dX3_checkEntries_99 rfl 0 rfl ?_
      refine r_getl (f := 314) C flX3_132 dX3_checkEntries_100 kq_129 (by decide) rfl ?_
      refine r_aload_n C dX3_checkEntries_103 rfl 0 rfl ?_
      refine r_getl (f := 310) C flX3_109 dX3_checkEntries_104 kq_129 (by decide) rfl ?_
      refine r_callSJ C M h [.long (gJ T 314 129), .long (gJ T 310 129)] [.ref (ad 129)] mlX3_66 mcJ9_min_f86c9 (fun q9 e9 => s_J9_min_f86c9 (gJ T 314 129) (gJ T 310 129)  e9) (by decide) (by decide) rfl rfl (Nat.le_of_ble_eq_true rfl) dX3_checkEntries_107 (fun v1 T2 h => ?_)
      exact s_X3_checkEntries_110 hn9 C M  v1 T2 h
    · refine r_aload_n C dX3_checkEntries_92 rfl 0 rfl ?_
      refine r_getl (f := 310) C flX3_109 dX3_checkEntries_93 kq_129 (by decide) rfl ?_
      refine r_goto (tgt := 110) C dX3_checkEntries_96 (by decide) ?_
      exact s_X3_checkEntries_110 hn9 C M  (gJ T 310 129) T h
  · exact r_vret C M dX3_checkEntries_79 h
noncomputable def f_X3_checkEntries (p1 : Int64) (T : Mm) : Option (Unit × Mm) :=
  if (lg_cmp (gJ T 309 129) (-1)) = 0 then (bd (f_X3_fail 4 p1 T) fun _ T1 =>
  f_X3_checkEntries_72 T1)
  else (if (lg_cmp (gJ T 310 129) (-1)) = 0 then (bd (f_X3_fail 4 p1 T) fun _ T2 =>
  f_X3_checkEntries_72 T2)
  else (if (lg_cmp (gJ T 311 129) (-1)) = 0 then (bd (f_X3_fail 4 p1 T) fun _ T3 =>
  f_X3_checkEntries_72 T3)
  else (if (lg_cmp (gJ T 312 129) (-1)) = 0 then (bd (f_X3_fail 4 p1 T) fun _ T4 =>
  f_X3_checkEntries_72 T4)
  else (if (lg_cmp (gJ T 315 129) (-1)) = 0 then (bd (f_X3_fail 4 p1 T) fun _ T5 =>
  f_X3_checkEntries_72 T5)
  else (if (lg_cmp (gJ T 316 129) (-1)) = 0 then (bd (f_X3_fail 4 p1 T) fun _ T6 =>
  f_X3_checkEntries_72 T6)
  else (f_X3_checkEntries_72 T))))))
set_option maxRecDepth 100000 in
set_option maxHeartbeats 4000000 in
theorem s_X3_checkEntries {ad : Nat → Nat} {U T : Mm} {q : Unit × Mm}  (p1 : Int64) (h : f_X3_checkEntries p1 T = some q) : Cr 4 yX3_checkEntries cX3_checkEntries 3 none [.ref (ad 129), .long p1] ad true U T eV q := by
  refine cr_of (by decide) (Nat.le_of_ble_eq_true rfl) fun x S0 hn9 C M => ?_
  have C : CB x RX3 cX3_checkEntries := C
  refine Jr.eq (lv' := [(0, .ref (ad 129)), (1, .long p1)]) (st' := []) rfl rfl ?_
  unfold f_X3_checkEntries at h
  refine r_aload_n C dX3_checkEntries_0 rfl 0 rfl ?_
  refine r_getl (f := 309) C flX3_105 dX3_checkEntries_1 kq_129 (by decide) rfl ?_
  refine r_ldc2 (v := (-1)) C dX3_checkEntries_4 kcX3_121 ?_
  refine r_lcmp C dX3_checkEntries_7 ?_
  refine r_if_eq (tgt := 66) C dX3_checkEntries_8 (by decide) h (fun h => ?_) (fun h => ?_)
  · refine r_aload_n C dX3_checkEntries_66 rfl 0 rfl ?_
    refine r_iconst (v := 4) C dX3_checkEntries_67 (by decide) ?_
    refine r_lload_n C dX3_checkEntries_68 rfl 1 rfl ?_
    refine r_callVN C M h [.int 4, .long p1] [] mlX3_80 mcX3_fail (fun q9 e9 => s_X3_fail 4 p1  e9) kq_129 rfl (by decide) (by decide) rfl rfl (Nat.le_of_ble_eq_true rfl) dX3_checkEntries_69 (fun _ T1 h => ?_)
    refine Jr.sub [0] (lv' := [(0, .ref (ad 129))]) rfl ?_
    exact s_X3_checkEntries_72 hn9 C M  T1 h
  · refine r_aload_n C dX3_checkEntries_11 rfl 0 rfl ?_
    refine r_getl (f := 310) C flX3_109 dX3_checkEntries_12 kq_129 (by decide) rfl ?_
    refine r_ldc2 (v := (-1)) C dX3_checkEntries_15 kcX3_121 ?_
    refine r_lcmp C dX3_checkEntries_18 ?_
    refine r_if_eq (tgt := 66) C dX3_checkEntries_19 (by decide) h (fun h => ?_) (fun h => ?_)
    · refine r_aload_n C dX3_checkEntries_66 rfl 0 rfl ?_
      refine r_iconst (v := 4) C dX3_checkEntries_67 (by decide) ?_
      refine r_lload_n C dX3_checkEntries_68 rfl 1 rfl ?_
      refine r_callVN C M h [.int 4, .long p1] [] mlX3_80 mcX3_fail (fun q9 e9 => s_X3_fail 4 p1  e9) kq_129 rfl (by decide) (by decide) rfl rfl (Nat.le_of_ble_eq_true rfl) dX3_checkEntries_69 (fun _ T2 h => ?_)
      refine Jr.sub [0] (lv' := [(0, .ref (ad 129))]) rfl ?_
      exact s_X3_checkEntries_72 hn9 C M  T2 h
    · refine r_aload_n C dX3_checkEntries_22 rfl 0 rfl ?_
      refine r_getl (f := 311) C flX3_123 dX3_checkEntries_23 kq_129 (by decide) rfl ?_
      refine r_ldc2 (v := (-1)) C dX3_checkEntries_26 kcX3_121 ?_
      refine r_lcmp C dX3_checkEntries_29 ?_
      refine r_if_eq (tgt := 66) C dX3_checkEntries_30 (by decide) h (fun h => ?_) (fun h => ?_)
      · refine r_aload_n C dX3_checkEntries_66 rfl 0 rfl ?_
        refine r_iconst (v := 4) C dX3_checkEntries_67 (by decide) ?_
        refine r_lload_n C dX3_checkEntries_68 rfl 1 rfl ?_
        refine r_callVN C M h [.int 4, .long p1] [] mlX3_80 mcX3_fail (fun q9 e9 => s_X3_fail 4 p1  e9) kq_129 rfl (by decide) (by decide) rfl rfl (Nat.le_of_ble_eq_true rfl) dX3_checkEntries_69 (fun _ T3 h => ?_)
        refine Jr.sub [0] (lv' := [(0, .ref (ad 129))]) rfl ?_
        exact s_X3_checkEntries_72 hn9 C M  T3 h
      · refine r_aload_n C dX3_checkEntries_33 rfl 0 rfl ?_
        refine r_getl (f := 312) C flX3_126 dX3_checkEntries_34 kq_129 (by decide) rfl ?_
        refine r_ldc2 (v := (-1)) C dX3_checkEntries_37 kcX3_121 ?_
        refine r_lcmp C dX3_checkEntries_40 ?_
        refine r_if_eq (tgt := 66) C dX3_checkEntries_41 (by decide) h (fun h => ?_) (fun h => ?_)
        · refine r_aload_n C dX3_checkEntries_66 rfl 0 rfl ?_
          refine r_iconst (v := 4) C dX3_checkEntries_67 (by decide) ?_
          refine r_lload_n C dX3_checkEntries_68 rfl 1 rfl ?_
          refine r_callVN C M h [.int 4, .long p1] [] mlX3_80 mcX3_fail (fun q9 e9 => s_X3_fail 4 p1  e9) kq_129 rfl (by decide) (by decide) rfl rfl (Nat.le_of_ble_eq_true rfl) dX3_checkEntries_69 (fun _ T4 h => ?_)
          refine Jr.sub [0] (lv' := [(0, .ref (ad 129))]) rfl ?_
          exact s_X3_checkEntries_72 hn9 C M  T4 h
        · refine r_aload_n C dX3_checkEntries_44 rfl 0 rfl ?_
          refine r_getl (f := 315) C flX3_135 dX3_checkEntries_45 kq_129 (by decide) rfl ?_
          refine r_ldc2 (v := (-1)) C dX3_checkEntries_48 kcX3_121 ?_
          refine r_lcmp C dX3_checkEntries_51 ?_
          refine r_if_eq (tgt := 66) C dX3_checkEntries_52 (by decide) h (fun h => ?_) (fun h => ?_)
          · refine r_aload_n C dX3_checkEntries_66 rfl 0 rfl ?_
            refine r_iconst (v := 4) C dX3_checkEntries_67 (by decide) ?_
            refine r_lload_n C dX3_checkEntries_68 rfl 1 rfl ?_
            refine r_callVN C M h [.int 4, .long p1] [] mlX3_80 mcX3_fail (fun q9 e9 => s_X3_fail 4 p1  e9) kq_129 rfl (by decide) (by decide) rfl rfl (Nat.le_of_ble_eq_true rfl) dX3_checkEntries_69 (fun _ T5 h => ?_)
            refine Jr.sub [0] (lv' := [(0, .ref (ad 129))]) rfl ?_
            exact s_X3_checkEntries_72 hn9 C M  T5 h
          · refine r_aload_n C dX3_checkEntries_55 rfl 0 rfl ?_
            refine r_getl (f := 316) C flX3_138 dX3_checkEntries_56 kq_129 (by decide) rfl ?_
            refine r_ldc2 (v := (-1)) C dX3_checkEntries_59 kcX3_121 ?_
            refine r_lcmp C dX3_checkEntries_62 ?_
            refine r_if_ne (tgt := 72) C dX3_checkEntries_63 (by decide) h (fun h => ?_) (fun h => ?_)
            · refine Jr.sub [0] (lv' := [(0, .ref (ad 129))]) rfl ?_
              exact s_X3_checkEntries_72 hn9 C M  T h
            · refine r_aload_n C dX3_checkEntries_66 rfl 0 rfl ?_
              refine r_iconst (v := 4) C dX3_checkEntries_67 (by decide) ?_
              refine r_lload_n C dX3_checkEntries_68 rfl 1 rfl ?_
              refine r_callVN C M h [.int 4, .long p1] [] mlX3_80 mcX3_fail (fun q9 e9 => s_X3_fail 4 p1  e9) kq_129 rfl (by decide) (by decide) rfl rfl (Nat.le_of_ble_eq_true rfl) dX3_checkEntries_69 (fun _ T6 h => ?_)
              refine Jr.sub [0] (lv' := [(0, .ref (ad 129))]) rfl ?_
              exact s_X3_checkEntries_72 hn9 C M  T6 h
theorem dX3_listed_0 : decode cX3_listed 0 = .ok (.aload_n 0, 1) := by decide +kernel
theorem dX3_listed_1 : decode cX3_listed 1 = .ok (.lload_n 1, 1) := by decide +kernel
theorem dX3_listed_2 : decode cX3_listed 2 = .ok (.ldc2_w 84, 3) := by decide +kernel
theorem dX3_listed_5 : decode cX3_listed 5 = .ok (.ladd, 1) := by decide +kernel
theorem dX3_listed_6 : decode cX3_listed 6 = .ok (.iconst 2, 1) := by decide +kernel
theorem dX3_listed_7 : decode cX3_listed 7 = .ok (.invokevirtual 58, 3) := by decide +kernel
theorem dX3_listed_10 : decode cX3_listed 10 = .ok (.ldc2_w 162, 3) := by decide +kernel
theorem dX3_listed_13 : decode cX3_listed 13 = .ok (.lcmp, 1) := by decide +kernel
theorem dX3_listed_14 : decode cX3_listed 14 = .ok (.ifCond .ne 7, 3) := by decide +kernel
theorem dX3_listed_17 : decode cX3_listed 17 = .ok (.iconst 2, 1) := by decide +kernel
theorem dX3_listed_18 : decode cX3_listed 18 = .ok (.goto 4, 3) := by decide +kernel
theorem dX3_listed_21 : decode cX3_listed 21 = .ok (.iconst 4, 1) := by decide +kernel
theorem dX3_listed_22 : decode cX3_listed 22 = .ok (.istore 4, 2) := by decide +kernel
theorem dX3_listed_24 : decode cX3_listed 24 = .ok (.lload_n 1, 1) := by decide +kernel
theorem dX3_listed_25 : decode cX3_listed 25 = .ok (.ldc2_w 145, 3) := by decide +kernel
theorem dX3_listed_28 : decode cX3_listed 28 = .ok (.ladd, 1) := by decide +kernel
theorem dX3_listed_29 : decode cX3_listed 29 = .ok (.lstore 5, 2) := by decide +kernel
theorem dX3_listed_31 : decode cX3_listed 31 = .ok (.aload_n 0, 1) := by decide +kernel
theorem dX3_listed_32 : decode cX3_listed 32 = .ok (.lload_n 1, 1) := by decide +kernel
theorem dX3_listed_33 : decode cX3_listed 33 = .ok (.ldc2_w 56, 3) := by decide +kernel
theorem dX3_listed_36 : decode cX3_listed 36 = .ok (.ladd, 1) := by decide +kernel
theorem dX3_listed_37 : decode cX3_listed 37 = .ok (.iconst 4, 1) := by decide +kernel
theorem dX3_listed_38 : decode cX3_listed 38 = .ok (.invokevirtual 58, 3) := by decide +kernel
theorem dX3_listed_41 : decode cX3_listed 41 = .ok (.iload 4, 2) := by decide +kernel
theorem dX3_listed_43 : decode cX3_listed 43 = .ok (.i2l, 1) := by decide +kernel
theorem dX3_listed_44 : decode cX3_listed 44 = .ok (.lmul, 1) := by decide +kernel
theorem dX3_listed_45 : decode cX3_listed 45 = .ok (.ldc2_w 56, 3) := by decide +kernel
theorem dX3_listed_48 : decode cX3_listed 48 = .ok (.lcmp, 1) := by decide +kernel
theorem dX3_listed_49 : decode cX3_listed 49 = .ok (.ifCond .le 12, 3) := by decide +kernel
theorem dX3_listed_52 : decode cX3_listed 52 = .ok (.aload_n 0, 1) := by decide +kernel
theorem dX3_listed_53 : decode cX3_listed 53 = .ok (.lload 5, 2) := by decide +kernel
theorem dX3_listed_55 : decode cX3_listed 55 = .ok (.iconst 4, 1) := by decide +kernel
theorem dX3_listed_56 : decode cX3_listed 56 = .ok (.invokevirtual 58, 3) := by decide +kernel
theorem dX3_listed_59 : decode cX3_listed 59 = .ok (.lstore 5, 2) := by decide +kernel
theorem dX3_listed_61 : decode cX3_listed 61 = .ok (.aload_n 0, 1) := by decide +kernel
theorem dX3_listed_62 : decode cX3_listed 62 = .ok (.lload 5, 2) := by decide +kernel
theorem dX3_listed_64 : decode cX3_listed 64 = .ok (.iload_n 3, 1) := by decide +kernel
theorem dX3_listed_65 : decode cX3_listed 65 = .ok (.i2l, 1) := by decide +kernel
theorem dX3_listed_66 : decode cX3_listed 66 = .ok (.iload 4, 2) := by decide +kernel
theorem dX3_listed_68 : decode cX3_listed 68 = .ok (.i2l, 1) := by decide +kernel
theorem dX3_listed_69 : decode cX3_listed 69 = .ok (.lmul, 1) := by decide +kernel
theorem dX3_listed_70 : decode cX3_listed 70 = .ok (.ladd, 1) := by decide +kernel
theorem dX3_listed_71 : decode cX3_listed 71 = .ok (.iload 4, 2) := by decide +kernel
theorem dX3_listed_73 : decode cX3_listed 73 = .ok (.invokevirtual 58, 3) := by decide +kernel
theorem dX3_listed_76 : decode cX3_listed 76 = .ok (.lreturn, 1) := by decide +kernel
noncomputable def f_X3_listed_61 (a3 : Int32) (a4 : Int32) (a5 : Int64) (T : Mm) : Option (Int64 × Mm) :=
  bd (f_X3_number (a5 + (((a3).toInt64) * ((a4).toInt64))) a4 T) fun v1 T2 =>
  some (v1, T2)
set_option maxRecDepth 100000 in
set_option maxHeartbeats 4000000 in
theorem s_X3_listed_61 {x : JX} {ad : Nat → Nat} {U : Mm} {S0 : Hp} {q : Int64 × Mm}  (hn9 : x_n x = 7) (C : CB x RX3 cX3_listed) (M : CMr x 3 (some .long) S0 ad true U eJ q) (a3 : Int32) (a4 : Int32) (a5 : Int64) (T : Mm) (h : f_X3_listed_61  a3 a4 a5 T = some q) : Jr x ad true U T [(0, .ref (ad 129)), (3, .int a3), (4, .int a4), (5, .long a5)] 61 [] := by
  unfold f_X3_listed_61 at h
  refine r_aload_n C dX3_listed_61 rfl 0 rfl ?_
  refine r_lload C dX3_listed_62 3 rfl ?_
  refine r_iload_n C dX3_listed_64 rfl 1 rfl ?_
  refine r_i2l C dX3_listed_65 rfl ?_
  refine r_iload C dX3_listed_66 2 rfl ?_
  show Jr _ _ _ _ _ _ 68 _
  refine r_i2l C dX3_listed_68 rfl ?_
  refine r_lmul C dX3_listed_69 rfl ?_
  refine r_ladd C dX3_listed_70 rfl ?_
  refine r_iload C dX3_listed_71 2 rfl ?_
  refine r_callVJ C M h [.long (a5 + (((a3).toInt64) * ((a4).toInt64))), .int a4] [] mlX3_58 mcX3_number (fun q9 e9 => s_X3_number (a5 + (((a3).toInt64) * ((a4).toInt64))) a4  e9) kq_129 rfl (by decide) (by decide) rfl rfl (Nat.le_of_ble_eq_true rfl) dX3_listed_73 (fun v1 T2 h => ?_)
  exact r_lret C M dX3_listed_76 h
noncomputable def f_X3_listed_22 (a1 : Int64) (a3 : Int32) (b0 : Int32) (T : Mm) : Option (Int64 × Mm) :=
  lb ((a1 + 8)) fun v1 =>
  bd (f_X3_number (a1 + 4) 4 T) fun v2 T3 =>
  if (lg_cmp (v2 * ((b0).toInt64)) 4) ≤ 0 then (f_X3_listed_61 a3 b0 v1 T3)
  else (bd (f_X3_number v1 4 T3) fun v4 T5 =>
  f_X3_listed_61 a3 b0 v4 T5)
set_option maxRecDepth 100000 in
set_option maxHeartbeats 4000000 in
theorem s_X3_listed_22 {x : JX} {ad : Nat → Nat} {U : Mm} {S0 : Hp} {q : Int64 × Mm}  (hn9 : x_n x = 7) (C : CB x RX3 cX3_listed) (M : CMr x 3 (some .long) S0 ad true U eJ q) (a1 : Int64) (a3 : Int32) (b0 : Int32) (T : Mm) (h : f_X3_listed_22  a1 a3 b0 T = some q) : Jr x ad true U T [(0, .ref (ad 129)), (1, .long a1), (3, .int a3)] 22 [.int b0] := by
  unfold f_X3_listed_22 at h
  refine r_istore (lv' := [(4, .int b0), (0, .ref (ad 129)), (1, .long a1), (3, .int a3)]) C dX3_listed_22 (by rw [hn9]; decide) rfl ?_
  refine r_lload_n C dX3_listed_24 rfl 2 rfl ?_
  refine r_ldc2 (v := 8) C dX3_listed_25 kcX3_145 ?_
  refine r_ladd C dX3_listed_28 rfl ?_
  refine r_lbJ h (fun v1 h => ?_)
  refine r_lstore (lv' := [(5, .long v1), (4, .int b0), (0, .ref (ad 129)), (1, .long a1), (3, .int a3)]) C dX3_listed_29 (by rw [hn9]; decide) rfl ?_
  show Jr _ _ _ _ _ _ 31 _
  refine r_aload_n C dX3_listed_31 rfl 2 rfl ?_
  refine r_lload_n C dX3_listed_32 rfl 3 rfl ?_
  refine r_ldc2 (v := 4) C dX3_listed_33 kcX3_56 ?_
  refine r_ladd C dX3_listed_36 rfl ?_
  refine r_iconst (v := 4) C dX3_listed_37 (by decide) ?_
  refine r_callVJ C M h [.long (a1 + 4), .int 4] [] mlX3_58 mcX3_number (fun q9 e9 => s_X3_number (a1 + 4) 4  e9) kq_129 rfl (by decide) (by decide) rfl rfl (Nat.le_of_ble_eq_true rfl) dX3_listed_38 (fun v2 T3 h => ?_)
  show Jr _ _ _ _ _ _ 41 _
  refine r_iload C dX3_listed_41 1 rfl ?_
  refine r_i2l C dX3_listed_43 rfl ?_
  refine r_lmul C dX3_listed_44 rfl ?_
  refine r_ldc2 (v := 4) C dX3_listed_45 kcX3_56 ?_
  refine r_lcmp C dX3_listed_48 ?_
  refine r_if_le (tgt := 61) C dX3_listed_49 (by decide) h (fun h => ?_) (fun h => ?_)
  · refine Jr.sub [2, 4, 1, 0] (lv' := [(0, .ref (ad 129)), (3, .int a3), (4, .int b0), (5, .long v1)]) rfl ?_
    exact s_X3_listed_61 hn9 C M  a3 b0 v1 T3 h
  · refine r_aload_n C dX3_listed_52 rfl 2 rfl ?_
    refine r_lload C dX3_listed_53 0 rfl ?_
    refine r_iconst (v := 4) C dX3_listed_55 (by decide) ?_
    refine r_callVJ C M h [.long v1, .int 4] [] mlX3_58 mcX3_number (fun q9 e9 => s_X3_number v1 4  e9) kq_129 rfl (by decide) (by decide) rfl rfl (Nat.le_of_ble_eq_true rfl) dX3_listed_56 (fun v4 T5 h => ?_)
    refine r_lstore (lv' := [(5, .long v4), (4, .int b0), (0, .ref (ad 129)), (1, .long a1), (3, .int a3)]) C dX3_listed_59 (by rw [hn9]; decide) rfl ?_
    refine Jr.sub [2, 4, 1, 0] (lv' := [(0, .ref (ad 129)), (3, .int a3), (4, .int b0), (5, .long v4)]) rfl ?_
    exact s_X3_listed_61 hn9 C M  a3 b0 v4 T5 h
noncomputable def f_X3_listed (p1 : Int64) (p3 : Int32) (T : Mm) : Option (Int64 × Mm) :=
  bd (f_X3_number (p1 + 2) 2 T) fun v1 T2 =>
  if (lg_cmp v1 3) = 0 then (f_X3_listed_22 p1 p3 2 T2)
  else (f_X3_listed_22 p1 p3 4 T2)
set_option maxRecDepth 100000 in
set_option maxHeartbeats 4000000 in
theorem s_X3_listed {ad : Nat → Nat} {U T : Mm} {q : Int64 × Mm}  (p1 : Int64) (p3 : Int32) (h : f_X3_listed p1 p3 T = some q) : Cr 3 yX3_listed cX3_listed 7 (some .long) [.ref (ad 129), .long p1, .int p3] ad true U T eJ q := by
  refine cr_of (by decide) (Nat.le_of_ble_eq_true rfl) fun x S0 hn9 C M => ?_
  have C : CB x RX3 cX3_listed := C
  refine Jr.eq (lv' := [(0, .ref (ad 129)), (1, .long p1), (3, .int p3)]) (st' := []) rfl rfl ?_
  unfold f_X3_listed at h
  refine r_aload_n C dX3_listed_0 rfl 0 rfl ?_
  refine r_lload_n C dX3_listed_1 rfl 1 rfl ?_
  refine r_ldc2 (v := 2) C dX3_listed_2 kcX3_84 ?_
  refine r_ladd C dX3_listed_5 rfl ?_
  refine r_iconst (v := 2) C dX3_listed_6 (by decide) ?_
  show Jr _ _ _ _ _ _ 7 _
  refine r_callVJ C M h [.long (p1 + 2), .int 2] [] mlX3_58 mcX3_number (fun q9 e9 => s_X3_number (p1 + 2) 2  e9) kq_129 rfl (by decide) (by decide) rfl rfl (Nat.le_of_ble_eq_true rfl) dX3_listed_7 (fun v1 T2 h => ?_)
  refine r_ldc2 (v := 3) C dX3_listed_10 kcX3_162 ?_
  refine r_lcmp C dX3_listed_13 ?_
  refine r_if_ne (tgt := 21) C dX3_listed_14 (by decide) h (fun h => ?_) (fun h => ?_)
  · refine r_iconst (v := 4) C dX3_listed_21 (by decide) ?_
    exact s_X3_listed_22 hn9 C M  p1 p3 4 T2 h
  · refine r_iconst (v := 2) C dX3_listed_17 (by decide) ?_
    refine r_goto (tgt := 22) C dX3_listed_18 (by decide) ?_
    exact s_X3_listed_22 hn9 C M  p1 p3 2 T2 h
theorem dX3_openStrip_0 : decode cX3_openStrip 0 = .ok (.iconst 0, 1) := by decide +kernel
theorem dX3_openStrip_1 : decode cX3_openStrip 1 = .ok (.istore_n 3, 1) := by decide +kernel
theorem dX3_openStrip_2 : decode cX3_openStrip 2 = .ok (.iload_n 3, 1) := by decide +kernel
theorem dX3_openStrip_3 : decode cX3_openStrip 3 = .ok (.iload_n 2, 1) := by decide +kernel
theorem dX3_openStrip_4 : decode cX3_openStrip 4 = .ok (.if_icmp .ge 102, 3) := by decide +kernel
theorem dX3_openStrip_7 : decode cX3_openStrip 7 = .ok (.iload_n 3, 1) := by decide +kernel
theorem dX3_openStrip_8 : decode cX3_openStrip 8 = .ok (.aload_n 0, 1) := by decide +kernel
theorem dX3_openStrip_9 : decode cX3_openStrip 9 = .ok (.getfield 19, 3) := by decide +kernel
theorem dX3_openStrip_12 : decode cX3_openStrip 12 = .ok (.arraylength, 1) := by decide +kernel
theorem dX3_openStrip_13 : decode cX3_openStrip 13 = .ok (.if_icmp .ge 93, 3) := by decide +kernel
theorem dX3_openStrip_16 : decode cX3_openStrip 16 = .ok (.aload_n 0, 1) := by decide +kernel
theorem dX3_openStrip_17 : decode cX3_openStrip 17 = .ok (.iload_n 1, 1) := by decide +kernel
theorem dX3_openStrip_18 : decode cX3_openStrip 18 = .ok (.iload_n 3, 1) := by decide +kernel
theorem dX3_openStrip_19 : decode cX3_openStrip 19 = .ok (.iadd, 1) := by decide +kernel
theorem dX3_openStrip_20 : decode cX3_openStrip 20 = .ok (.i2l, 1) := by decide +kernel
theorem dX3_openStrip_21 : decode cX3_openStrip 21 = .ok (.invokevirtual 76, 3) := by decide +kernel
theorem dX3_openStrip_24 : decode cX3_openStrip 24 = .ok (.istore 4, 2) := by decide +kernel
theorem dX3_openStrip_26 : decode cX3_openStrip 26 = .ok (.aload_n 0, 1) := by decide +kernel
theorem dX3_openStrip_27 : decode cX3_openStrip 27 = .ok (.getfield 129, 3) := by decide +kernel
theorem dX3_openStrip_30 : decode cX3_openStrip 30 = .ok (.ldc2_w 84, 3) := by decide +kernel
theorem dX3_openStrip_33 : decode cX3_openStrip 33 = .ok (.lcmp, 1) := by decide +kernel
theorem dX3_openStrip_34 : decode cX3_openStrip 34 = .ok (.ifCond .ne 57, 3) := by decide +kernel
theorem dX3_openStrip_37 : decode cX3_openStrip 37 = .ok (.iload 4, 2) := by decide +kernel
theorem dX3_openStrip_39 : decode cX3_openStrip 39 = .ok (.sipush 240, 3) := by decide +kernel
theorem dX3_openStrip_42 : decode cX3_openStrip 42 = .ok (.iand, 1) := by decide +kernel
theorem dX3_openStrip_43 : decode cX3_openStrip 43 = .ok (.iconst 4, 1) := by decide +kernel
theorem dX3_openStrip_44 : decode cX3_openStrip 44 = .ok (.ishr, 1) := by decide +kernel
theorem dX3_openStrip_45 : decode cX3_openStrip 45 = .ok (.iload 4, 2) := by decide +kernel
theorem dX3_openStrip_47 : decode cX3_openStrip 47 = .ok (.bipush 15, 2) := by decide +kernel
theorem dX3_openStrip_49 : decode cX3_openStrip 49 = .ok (.iand, 1) := by decide +kernel
theorem dX3_openStrip_50 : decode cX3_openStrip 50 = .ok (.iconst 4, 1) := by decide +kernel
theorem dX3_openStrip_51 : decode cX3_openStrip 51 = .ok (.ishl, 1) := by decide +kernel
theorem dX3_openStrip_52 : decode cX3_openStrip 52 = .ok (.ior, 1) := by decide +kernel
theorem dX3_openStrip_53 : decode cX3_openStrip 53 = .ok (.istore 4, 2) := by decide +kernel
theorem dX3_openStrip_55 : decode cX3_openStrip 55 = .ok (.iload 4, 2) := by decide +kernel
theorem dX3_openStrip_57 : decode cX3_openStrip 57 = .ok (.sipush 204, 3) := by decide +kernel
theorem dX3_openStrip_60 : decode cX3_openStrip 60 = .ok (.iand, 1) := by decide +kernel
theorem dX3_openStrip_61 : decode cX3_openStrip 61 = .ok (.iconst 2, 1) := by decide +kernel
theorem dX3_openStrip_62 : decode cX3_openStrip 62 = .ok (.ishr, 1) := by decide +kernel
theorem dX3_openStrip_63 : decode cX3_openStrip 63 = .ok (.iload 4, 2) := by decide +kernel
theorem dX3_openStrip_65 : decode cX3_openStrip 65 = .ok (.bipush 51, 2) := by decide +kernel
theorem dX3_openStrip_67 : decode cX3_openStrip 67 = .ok (.iand, 1) := by decide +kernel
theorem dX3_openStrip_68 : decode cX3_openStrip 68 = .ok (.iconst 2, 1) := by decide +kernel
theorem dX3_openStrip_69 : decode cX3_openStrip 69 = .ok (.ishl, 1) := by decide +kernel
theorem dX3_openStrip_70 : decode cX3_openStrip 70 = .ok (.ior, 1) := by decide +kernel
theorem dX3_openStrip_71 : decode cX3_openStrip 71 = .ok (.istore 4, 2) := by decide +kernel
theorem dX3_openStrip_73 : decode cX3_openStrip 73 = .ok (.iload 4, 2) := by decide +kernel
theorem dX3_openStrip_75 : decode cX3_openStrip 75 = .ok (.sipush 170, 3) := by decide +kernel
theorem dX3_openStrip_78 : decode cX3_openStrip 78 = .ok (.iand, 1) := by decide +kernel
theorem dX3_openStrip_79 : decode cX3_openStrip 79 = .ok (.iconst 1, 1) := by decide +kernel
theorem dX3_openStrip_80 : decode cX3_openStrip 80 = .ok (.ishr, 1) := by decide +kernel
theorem dX3_openStrip_81 : decode cX3_openStrip 81 = .ok (.iload 4, 2) := by decide +kernel
theorem dX3_openStrip_83 : decode cX3_openStrip 83 = .ok (.bipush 85, 2) := by decide +kernel
theorem dX3_openStrip_85 : decode cX3_openStrip 85 = .ok (.iand, 1) := by decide +kernel
theorem dX3_openStrip_86 : decode cX3_openStrip 86 = .ok (.iconst 1, 1) := by decide +kernel
theorem dX3_openStrip_87 : decode cX3_openStrip 87 = .ok (.ishl, 1) := by decide +kernel
theorem dX3_openStrip_88 : decode cX3_openStrip 88 = .ok (.ior, 1) := by decide +kernel
theorem dX3_openStrip_89 : decode cX3_openStrip 89 = .ok (.istore 4, 2) := by decide +kernel
theorem dX3_openStrip_91 : decode cX3_openStrip 91 = .ok (.aload_n 0, 1) := by decide +kernel
theorem dX3_openStrip_92 : decode cX3_openStrip 92 = .ok (.getfield 19, 3) := by decide +kernel
theorem dX3_openStrip_95 : decode cX3_openStrip 95 = .ok (.iload_n 3, 1) := by decide +kernel
theorem dX3_openStrip_96 : decode cX3_openStrip 96 = .ok (.iload 4, 2) := by decide +kernel
theorem dX3_openStrip_98 : decode cX3_openStrip 98 = .ok (.i2b, 1) := by decide +kernel
theorem dX3_openStrip_99 : decode cX3_openStrip 99 = .ok (.bastore, 1) := by decide +kernel
theorem dX3_openStrip_100 : decode cX3_openStrip 100 = .ok (.iinc 3 1, 3) := by decide +kernel
theorem dX3_openStrip_103 : decode cX3_openStrip 103 = .ok (.goto (-101), 3) := by decide +kernel
theorem dX3_openStrip_106 : decode cX3_openStrip 106 = .ok (.aload_n 0, 1) := by decide +kernel
theorem dX3_openStrip_107 : decode cX3_openStrip 107 = .ok (.iconst 0, 1) := by decide +kernel
theorem dX3_openStrip_108 : decode cX3_openStrip 108 = .ok (.putfield 198, 3) := by decide +kernel
theorem dX3_openStrip_111 : decode cX3_openStrip 111 = .ok (.aload_n 0, 1) := by decide +kernel
theorem dX3_openStrip_112 : decode cX3_openStrip 112 = .ok (.bipush 8, 2) := by decide +kernel
theorem dX3_openStrip_114 : decode cX3_openStrip 114 = .ok (.iload_n 2, 1) := by decide +kernel
theorem dX3_openStrip_115 : decode cX3_openStrip 115 = .ok (.aload_n 0, 1) := by decide +kernel
theorem dX3_openStrip_116 : decode cX3_openStrip 116 = .ok (.getfield 19, 3) := by decide +kernel
theorem dX3_openStrip_119 : decode cX3_openStrip 119 = .ok (.arraylength, 1) := by decide +kernel
theorem dX3_openStrip_120 : decode cX3_openStrip 120 = .ok (.invokestatic 201, 3) := by decide +kernel
theorem dX3_openStrip_123 : decode cX3_openStrip 123 = .ok (.imul, 1) := by decide +kernel
theorem dX3_openStrip_124 : decode cX3_openStrip 124 = .ok (.putfield 204, 3) := by decide +kernel
theorem dX3_openStrip_127 : decode cX3_openStrip 127 = .ok (.return_, 1) := by decide +kernel
noncomputable def f_X3_openStrip_106 (a2 : Int32) (T : Mm) : Option (Unit × Mm) :=
  lb (uI T 318 129 0) fun T1 =>
  bd (f_J9_min_7cf53 a2 12000 T1) fun v2 T3 =>
  lb (uI T3 319 129 ((8 : Int32) * v2)) fun T4 =>
  some ((), T4)
set_option maxRecDepth 100000 in
set_option maxHeartbeats 4000000 in
theorem s_X3_openStrip_106 {x : JX} {ad : Nat → Nat} {U : Mm} {S0 : Hp} {q : Unit × Mm}  (hn9 : x_n x = 5) (C : CB x RX3 cX3_openStrip) (M : CMr x 2 none S0 ad true U eV q) (a2 : Int32) (T : Mm) (h : f_X3_openStrip_106  a2 T = some q) : Jr x ad true U T [(0, .ref (ad 129)), (2, .int a2)] 106 [] := by
  unfold f_X3_openStrip_106 at h
  refine r_aload_n C dX3_openStrip_106 rfl 0 rfl ?_
  refine r_iconst (v := 0) C dX3_openStrip_107 (by decide) ?_
  refine r_puti (f := 318) C flX3_198 (by decide) rfl rfl dX3_openStrip_108 kq_129 rfl h (fun T1 h => ?_)
  refine r_aload_n C dX3_openStrip_111 rfl 0 rfl ?_
  refine r_bipush (v := 8) C dX3_openStrip_112 (by decide) ?_
  show Jr _ _ _ _ _ _ 114 _
  refine r_iload_n C dX3_openStrip_114 rfl 1 rfl ?_
  refine r_aload_n C dX3_openStrip_115 rfl 0 rfl ?_
  refine r_getp (f := 317) (j := 131) C flX3_19 dX3_openStrip_116 kq_129 (by decide) rfl (fun W => pt_317 kq_129 W) ?_
  refine r_alen (n := 0) (v := 12000) C dX3_openStrip_119 kq_131 (by decide) (by decide) (congrArg Int32.ofNat lq_131) ?_
  refine r_callSI C M h [.int a2, .int 12000] [.int 8, .ref (ad 129)] mlX3_201 mcJ9_min_7cf53 (fun q9 e9 => s_J9_min_7cf53 a2 12000  e9) (by decide) (by decide) rfl rfl (Nat.le_of_ble_eq_true rfl) dX3_openStrip_120 (fun v2 T3 h => ?_)
  refine r_imul C dX3_openStrip_123 rfl ?_
  show Jr _ _ _ _ _ _ 124 _
  refine r_puti (f := 319) C flX3_204 (by decide) rfl rfl dX3_openStrip_124 kq_129 rfl h (fun T4 h => ?_)
  exact r_vret C M dX3_openStrip_127 h
noncomputable def f_X3_openStrip_b2 (k2 : Int32 → Int32 → Int32 → Mm → Option (Unit × Mm)) (a1 : Int32) (a2 : Int32) (a3 : Int32) (T : Mm) : Option (Unit × Mm) :=
  if a2 ≤ a3 then (f_X3_openStrip_106 a2 T)
  else (if 12000 ≤ a3 then (f_X3_openStrip_106 a2 T)
  else (bd (f_X3_byteAt (((a1 + a3)).toInt64) T) fun v1 T2 =>
  if (lg_cmp (gJ T2 313 129) 2) = 0 then (lb ((((v1 &&& 240) >>> ((4 : Int32) &&& 31)) ||| ((v1 &&& 15) <<< ((4 : Int32) &&& 31)))) fun v6 =>
  lb ((((v6 &&& 204) >>> ((2 : Int32) &&& 31)) ||| ((v6 &&& 51) <<< ((2 : Int32) &&& 31)))) fun v7 =>
  lb ((((v7 &&& 170) >>> ((1 : Int32) &&& 31)) ||| ((v7 &&& 85) <<< ((1 : Int32) &&& 31)))) fun v8 =>
  ix a3 12000 fun j9 => lb (uA T2 131 j9 (((v8).toInt8.toInt32).toInt8.toInt32)) fun T11 =>
  k2 a1 a2 (a3 + 1) T11)
  else (ix a3 12000 fun j3 => lb (uA T2 131 j3 (((v1).toInt8.toInt32).toInt8.toInt32)) fun T5 =>
  k2 a1 a2 (a3 + 1) T5)))
set_option maxRecDepth 100000 in
set_option maxHeartbeats 4000000 in
theorem s_X3_openStrip_b2 {x : JX} {ad : Nat → Nat} {U : Mm} {S0 : Hp} {q : Unit × Mm}  {k2 : Int32 → Int32 → Int32 → Mm → Option (Unit × Mm)} (hn9 : x_n x = 5) (C : CB x RX3 cX3_openStrip) (M : CMr x 2 none S0 ad true U eV q) (hk2 : ∀ (a1 : Int32) (a2 : Int32) (a3 : Int32) (T : Mm), k2 a1 a2 a3 T = some q → Jr x ad true U T [(0, .ref (ad 129)), (1, .int a1), (2, .int a2), (3, .int a3)] 2 []) (a1 : Int32) (a2 : Int32) (a3 : Int32) (T : Mm) (h : f_X3_openStrip_b2 k2 a1 a2 a3 T = some q) : Jr x ad true U T [(0, .ref (ad 129)), (1, .int a1), (2, .int a2), (3, .int a3)] 2 [] := by
  unfold f_X3_openStrip_b2 at h
  refine r_iload_n C dX3_openStrip_2 rfl 3 rfl ?_
  refine r_iload_n C dX3_openStrip_3 rfl 2 rfl ?_
  refine r_ic_ge (tgt := 106) C dX3_openStrip_4 (by decide) h (fun h => ?_) (fun h => ?_)
  · refine Jr.sub [0, 2] (lv' := [(0, .ref (ad 129)), (2, .int a2)]) rfl ?_
    exact s_X3_openStrip_106 hn9 C M  a2 T h
  · refine r_iload_n C dX3_openStrip_7 rfl 3 rfl ?_
    refine r_aload_n C dX3_openStrip_8 rfl 0 rfl ?_
    refine r_getp (f := 317) (j := 131) C flX3_19 dX3_openStrip_9 kq_129 (by decide) rfl (fun W => pt_317 kq_129 W) ?_
    refine r_alen (n := 0) (v := 12000) C dX3_openStrip_12 kq_131 (by decide) (by decide) (congrArg Int32.ofNat lq_131) ?_
    refine r_ic_ge (tgt := 106) C dX3_openStrip_13 (by decide) h (fun h => ?_) (fun h => ?_)
    · refine Jr.sub [0, 2] (lv' := [(0, .ref (ad 129)), (2, .int a2)]) rfl ?_
      exact s_X3_openStrip_106 hn9 C M  a2 T h
    · refine r_aload_n C dX3_openStrip_16 rfl 0 rfl ?_
      refine r_iload_n C dX3_openStrip_17 rfl 1 rfl ?_
      refine r_iload_n C dX3_openStrip_18 rfl 3 rfl ?_
      refine r_iadd C dX3_openStrip_19 rfl ?_
      refine r_i2l C dX3_openStrip_20 rfl ?_
      show Jr _ _ _ _ _ _ 21 _
      refine r_callVI C M h [.long (((a1 + a3)).toInt64)] [] mlX3_76 mcX3_byteAt (fun q9 e9 => s_X3_byteAt (((a1 + a3)).toInt64)  e9) kq_129 rfl (by decide) (by decide) rfl rfl (Nat.le_of_ble_eq_true rfl) dX3_openStrip_21 (fun v1 T2 h => ?_)
      refine r_istore (lv' := [(4, .int v1), (0, .ref (ad 129)), (1, .int a1), (2, .int a2), (3, .int a3)]) C dX3_openStrip_24 (by rw [hn9]; decide) rfl ?_
      refine r_aload_n C dX3_openStrip_26 rfl 1 rfl ?_
      refine r_getl (f := 313) C flX3_129 dX3_openStrip_27 kq_129 (by decide) rfl ?_
      refine r_ldc2 (v := 2) C dX3_openStrip_30 kcX3_84 ?_
      refine r_lcmp C dX3_openStrip_33 ?_
      show Jr _ _ _ _ _ _ 34 _
      refine r_if_ne (tgt := 91) C dX3_openStrip_34 (by decide) h (fun h => ?_) (fun h => ?_)
      · refine r_aload_n C dX3_openStrip_91 rfl 1 rfl ?_
        refine r_getp (f := 317) (j := 131) C flX3_19 dX3_openStrip_92 kq_129 (by decide) rfl (fun W => pt_317 kq_129 W) ?_
        refine r_iload_n C dX3_openStrip_95 rfl 4 rfl ?_
        refine r_iload C dX3_openStrip_96 0 rfl ?_
        refine r_i2b C dX3_openStrip_98 rfl ?_
        show Jr _ _ _ _ _ _ 99 _
        refine r_bast (n := 12000) C dX3_openStrip_99 kq_131 lq_131 h (fun j3 T5 hj4 h => ?_)
        refine r_iinc (q := 4) (v := (a3 + 1)) (lv' := [(3, .int (a3 + 1)), (4, .int v1), (0, .ref (ad 129)), (1, .int a1), (2, .int a2)]) C dX3_openStrip_100 rfl (by rw [show Int32.ofInt (1) = 1 by decide]) (by rw [hn9]; decide) rfl ?_
        refine r_goto (tgt := 2) C dX3_openStrip_103 (by decide) ?_
        refine Jr.sub [2, 3, 4, 0] (lv' := [(0, .ref (ad 129)), (1, .int a1), (2, .int a2), (3, .int (a3 + 1))]) rfl ?_
        exact hk2 a1 a2 (a3 + 1) T5 h
      · refine r_iload C dX3_openStrip_37 0 rfl ?_
        refine r_sipush (v := 240) C dX3_openStrip_39 (by decide) ?_
        refine r_iand C dX3_openStrip_42 rfl ?_
        refine r_iconst (v := 4) C dX3_openStrip_43 (by decide) ?_
        refine r_ishr C dX3_openStrip_44 rfl ?_
        show Jr _ _ _ _ _ _ 45 _
        refine r_iload C dX3_openStrip_45 0 rfl ?_
        refine r_bipush (v := 15) C dX3_openStrip_47 (by decide) ?_
        refine r_iand C dX3_openStrip_49 rfl ?_
        refine r_iconst (v := 4) C dX3_openStrip_50 (by decide) ?_
        refine r_ishl C dX3_openStrip_51 rfl ?_
        refine r_ior C dX3_openStrip_52 rfl ?_
        show Jr _ _ _ _ _ _ 53 _
        refine r_lbI h (fun v6 h => ?_)
        refine r_istore (lv' := [(4, .int v6), (0, .ref (ad 129)), (1, .int a1), (2, .int a2), (3, .int a3)]) C dX3_openStrip_53 (by rw [hn9]; decide) rfl ?_
        refine r_iload C dX3_openStrip_55 0 rfl ?_
        refine r_sipush (v := 204) C dX3_openStrip_57 (by decide) ?_
        refine r_iand C dX3_openStrip_60 rfl ?_
        refine r_iconst (v := 2) C dX3_openStrip_61 (by decide) ?_
        refine r_ishr C dX3_openStrip_62 rfl ?_
        show Jr _ _ _ _ _ _ 63 _
        refine r_iload C dX3_openStrip_63 0 rfl ?_
        refine r_bipush (v := 51) C dX3_openStrip_65 (by decide) ?_
        refine r_iand C dX3_openStrip_67 rfl ?_
        refine r_iconst (v := 2) C dX3_openStrip_68 (by decide) ?_
        refine r_ishl C dX3_openStrip_69 rfl ?_
        refine r_ior C dX3_openStrip_70 rfl ?_
        show Jr _ _ _ _ _ _ 71 _
        refine r_lbI h (fun v7 h => ?_)
        refine r_istore (lv' := [(4, .int v7), (0, .ref (ad 129)), (1, .int a1), (2, .int a2), (3, .int a3)]) C dX3_openStrip_71 (by rw [hn9]; decide) rfl ?_
        refine r_iload C dX3_openStrip_73 0 rfl ?_
        refine r_sipush (v := 170) C dX3_openStrip_75 (by decide) ?_
        refine r_iand C dX3_openStrip_78 rfl ?_
        refine r_iconst (v := 1) C dX3_openStrip_79 (by decide) ?_
        refine r_ishr C dX3_openStrip_80 rfl ?_
        show Jr _ _ _ _ _ _ 81 _
        refine r_iload C dX3_openStrip_81 0 rfl ?_
        refine r_bipush (v := 85) C dX3_openStrip_83 (by decide) ?_
        refine r_iand C dX3_openStrip_85 rfl ?_
        refine r_iconst (v := 1) C dX3_openStrip_86 (by decide) ?_
        refine r_ishl C dX3_openStrip_87 rfl ?_
        refine r_ior C dX3_openStrip_88 rfl ?_
        show Jr _ _ _ _ _ _ 89 _
        refine r_lbI h (fun v8 h => ?_)
        refine r_istore (lv' := [(4, .int v8), (0, .ref (ad 129)), (1, .int a1), (2, .int a2), (3, .int a3)]) C dX3_openStrip_89 (by rw [hn9]; decide) rfl ?_
        refine r_aload_n C dX3_openStrip_91 rfl 1 rfl ?_
        refine r_getp (f := 317) (j := 131) C flX3_19 dX3_openStrip_92 kq_129 (by decide) rfl (fun W => pt_317 kq_129 W) ?_
        refine r_iload_n C dX3_openStrip_95 rfl 4 rfl ?_
        refine r_iload C dX3_openStrip_96 0 rfl ?_
        refine r_i2b C dX3_openStrip_98 rfl ?_
        show Jr _ _ _ _ _ _ 99 _
        refine r_bast (n := 12000) C dX3_openStrip_99 kq_131 lq_131 h (fun j9 T11 hj10 h => ?_)
        refine r_iinc (q := 4) (v := (a3 + 1)) (lv' := [(3, .int (a3 + 1)), (4, .int v8), (0, .ref (ad 129)), (1, .int a1), (2, .int a2)]) C dX3_openStrip_100 rfl (by rw [show Int32.ofInt (1) = 1 by decide]) (by rw [hn9]; decide) rfl ?_
        refine r_goto (tgt := 2) C dX3_openStrip_103 (by decide) ?_
        refine Jr.sub [2, 3, 4, 0] (lv' := [(0, .ref (ad 129)), (1, .int a1), (2, .int a2), (3, .int (a3 + 1))]) rfl ?_
        exact hk2 a1 a2 (a3 + 1) T11 h
noncomputable def f_X3_openStrip_l2 (n : Nat) : Int32 → Int32 → Int32 → Mm → Option (Unit × Mm) := Nat.rec (fun _ _ _ _ => none) (fun _ ih => f_X3_openStrip_b2 ih) n
theorem s_X3_openStrip_l2 {x : JX} {ad : Nat → Nat} {U : Mm} {S0 : Hp} {q : Unit × Mm}  (hn9 : x_n x = 5) (C : CB x RX3 cX3_openStrip) (M : CMr x 2 none S0 ad true U eV q) : ∀ (n : Nat), ∀ (a1 : Int32) (a2 : Int32) (a3 : Int32) (T : Mm), f_X3_openStrip_l2  n a1 a2 a3 T = some q → Jr x ad true U T [(0, .ref (ad 129)), (1, .int a1), (2, .int a2), (3, .int a3)] 2 [] := by
  intro n
  induction n with
  | zero => intro a1 a2 a3 T  h; exact absurd h (by intro h; cases h)
  | succ n ih => exact fun a1 a2 a3 T  h => s_X3_openStrip_b2 hn9 C M (ih) a1 a2 a3 T  h
noncomputable def f_X3_openStrip (p1 : Int32) (p2 : Int32) (T : Mm) : Option (Unit × Mm) :=
  f_X3_openStrip_l2 FU p1 p2 0 T
set_option maxRecDepth 100000 in
set_option maxHeartbeats 4000000 in
theorem s_X3_openStrip {ad : Nat → Nat} {U T : Mm} {q : Unit × Mm}  (p1 : Int32) (p2 : Int32) (h : f_X3_openStrip p1 p2 T = some q) : Cr 2 yX3_openStrip cX3_openStrip 5 none [.ref (ad 129), .int p1, .int p2] ad true U T eV q := by
  refine cr_of (by decide) (Nat.le_of_ble_eq_true rfl) fun x S0 hn9 C M => ?_
  have C : CB x RX3 cX3_openStrip := C
  refine Jr.eq (lv' := [(0, .ref (ad 129)), (1, .int p1), (2, .int p2)]) (st' := []) rfl rfl ?_
  unfold f_X3_openStrip at h
  refine r_iconst (v := 0) C dX3_openStrip_0 (by decide) ?_
  refine r_istore_n (lv' := [(3, .int 0), (0, .ref (ad 129)), (1, .int p1), (2, .int p2)]) C dX3_openStrip_1 rfl (by rw [hn9]; decide) rfl ?_
  refine Jr.sub [1, 2, 3, 0] (lv' := [(0, .ref (ad 129)), (1, .int p1), (2, .int p2), (3, .int 0)]) rfl ?_
  exact s_X3_openStrip_l2 hn9 C M  FU p1 p2 0 T h
theorem dX3_peek_0 : decode cX3_peek 0 = .ok (.aload_n 0, 1) := by decide +kernel
theorem dX3_peek_1 : decode cX3_peek 1 = .ok (.getfield 198, 3) := by decide +kernel
theorem dX3_peek_4 : decode cX3_peek 4 = .ok (.iconst 3, 1) := by decide +kernel
theorem dX3_peek_5 : decode cX3_peek 5 = .ok (.ishr, 1) := by decide +kernel
theorem dX3_peek_6 : decode cX3_peek 6 = .ok (.istore_n 2, 1) := by decide +kernel
theorem dX3_peek_7 : decode cX3_peek 7 = .ok (.iconst 0, 1) := by decide +kernel
theorem dX3_peek_8 : decode cX3_peek 8 = .ok (.istore_n 3, 1) := by decide +kernel
theorem dX3_peek_9 : decode cX3_peek 9 = .ok (.iload_n 2, 1) := by decide +kernel
theorem dX3_peek_10 : decode cX3_peek 10 = .ok (.istore 4, 2) := by decide +kernel
theorem dX3_peek_12 : decode cX3_peek 12 = .ok (.iload 4, 2) := by decide +kernel
theorem dX3_peek_14 : decode cX3_peek 14 = .ok (.iload_n 2, 1) := by decide +kernel
theorem dX3_peek_15 : decode cX3_peek 15 = .ok (.iconst 3, 1) := by decide +kernel
theorem dX3_peek_16 : decode cX3_peek 16 = .ok (.iadd, 1) := by decide +kernel
theorem dX3_peek_17 : decode cX3_peek 17 = .ok (.if_icmp .ge 69, 3) := by decide +kernel
theorem dX3_peek_20 : decode cX3_peek 20 = .ok (.iload 4, 2) := by decide +kernel
theorem dX3_peek_22 : decode cX3_peek 22 = .ok (.ifCond .lt 29, 3) := by decide +kernel
theorem dX3_peek_25 : decode cX3_peek 25 = .ok (.iload 4, 2) := by decide +kernel
theorem dX3_peek_27 : decode cX3_peek 27 = .ok (.aload_n 0, 1) := by decide +kernel
theorem dX3_peek_28 : decode cX3_peek 28 = .ok (.getfield 19, 3) := by decide +kernel
theorem dX3_peek_31 : decode cX3_peek 31 = .ok (.arraylength, 1) := by decide +kernel
theorem dX3_peek_32 : decode cX3_peek 32 = .ok (.if_icmp .ge 19, 3) := by decide +kernel
theorem dX3_peek_35 : decode cX3_peek 35 = .ok (.bipush 8, 2) := by decide +kernel
theorem dX3_peek_37 : decode cX3_peek 37 = .ok (.iload 4, 2) := by decide +kernel
theorem dX3_peek_39 : decode cX3_peek 39 = .ok (.imul, 1) := by decide +kernel
theorem dX3_peek_40 : decode cX3_peek 40 = .ok (.aload_n 0, 1) := by decide +kernel
theorem dX3_peek_41 : decode cX3_peek 41 = .ok (.getfield 204, 3) := by decide +kernel
theorem dX3_peek_44 : decode cX3_peek 44 = .ok (.if_icmp .ge 7, 3) := by decide +kernel
theorem dX3_peek_47 : decode cX3_peek 47 = .ok (.iconst 1, 1) := by decide +kernel
theorem dX3_peek_48 : decode cX3_peek 48 = .ok (.goto 4, 3) := by decide +kernel
theorem dX3_peek_51 : decode cX3_peek 51 = .ok (.iconst 0, 1) := by decide +kernel
theorem dX3_peek_52 : decode cX3_peek 52 = .ok (.istore 5, 2) := by decide +kernel
theorem dX3_peek_54 : decode cX3_peek 54 = .ok (.iload_n 3, 1) := by decide +kernel
theorem dX3_peek_55 : decode cX3_peek 55 = .ok (.bipush 8, 2) := by decide +kernel
theorem dX3_peek_57 : decode cX3_peek 57 = .ok (.ishl, 1) := by decide +kernel
theorem dX3_peek_58 : decode cX3_peek 58 = .ok (.iload 5, 2) := by decide +kernel
theorem dX3_peek_60 : decode cX3_peek 60 = .ok (.ifCond .eq 17, 3) := by decide +kernel
theorem dX3_peek_63 : decode cX3_peek 63 = .ok (.aload_n 0, 1) := by decide +kernel
theorem dX3_peek_64 : decode cX3_peek 64 = .ok (.getfield 19, 3) := by decide +kernel
theorem dX3_peek_67 : decode cX3_peek 67 = .ok (.iload 4, 2) := by decide +kernel
theorem dX3_peek_69 : decode cX3_peek 69 = .ok (.baload, 1) := by decide +kernel
theorem dX3_peek_70 : decode cX3_peek 70 = .ok (.sipush 255, 3) := by decide +kernel
theorem dX3_peek_73 : decode cX3_peek 73 = .ok (.iand, 1) := by decide +kernel
theorem dX3_peek_74 : decode cX3_peek 74 = .ok (.goto 4, 3) := by decide +kernel
theorem dX3_peek_77 : decode cX3_peek 77 = .ok (.iconst 0, 1) := by decide +kernel
theorem dX3_peek_78 : decode cX3_peek 78 = .ok (.ior, 1) := by decide +kernel
theorem dX3_peek_79 : decode cX3_peek 79 = .ok (.istore_n 3, 1) := by decide +kernel
theorem dX3_peek_80 : decode cX3_peek 80 = .ok (.iinc 4 1, 3) := by decide +kernel
theorem dX3_peek_83 : decode cX3_peek 83 = .ok (.goto (-71), 3) := by decide +kernel
theorem dX3_peek_86 : decode cX3_peek 86 = .ok (.iload_n 3, 1) := by decide +kernel
theorem dX3_peek_87 : decode cX3_peek 87 = .ok (.bipush 24, 2) := by decide +kernel
theorem dX3_peek_89 : decode cX3_peek 89 = .ok (.aload_n 0, 1) := by decide +kernel
theorem dX3_peek_90 : decode cX3_peek 90 = .ok (.getfield 198, 3) := by decide +kernel
theorem dX3_peek_93 : decode cX3_peek 93 = .ok (.bipush 7, 2) := by decide +kernel
theorem dX3_peek_95 : decode cX3_peek 95 = .ok (.iand, 1) := by decide +kernel
theorem dX3_peek_96 : decode cX3_peek 96 = .ok (.isub, 1) := by decide +kernel
theorem dX3_peek_97 : decode cX3_peek 97 = .ok (.iload_n 1, 1) := by decide +kernel
theorem dX3_peek_98 : decode cX3_peek 98 = .ok (.isub, 1) := by decide +kernel
theorem dX3_peek_99 : decode cX3_peek 99 = .ok (.ishr, 1) := by decide +kernel
theorem dX3_peek_100 : decode cX3_peek 100 = .ok (.iconst 1, 1) := by decide +kernel
theorem dX3_peek_101 : decode cX3_peek 101 = .ok (.iload_n 1, 1) := by decide +kernel
theorem dX3_peek_102 : decode cX3_peek 102 = .ok (.ishl, 1) := by decide +kernel
theorem dX3_peek_103 : decode cX3_peek 103 = .ok (.iconst 1, 1) := by decide +kernel
theorem dX3_peek_104 : decode cX3_peek 104 = .ok (.isub, 1) := by decide +kernel
theorem dX3_peek_105 : decode cX3_peek 105 = .ok (.iand, 1) := by decide +kernel
theorem dX3_peek_106 : decode cX3_peek 106 = .ok (.ireturn, 1) := by decide +kernel
noncomputable def f_X3_peek_52 (k12 : Int32 → Int32 → Int32 → Int32 → Mm → Option (Int32 × Mm)) (a1 : Int32) (a2 : Int32) (a3 : Int32) (a4 : Int32) (b0 : Int32) (T : Mm) : Option (Int32 × Mm) :=
  if b0 = 0 then (lb (((a3 <<< ((8 : Int32) &&& 31)) ||| 0)) fun v1 =>
  k12 a1 a2 v1 (a4 + 1) T)
  else (ix a4 12000 fun j2 =>
  lb (((a3 <<< ((8 : Int32) &&& 31)) ||| ((gA T 131 j2) &&& 255))) fun v4 =>
  k12 a1 a2 v4 (a4 + 1) T)
set_option maxRecDepth 100000 in
set_option maxHeartbeats 4000000 in
theorem s_X3_peek_52 {x : JX} {ad : Nat → Nat} {U : Mm} {S0 : Hp} {q : Int32 × Mm}  {k12 : Int32 → Int32 → Int32 → Int32 → Mm → Option (Int32 × Mm)} (hn9 : x_n x = 6) (C : CB x RX3 cX3_peek) (M : CMr x 1 (some .int) S0 ad true U eI q) (hk12 : ∀ (a1 : Int32) (a2 : Int32) (a3 : Int32) (a4 : Int32) (T : Mm), k12 a1 a2 a3 a4 T = some q → Jr x ad true U T [(0, .ref (ad 129)), (1, .int a1), (2, .int a2), (3, .int a3), (4, .int a4)] 12 []) (a1 : Int32) (a2 : Int32) (a3 : Int32) (a4 : Int32) (b0 : Int32) (T : Mm) (h : f_X3_peek_52 k12 a1 a2 a3 a4 b0 T = some q) : Jr x ad true U T [(0, .ref (ad 129)), (1, .int a1), (2, .int a2), (3, .int a3), (4, .int a4)] 52 [.int b0] := by
  unfold f_X3_peek_52 at h
  refine r_istore (lv' := [(5, .int b0), (0, .ref (ad 129)), (1, .int a1), (2, .int a2), (3, .int a3), (4, .int a4)]) C dX3_peek_52 (by rw [hn9]; decide) rfl ?_
  refine r_iload_n C dX3_peek_54 rfl 4 rfl ?_
  refine r_bipush (v := 8) C dX3_peek_55 (by decide) ?_
  refine r_ishl C dX3_peek_57 rfl ?_
  refine r_iload C dX3_peek_58 0 rfl ?_
  show Jr _ _ _ _ _ _ 60 _
  refine r_if_eq (tgt := 77) C dX3_peek_60 (by decide) h (fun h => ?_) (fun h => ?_)
  · refine r_iconst (v := 0) C dX3_peek_77 (by decide) ?_
    refine r_ior C dX3_peek_78 rfl ?_
    refine r_lbI h (fun v1 h => ?_)
    refine r_istore_n (lv' := [(3, .int v1), (5, .int b0), (0, .ref (ad 129)), (1, .int a1), (2, .int a2), (4, .int a4)]) C dX3_peek_79 rfl (by rw [hn9]; decide) rfl ?_
    refine r_iinc (q := 5) (v := (a4 + 1)) (lv' := [(4, .int (a4 + 1)), (3, .int v1), (5, .int b0), (0, .ref (ad 129)), (1, .int a1), (2, .int a2)]) C dX3_peek_80 rfl (by rw [show Int32.ofInt (1) = 1 by decide]) (by rw [hn9]; decide) rfl ?_
    refine r_goto (tgt := 12) C dX3_peek_83 (by decide) ?_
    refine Jr.sub [3, 4, 5, 1, 0] (lv' := [(0, .ref (ad 129)), (1, .int a1), (2, .int a2), (3, .int v1), (4, .int (a4 + 1))]) rfl ?_
    exact hk12 a1 a2 v1 (a4 + 1) T h
  · refine r_aload_n C dX3_peek_63 rfl 1 rfl ?_
    refine r_getp (f := 317) (j := 131) C flX3_19 dX3_peek_64 kq_129 (by decide) rfl (fun W => pt_317 kq_129 W) ?_
    refine r_iload C dX3_peek_67 5 rfl ?_
    refine r_bald (n := 12000) C dX3_peek_69 kq_131 lq_131 h (fun j2 hj3 h => ?_)
    refine r_sipush (v := 255) C dX3_peek_70 (by decide) ?_
    show Jr _ _ _ _ _ _ 73 _
    refine r_iand C dX3_peek_73 rfl ?_
    refine r_goto (tgt := 78) C dX3_peek_74 (by decide) ?_
    refine r_ior C dX3_peek_78 rfl ?_
    refine r_lbI h (fun v4 h => ?_)
    refine r_istore_n (lv' := [(3, .int v4), (5, .int b0), (0, .ref (ad 129)), (1, .int a1), (2, .int a2), (4, .int a4)]) C dX3_peek_79 rfl (by rw [hn9]; decide) rfl ?_
    refine r_iinc (q := 5) (v := (a4 + 1)) (lv' := [(4, .int (a4 + 1)), (3, .int v4), (5, .int b0), (0, .ref (ad 129)), (1, .int a1), (2, .int a2)]) C dX3_peek_80 rfl (by rw [show Int32.ofInt (1) = 1 by decide]) (by rw [hn9]; decide) rfl ?_
    refine r_goto (tgt := 12) C dX3_peek_83 (by decide) ?_
    refine Jr.sub [3, 4, 5, 1, 0] (lv' := [(0, .ref (ad 129)), (1, .int a1), (2, .int a2), (3, .int v4), (4, .int (a4 + 1))]) rfl ?_
    exact hk12 a1 a2 v4 (a4 + 1) T h
noncomputable def f_X3_peek_b12 (k12 : Int32 → Int32 → Int32 → Int32 → Mm → Option (Int32 × Mm)) (a1 : Int32) (a2 : Int32) (a3 : Int32) (a4 : Int32) (T : Mm) : Option (Int32 × Mm) :=
  if (a2 + 3) ≤ a4 then (some (((a3 >>> ((((24 : Int32) - ((gI T 318 129) &&& 7)) - a1) &&& 31)) &&& (((1 : Int32) <<< (a1 &&& 31)) - 1)), T))
  else (if a4 < 0 then (f_X3_peek_52 k12 a1 a2 a3 a4 0 T)
  else (if 12000 ≤ a4 then (f_X3_peek_52 k12 a1 a2 a3 a4 0 T)
  else (if (gI T 319 129) ≤ ((8 : Int32) * a4) then (f_X3_peek_52 k12 a1 a2 a3 a4 0 T)
  else (f_X3_peek_52 k12 a1 a2 a3 a4 1 T))))
set_option maxRecDepth 100000 in
set_option maxHeartbeats 4000000 in
theorem s_X3_peek_b12 {x : JX} {ad : Nat → Nat} {U : Mm} {S0 : Hp} {q : Int32 × Mm}  {k12 : Int32 → Int32 → Int32 → Int32 → Mm → Option (Int32 × Mm)} (hn9 : x_n x = 6) (C : CB x RX3 cX3_peek) (M : CMr x 1 (some .int) S0 ad true U eI q) (hk12 : ∀ (a1 : Int32) (a2 : Int32) (a3 : Int32) (a4 : Int32) (T : Mm), k12 a1 a2 a3 a4 T = some q → Jr x ad true U T [(0, .ref (ad 129)), (1, .int a1), (2, .int a2), (3, .int a3), (4, .int a4)] 12 []) (a1 : Int32) (a2 : Int32) (a3 : Int32) (a4 : Int32) (T : Mm) (h : f_X3_peek_b12 k12 a1 a2 a3 a4 T = some q) : Jr x ad true U T [(0, .ref (ad 129)), (1, .int a1), (2, .int a2), (3, .int a3), (4, .int a4)] 12 [] := by
  unfold f_X3_peek_b12 at h
  refine r_iload C dX3_peek_12 4 rfl ?_
  refine r_iload_n C dX3_peek_14 rfl 2 rfl ?_
  refine r_iconst (v := 3) C dX3_peek_15 (by decide) ?_
  refine r_iadd C dX3_peek_16 rfl ?_
  refine r_ic_ge (tgt := 86) C dX3_peek_17 (by decide) h (fun h => ?_) (fun h => ?_)
  · refine r_iload_n C dX3_peek_86 rfl 3 rfl ?_
    refine r_bipush (v := 24) C dX3_peek_87 (by decide) ?_
    refine r_aload_n C dX3_peek_89 rfl 0 rfl ?_
    refine r_geti (f := 318) C flX3_198 dX3_peek_90 kq_129 (by decide) (by decide) rfl ?_
    refine r_bipush (v := 7) C dX3_peek_93 (by decide) ?_
    show Jr _ _ _ _ _ _ 95 _
    refine r_iand C dX3_peek_95 rfl ?_
    refine r_isub C dX3_peek_96 rfl ?_
    refine r_iload_n C dX3_peek_97 rfl 1 rfl ?_
    refine r_isub C dX3_peek_98 rfl ?_
    refine r_ishr C dX3_peek_99 rfl ?_
    refine r_iconst (v := 1) C dX3_peek_100 (by decide) ?_
    show Jr _ _ _ _ _ _ 101 _
    refine r_iload_n C dX3_peek_101 rfl 1 rfl ?_
    refine r_ishl C dX3_peek_102 rfl ?_
    refine r_iconst (v := 1) C dX3_peek_103 (by decide) ?_
    refine r_isub C dX3_peek_104 rfl ?_
    refine r_iand C dX3_peek_105 rfl ?_
    exact r_iret C M dX3_peek_106 h
  · refine r_iload C dX3_peek_20 4 rfl ?_
    refine r_if_lt (tgt := 51) C dX3_peek_22 (by decide) h (fun h => ?_) (fun h => ?_)
    · refine r_iconst (v := 0) C dX3_peek_51 (by decide) ?_
      exact s_X3_peek_52 hn9 C M hk12 a1 a2 a3 a4 0 T h
    · refine r_iload C dX3_peek_25 4 rfl ?_
      refine r_aload_n C dX3_peek_27 rfl 0 rfl ?_
      refine r_getp (f := 317) (j := 131) C flX3_19 dX3_peek_28 kq_129 (by decide) rfl (fun W => pt_317 kq_129 W) ?_
      refine r_alen (n := 0) (v := 12000) C dX3_peek_31 kq_131 (by decide) (by decide) (congrArg Int32.ofNat lq_131) ?_
      refine r_ic_ge (tgt := 51) C dX3_peek_32 (by decide) h (fun h => ?_) (fun h => ?_)
      · refine r_iconst (v := 0) C dX3_peek_51 (by decide) ?_
        exact s_X3_peek_52 hn9 C M hk12 a1 a2 a3 a4 0 T h
      · refine r_bipush (v := 8) C dX3_peek_35 (by decide) ?_
        refine r_iload C dX3_peek_37 4 rfl ?_
        refine r_imul C dX3_peek_39 rfl ?_
        refine r_aload_n C dX3_peek_40 rfl 0 rfl ?_
        refine r_geti (f := 319) C flX3_204 dX3_peek_41 kq_129 (by decide) (by decide) rfl ?_
        show Jr _ _ _ _ _ _ 44 _
        refine r_ic_ge (tgt := 51) C dX3_peek_44 (by decide) h (fun h => ?_) (fun h => ?_)
        · refine r_iconst (v := 0) C dX3_peek_51 (by decide) ?_
          exact s_X3_peek_52 hn9 C M hk12 a1 a2 a3 a4 0 T h
        · refine r_iconst (v := 1) C dX3_peek_47 (by decide) ?_
          refine r_goto (tgt := 52) C dX3_peek_48 (by decide) ?_
          exact s_X3_peek_52 hn9 C M hk12 a1 a2 a3 a4 1 T h
noncomputable def f_X3_peek_l12 (n : Nat) : Int32 → Int32 → Int32 → Int32 → Mm → Option (Int32 × Mm) := Nat.rec (fun _ _ _ _ _ => none) (fun _ ih => f_X3_peek_b12 ih) n
theorem s_X3_peek_l12 {x : JX} {ad : Nat → Nat} {U : Mm} {S0 : Hp} {q : Int32 × Mm}  (hn9 : x_n x = 6) (C : CB x RX3 cX3_peek) (M : CMr x 1 (some .int) S0 ad true U eI q) : ∀ (n : Nat), ∀ (a1 : Int32) (a2 : Int32) (a3 : Int32) (a4 : Int32) (T : Mm), f_X3_peek_l12  n a1 a2 a3 a4 T = some q → Jr x ad true U T [(0, .ref (ad 129)), (1, .int a1), (2, .int a2), (3, .int a3), (4, .int a4)] 12 [] := by
  intro n
  induction n with
  | zero => intro a1 a2 a3 a4 T  h; exact absurd h (by intro h; cases h)
  | succ n ih => exact fun a1 a2 a3 a4 T  h => s_X3_peek_b12 hn9 C M (ih) a1 a2 a3 a4 T  h
noncomputable def f_X3_peek (p1 : Int32) (T : Mm) : Option (Int32 × Mm) :=
  lb (((gI T 318 129) >>> ((3 : Int32) &&& 31))) fun v1 =>
  f_X3_peek_l12 FU p1 v1 0 v1 T
set_option maxRecDepth 100000 in
set_option maxHeartbeats 4000000 in
theorem s_X3_peek {ad : Nat → Nat} {U T : Mm} {q : Int32 × Mm}  (p1 : Int32) (h : f_X3_peek p1 T = some q) : Cr 1 yX3_peek cX3_peek 6 (some .int) [.ref (ad 129), .int p1] ad true U T eI q := by
  refine cr_of (by decide) (Nat.le_of_ble_eq_true rfl) fun x S0 hn9 C M => ?_
  have C : CB x RX3 cX3_peek := C
  refine Jr.eq (lv' := [(0, .ref (ad 129)), (1, .int p1)]) (st' := []) rfl rfl ?_
  unfold f_X3_peek at h
  refine r_aload_n C dX3_peek_0 rfl 0 rfl ?_
  refine r_geti (f := 318) C flX3_198 dX3_peek_1 kq_129 (by decide) (by decide) rfl ?_
  refine r_iconst (v := 3) C dX3_peek_4 (by decide) ?_
  refine r_ishr C dX3_peek_5 rfl ?_
  refine r_lbI h (fun v1 h => ?_)
  refine r_istore_n (lv' := [(2, .int v1), (0, .ref (ad 129)), (1, .int p1)]) C dX3_peek_6 rfl (by rw [hn9]; decide) rfl ?_
  show Jr _ _ _ _ _ _ 7 _
  refine r_iconst (v := 0) C dX3_peek_7 (by decide) ?_
  refine r_istore_n (lv' := [(3, .int 0), (2, .int v1), (0, .ref (ad 129)), (1, .int p1)]) C dX3_peek_8 rfl (by rw [hn9]; decide) rfl ?_
  refine r_iload_n C dX3_peek_9 rfl 1 rfl ?_
  refine r_istore (lv' := [(4, .int v1), (3, .int 0), (2, .int v1), (0, .ref (ad 129)), (1, .int p1)]) C dX3_peek_10 (by rw [hn9]; decide) rfl ?_
  refine Jr.sub [3, 4, 2, 1, 0] (lv' := [(0, .ref (ad 129)), (1, .int p1), (2, .int v1), (3, .int 0), (4, .int v1)]) rfl ?_
  exact s_X3_peek_l12 hn9 C M  FU p1 v1 0 v1 T h
theorem dX3_skipBits_0 : decode cX3_skipBits 0 = .ok (.aload_n 0, 1) := by decide +kernel
theorem dX3_skipBits_1 : decode cX3_skipBits 1 = .ok (.dup, 1) := by decide +kernel
theorem dX3_skipBits_2 : decode cX3_skipBits 2 = .ok (.getfield 198, 3) := by decide +kernel
theorem dX3_skipBits_5 : decode cX3_skipBits 5 = .ok (.iload_n 1, 1) := by decide +kernel
theorem dX3_skipBits_6 : decode cX3_skipBits 6 = .ok (.iadd, 1) := by decide +kernel
theorem dX3_skipBits_7 : decode cX3_skipBits 7 = .ok (.putfield 198, 3) := by decide +kernel
theorem dX3_skipBits_10 : decode cX3_skipBits 10 = .ok (.aload_n 0, 1) := by decide +kernel
theorem dX3_skipBits_11 : decode cX3_skipBits 11 = .ok (.getfield 198, 3) := by decide +kernel
theorem dX3_skipBits_14 : decode cX3_skipBits 14 = .ok (.aload_n 0, 1) := by decide +kernel
theorem dX3_skipBits_15 : decode cX3_skipBits 15 = .ok (.getfield 204, 3) := by decide +kernel
theorem dX3_skipBits_18 : decode cX3_skipBits 18 = .ok (.if_icmp .gt 7, 3) := by decide +kernel
theorem dX3_skipBits_21 : decode cX3_skipBits 21 = .ok (.iconst 1, 1) := by decide +kernel
theorem dX3_skipBits_22 : decode cX3_skipBits 22 = .ok (.goto 4, 3) := by decide +kernel
theorem dX3_skipBits_25 : decode cX3_skipBits 25 = .ok (.iconst 0, 1) := by decide +kernel
theorem dX3_skipBits_26 : decode cX3_skipBits 26 = .ok (.ireturn, 1) := by decide +kernel
noncomputable def f_X3_skipBits (p1 : Int32) (T : Mm) : Option (Int32 × Mm) :=
  lb (uI T 318 129 ((gI T 318 129) + p1)) fun T1 =>
  if (gI T1 319 129) < (gI T1 318 129) then (some (0, T1))
  else (some (1, T1))
set_option maxRecDepth 100000 in
set_option maxHeartbeats 4000000 in
theorem s_X3_skipBits {ad : Nat → Nat} {U T : Mm} {q : Int32 × Mm}  (p1 : Int32) (h : f_X3_skipBits p1 T = some q) : Cr 1 yX3_skipBits cX3_skipBits 2 (some .boolean) [.ref (ad 129), .int p1] ad true U T eI q := by
  refine cr_of (by decide) (Nat.le_of_ble_eq_true rfl) fun x S0 hn9 C M => ?_
  have C : CB x RX3 cX3_skipBits := C
  refine Jr.eq (lv' := [(0, .ref (ad 129)), (1, .int p1)]) (st' := []) rfl rfl ?_
  unfold f_X3_skipBits at h
  refine r_aload_n C dX3_skipBits_0 rfl 0 rfl ?_
  refine r_dup C dX3_skipBits_1 rfl ?_
  refine r_geti (f := 318) C flX3_198 dX3_skipBits_2 kq_129 (by decide) (by decide) rfl ?_
  refine r_iload_n C dX3_skipBits_5 rfl 1 rfl ?_
  refine r_iadd C dX3_skipBits_6 rfl ?_
  show Jr _ _ _ _ _ _ 7 _
  refine r_puti (f := 318) C flX3_198 (by decide) rfl rfl dX3_skipBits_7 kq_129 rfl h (fun T1 h => ?_)
  refine r_aload_n C dX3_skipBits_10 rfl 0 rfl ?_
  refine r_geti (f := 318) C flX3_198 dX3_skipBits_11 kq_129 (by decide) (by decide) rfl ?_
  refine r_aload_n C dX3_skipBits_14 rfl 0 rfl ?_
  refine r_geti (f := 319) C flX3_204 dX3_skipBits_15 kq_129 (by decide) (by decide) rfl ?_
  refine r_ic_gt (tgt := 25) C dX3_skipBits_18 (by decide) h (fun h => ?_) (fun h => ?_)
  · refine r_iconst (v := 0) C dX3_skipBits_25 (by decide) ?_
    exact r_zret C M dX3_skipBits_26 (by decide) h
  · refine r_iconst (v := 1) C dX3_skipBits_21 (by decide) ?_
    refine r_goto (tgt := 26) C dX3_skipBits_22 (by decide) ?_
    exact r_zret C M dX3_skipBits_26 (by decide) h
theorem dX3_readMode_0 : decode cX3_readMode 0 = .ok (.aload_n 0, 1) := by decide +kernel
theorem dX3_readMode_1 : decode cX3_readMode 1 = .ok (.bipush 7, 2) := by decide +kernel
theorem dX3_readMode_3 : decode cX3_readMode 3 = .ok (.invokevirtual 207, 3) := by decide +kernel
theorem dX3_readMode_6 : decode cX3_readMode 6 = .ok (.istore_n 1, 1) := by decide +kernel
theorem dX3_readMode_7 : decode cX3_readMode 7 = .ok (.iload_n 1, 1) := by decide +kernel
theorem dX3_readMode_8 : decode cX3_readMode 8 = .ok (.iconst 3, 1) := by decide +kernel
theorem dX3_readMode_9 : decode cX3_readMode 9 = .ok (.ishr, 1) := by decide +kernel
theorem dX3_readMode_10 : decode cX3_readMode 10 = .ok (.iconst 1, 1) := by decide +kernel
theorem dX3_readMode_11 : decode cX3_readMode 11 = .ok (.if_icmp .ne 19, 3) := by decide +kernel
theorem dX3_readMode_14 : decode cX3_readMode 14 = .ok (.aload_n 0, 1) := by decide +kernel
theorem dX3_readMode_15 : decode cX3_readMode 15 = .ok (.iconst 4, 1) := by decide +kernel
theorem dX3_readMode_16 : decode cX3_readMode 16 = .ok (.invokevirtual 211, 3) := by decide +kernel
theorem dX3_readMode_19 : decode cX3_readMode 19 = .ok (.ifCond .eq 8, 3) := by decide +kernel
theorem dX3_readMode_22 : decode cX3_readMode 22 = .ok (.bipush 8, 2) := by decide +kernel
theorem dX3_readMode_24 : decode cX3_readMode 24 = .ok (.goto 5, 3) := by decide +kernel
theorem dX3_readMode_27 : decode cX3_readMode 27 = .ok (.bipush 10, 2) := by decide +kernel
theorem dX3_readMode_29 : decode cX3_readMode 29 = .ok (.ireturn, 1) := by decide +kernel
theorem dX3_readMode_30 : decode cX3_readMode 30 = .ok (.iload_n 1, 1) := by decide +kernel
theorem dX3_readMode_31 : decode cX3_readMode 31 = .ok (.iconst 4, 1) := by decide +kernel
theorem dX3_readMode_32 : decode cX3_readMode 32 = .ok (.ishr, 1) := by decide +kernel
theorem dX3_readMode_33 : decode cX3_readMode 33 = .ok (.iconst 1, 1) := by decide +kernel
theorem dX3_readMode_34 : decode cX3_readMode 34 = .ok (.if_icmp .ne 19, 3) := by decide +kernel
theorem dX3_readMode_37 : decode cX3_readMode 37 = .ok (.aload_n 0, 1) := by decide +kernel
theorem dX3_readMode_38 : decode cX3_readMode 38 = .ok (.iconst 3, 1) := by decide +kernel
theorem dX3_readMode_39 : decode cX3_readMode 39 = .ok (.invokevirtual 211, 3) := by decide +kernel
theorem dX3_readMode_42 : decode cX3_readMode 42 = .ok (.ifCond .eq 8, 3) := by decide +kernel
theorem dX3_readMode_45 : decode cX3_readMode 45 = .ok (.bipush 9, 2) := by decide +kernel
theorem dX3_readMode_47 : decode cX3_readMode 47 = .ok (.goto 5, 3) := by decide +kernel
theorem dX3_readMode_50 : decode cX3_readMode 50 = .ok (.bipush 10, 2) := by decide +kernel
theorem dX3_readMode_52 : decode cX3_readMode 52 = .ok (.ireturn, 1) := by decide +kernel
theorem dX3_readMode_53 : decode cX3_readMode 53 = .ok (.iconst 0, 1) := by decide +kernel
theorem dX3_readMode_54 : decode cX3_readMode 54 = .ok (.istore_n 2, 1) := by decide +kernel
theorem dX3_readMode_55 : decode cX3_readMode 55 = .ok (.iload_n 2, 1) := by decide +kernel
theorem dX3_readMode_56 : decode cX3_readMode 56 = .ok (.getstatic 214, 3) := by decide +kernel
theorem dX3_readMode_59 : decode cX3_readMode 59 = .ok (.arraylength, 1) := by decide +kernel
theorem dX3_readMode_60 : decode cX3_readMode 60 = .ok (.if_icmp .ge 56, 3) := by decide +kernel
theorem dX3_readMode_63 : decode cX3_readMode 63 = .ok (.iload_n 2, 1) := by decide +kernel
theorem dX3_readMode_64 : decode cX3_readMode 64 = .ok (.getstatic 217, 3) := by decide +kernel
theorem dX3_readMode_67 : decode cX3_readMode 67 = .ok (.arraylength, 1) := by decide +kernel
theorem dX3_readMode_68 : decode cX3_readMode 68 = .ok (.if_icmp .ge 48, 3) := by decide +kernel
theorem dX3_readMode_71 : decode cX3_readMode 71 = .ok (.iload_n 1, 1) := by decide +kernel
theorem dX3_readMode_72 : decode cX3_readMode 72 = .ok (.bipush 7, 2) := by decide +kernel
theorem dX3_readMode_74 : decode cX3_readMode 74 = .ok (.getstatic 217, 3) := by decide +kernel
theorem dX3_readMode_77 : decode cX3_readMode 77 = .ok (.iload_n 2, 1) := by decide +kernel
theorem dX3_readMode_78 : decode cX3_readMode 78 = .ok (.iaload, 1) := by decide +kernel
theorem dX3_readMode_79 : decode cX3_readMode 79 = .ok (.isub, 1) := by decide +kernel
theorem dX3_readMode_80 : decode cX3_readMode 80 = .ok (.ishr, 1) := by decide +kernel
theorem dX3_readMode_81 : decode cX3_readMode 81 = .ok (.getstatic 214, 3) := by decide +kernel
theorem dX3_readMode_84 : decode cX3_readMode 84 = .ok (.iload_n 2, 1) := by decide +kernel
theorem dX3_readMode_85 : decode cX3_readMode 85 = .ok (.iaload, 1) := by decide +kernel
theorem dX3_readMode_86 : decode cX3_readMode 86 = .ok (.if_icmp .ne 24, 3) := by decide +kernel
theorem dX3_readMode_89 : decode cX3_readMode 89 = .ok (.aload_n 0, 1) := by decide +kernel
theorem dX3_readMode_90 : decode cX3_readMode 90 = .ok (.getstatic 217, 3) := by decide +kernel
theorem dX3_readMode_93 : decode cX3_readMode 93 = .ok (.iload_n 2, 1) := by decide +kernel
theorem dX3_readMode_94 : decode cX3_readMode 94 = .ok (.iaload, 1) := by decide +kernel
theorem dX3_readMode_95 : decode cX3_readMode 95 = .ok (.invokevirtual 211, 3) := by decide +kernel
theorem dX3_readMode_98 : decode cX3_readMode 98 = .ok (.ifCond .eq 9, 3) := by decide +kernel
theorem dX3_readMode_101 : decode cX3_readMode 101 = .ok (.iload_n 2, 1) := by decide +kernel
theorem dX3_readMode_102 : decode cX3_readMode 102 = .ok (.iconst 3, 1) := by decide +kernel
theorem dX3_readMode_103 : decode cX3_readMode 103 = .ok (.isub, 1) := by decide +kernel
theorem dX3_readMode_104 : decode cX3_readMode 104 = .ok (.goto 5, 3) := by decide +kernel
theorem dX3_readMode_107 : decode cX3_readMode 107 = .ok (.bipush 10, 2) := by decide +kernel
theorem dX3_readMode_109 : decode cX3_readMode 109 = .ok (.ireturn, 1) := by decide +kernel
theorem dX3_readMode_110 : decode cX3_readMode 110 = .ok (.iinc 2 1, 3) := by decide +kernel
theorem dX3_readMode_113 : decode cX3_readMode 113 = .ok (.goto (-58), 3) := by decide +kernel
theorem dX3_readMode_116 : decode cX3_readMode 116 = .ok (.bipush 10, 2) := by decide +kernel
theorem dX3_readMode_118 : decode cX3_readMode 118 = .ok (.ireturn, 1) := by decide +kernel
noncomputable def f_X3_readMode_b55 (k55 : Int32 → Int32 → Mm → Option (Int32 × Mm)) (a1 : Int32) (a2 : Int32) (T : Mm) : Option (Int32 × Mm) :=
  if 7 ≤ a2 then (some (10, T))
  else (if 7 ≤ a2 then (some (10, T))
  else (ix a2 7 fun j1 =>
  ix a2 7 fun j3 =>
  if (a1 >>> (((7 : Int32) - (st_NEAR_BITS.getD j1 0)) &&& 31)) = (st_NEAR_CODES.getD j3 0) then (ix a2 7 fun j5 =>
  bd (f_X3_skipBits (st_NEAR_BITS.getD j5 0) T) fun v7 T8 =>
  if v7 = 0 then (some (10, T8))
  else (some ((a2 - 3), T8)))
  else (k55 a1 (a2 + 1) T)))
set_option maxRecDepth 100000 in
set_option maxHeartbeats 4000000 in
theorem s_X3_readMode_b55 {x : JX} {ad : Nat → Nat} {U : Mm} {S0 : Hp} {q : Int32 × Mm}  {k55 : Int32 → Int32 → Mm → Option (Int32 × Mm)} (hn9 : x_n x = 3) (C : CB x RX3 cX3_readMode) (M : CMr x 2 (some .int) S0 ad true U eI q) (hk55 : ∀ (a1 : Int32) (a2 : Int32) (T : Mm), k55 a1 a2 T = some q → Jr x ad true U T [(0, .ref (ad 129)), (1, .int a1), (2, .int a2)] 55 []) (a1 : Int32) (a2 : Int32) (T : Mm) (h : f_X3_readMode_b55 k55 a1 a2 T = some q) : Jr x ad true U T [(0, .ref (ad 129)), (1, .int a1), (2, .int a2)] 55 [] := by
  unfold f_X3_readMode_b55 at h
  refine r_iload_n C dX3_readMode_55 rfl 2 rfl ?_
  refine r_gets C 5 rfl (Or.inr ⟨_, gsX3_214⟩) dX3_readMode_56 ?_
  refine r_stlen (v := 7) C 5 rfl dX3_readMode_59 (by decide) ?_
  refine r_ic_ge (tgt := 116) C dX3_readMode_60 (by decide) h (fun h => ?_) (fun h => ?_)
  · refine r_bipush (v := 10) C dX3_readMode_116 (by decide) ?_
    exact r_iret C M dX3_readMode_118 h
  · refine r_iload_n C dX3_readMode_63 rfl 2 rfl ?_
    refine r_gets C 4 rfl (Or.inr ⟨_, gsX3_217⟩) dX3_readMode_64 ?_
    refine r_stlen (v := 7) C 4 rfl dX3_readMode_67 (by decide) ?_
    refine r_ic_ge (tgt := 116) C dX3_readMode_68 (by decide) h (fun h => ?_) (fun h => ?_)
    · refine r_bipush (v := 10) C dX3_readMode_116 (by decide) ?_
      exact r_iret C M dX3_readMode_118 h
    · refine r_iload_n C dX3_readMode_71 rfl 1 rfl ?_
      refine r_bipush (v := 7) C dX3_readMode_72 (by decide) ?_
      refine r_gets C 4 rfl (Or.inr ⟨_, gsX3_217⟩) dX3_readMode_74 ?_
      refine r_iload_n C dX3_readMode_77 rfl 2 rfl ?_
      refine r_stld C 4 rfl (n := 7) rfl dX3_readMode_78 h (fun j1 hj2 h => ?_)
      show Jr _ _ _ _ _ _ 79 _
      refine r_isub C dX3_readMode_79 rfl ?_
      refine r_ishr C dX3_readMode_80 rfl ?_
      refine r_gets C 5 rfl (Or.inr ⟨_, gsX3_214⟩) dX3_readMode_81 ?_
      refine r_iload_n C dX3_readMode_84 rfl 2 rfl ?_
      refine r_stld C 5 rfl (n := 7) rfl dX3_readMode_85 h (fun j3 hj4 h => ?_)
      refine r_ic_ne (tgt := 110) C dX3_readMode_86 (by decide) h (fun h => ?_) (fun h => ?_)
      · refine r_iinc (q := 2) (v := (a2 + 1)) (lv' := [(2, .int (a2 + 1)), (0, .ref (ad 129)), (1, .int a1)]) C dX3_readMode_110 rfl (by rw [show Int32.ofInt (1) = 1 by decide]) (by rw [hn9]; decide) rfl ?_
        refine r_goto (tgt := 55) C dX3_readMode_113 (by decide) ?_
        refine Jr.sub [1, 2, 0] (lv' := [(0, .ref (ad 129)), (1, .int a1), (2, .int (a2 + 1))]) rfl ?_
        exact hk55 a1 (a2 + 1) T h
      · refine r_aload_n C dX3_readMode_89 rfl 0 rfl ?_
        refine r_gets C 4 rfl (Or.inr ⟨_, gsX3_217⟩) dX3_readMode_90 ?_
        refine r_iload_n C dX3_readMode_93 rfl 2 rfl ?_
        refine r_stld C 4 rfl (n := 7) rfl dX3_readMode_94 h (fun j5 hj6 h => ?_)
        refine r_callVI C M h [.int (st_NEAR_BITS.getD j5 0)] [] mlX3_211 mcX3_skipBits (fun q9 e9 => s_X3_skipBits (st_NEAR_BITS.getD j5 0)  e9) kq_129 rfl (by decide) (by decide) rfl rfl (Nat.le_of_ble_eq_true rfl) dX3_readMode_95 (fun v7 T8 h => ?_)
        show Jr _ _ _ _ _ _ 98 _
        refine r_if_eq (tgt := 107) C dX3_readMode_98 (by decide) h (fun h => ?_) (fun h => ?_)
        · refine r_bipush (v := 10) C dX3_readMode_107 (by decide) ?_
          exact r_iret C M dX3_readMode_109 h
        · refine r_iload_n C dX3_readMode_101 rfl 2 rfl ?_
          refine r_iconst (v := 3) C dX3_readMode_102 (by decide) ?_
          refine r_isub C dX3_readMode_103 rfl ?_
          refine r_goto (tgt := 109) C dX3_readMode_104 (by decide) ?_
          exact r_iret C M dX3_readMode_109 h
noncomputable def f_X3_readMode_l55 (n : Nat) : Int32 → Int32 → Mm → Option (Int32 × Mm) := Nat.rec (fun _ _ _ => none) (fun _ ih => f_X3_readMode_b55 ih) n
theorem s_X3_readMode_l55 {x : JX} {ad : Nat → Nat} {U : Mm} {S0 : Hp} {q : Int32 × Mm}  (hn9 : x_n x = 3) (C : CB x RX3 cX3_readMode) (M : CMr x 2 (some .int) S0 ad true U eI q) : ∀ (n : Nat), ∀ (a1 : Int32) (a2 : Int32) (T : Mm), f_X3_readMode_l55  n a1 a2 T = some q → Jr x ad true U T [(0, .ref (ad 129)), (1, .int a1), (2, .int a2)] 55 [] := by
  intro n
  induction n with
  | zero => intro a1 a2 T  h; exact absurd h (by intro h; cases h)
  | succ n ih => exact fun a1 a2 T  h => s_X3_readMode_b55 hn9 C M (ih) a1 a2 T  h
noncomputable def f_X3_readMode (T : Mm) : Option (Int32 × Mm) :=
  bd (f_X3_peek 7 T) fun v1 T2 =>
  if (v1 >>> ((3 : Int32) &&& 31)) = 1 then (bd (f_X3_skipBits 4 T2) fun v5 T6 =>
  if v5 = 0 then (some (10, T6))
  else (some (8, T6)))
  else (if (v1 >>> ((4 : Int32) &&& 31)) = 1 then (bd (f_X3_skipBits 3 T2) fun v3 T4 =>
  if v3 = 0 then (some (10, T4))
  else (some (9, T4)))
  else (f_X3_readMode_l55 FU v1 0 T2))
set_option maxRecDepth 100000 in
set_option maxHeartbeats 4000000 in
theorem s_X3_readMode {ad : Nat → Nat} {U T : Mm} {q : Int32 × Mm}  (h : f_X3_readMode  T = some q) : Cr 2 yX3_readMode cX3_readMode 3 (some .int) [.ref (ad 129)] ad true U T eI q := by
  refine cr_of (by decide) (Nat.le_of_ble_eq_true rfl) fun x S0 hn9 C M => ?_
  have C : CB x RX3 cX3_readMode := C
  refine Jr.eq (lv' := [(0, .ref (ad 129))]) (st' := []) rfl rfl ?_
  unfold f_X3_readMode at h
  refine r_aload_n C dX3_readMode_0 rfl 0 rfl ?_
  refine r_bipush (v := 7) C dX3_readMode_1 (by decide) ?_
  refine r_callVI C M h [.int 7] [] mlX3_207 mcX3_peek (fun q9 e9 => s_X3_peek 7  e9) kq_129 rfl (by decide) (by decide) rfl rfl (Nat.le_of_ble_eq_true rfl) dX3_readMode_3 (fun v1 T2 h => ?_)
  refine r_istore_n (lv' := [(1, .int v1), (0, .ref (ad 129))]) C dX3_readMode_6 rfl (by rw [hn9]; decide) rfl ?_
  refine r_iload_n C dX3_readMode_7 rfl 0 rfl ?_
  show Jr _ _ _ _ _ _ 8 _
  refine r_iconst (v := 3) C dX3_readMode_8 (by decide) ?_
  refine r_ishr C dX3_readMode_9 rfl ?_
  refine r_iconst (v := 1) C dX3_readMode_10 (by decide) ?_
  refine r_ic_ne (tgt := 30) C dX3_readMode_11 (by decide) h (fun h => ?_) (fun h => ?_)
  · refine r_iload_n C dX3_readMode_30 rfl 0 rfl ?_
    refine r_iconst (v := 4) C dX3_readMode_31 (by decide) ?_
    refine r_ishr C dX3_readMode_32 rfl ?_
    refine r_iconst (v := 1) C dX3_readMode_33 (by decide) ?_
    refine r_ic_ne (tgt := 53) C dX3_readMode_34 (by decide) h (fun h => ?_) (fun h => ?_)
    · refine r_iconst (v := 0) C dX3_readMode_53 (by decide) ?_
      refine r_istore_n (lv' := [(2, .int 0), (1, .int v1), (0, .ref (ad 129))]) C dX3_readMode_54 rfl (by rw [hn9]; decide) rfl ?_
      refine Jr.sub [2, 1, 0] (lv' := [(0, .ref (ad 129)), (1, .int v1), (2, .int 0)]) rfl ?_
      exact s_X3_readMode_l55 hn9 C M  FU v1 0 T2 h
    · refine r_aload_n C dX3_readMode_37 rfl 1 rfl ?_
      refine r_iconst (v := 3) C dX3_readMode_38 (by decide) ?_
      refine r_callVI C M h [.int 3] [] mlX3_211 mcX3_skipBits (fun q9 e9 => s_X3_skipBits 3  e9) kq_129 rfl (by decide) (by decide) rfl rfl (Nat.le_of_ble_eq_true rfl) dX3_readMode_39 (fun v3 T4 h => ?_)
      refine r_if_eq (tgt := 50) C dX3_readMode_42 (by decide) h (fun h => ?_) (fun h => ?_)
      · refine r_bipush (v := 10) C dX3_readMode_50 (by decide) ?_
        exact r_iret C M dX3_readMode_52 h
      · refine r_bipush (v := 9) C dX3_readMode_45 (by decide) ?_
        refine r_goto (tgt := 52) C dX3_readMode_47 (by decide) ?_
        exact r_iret C M dX3_readMode_52 h
  · refine r_aload_n C dX3_readMode_14 rfl 1 rfl ?_
    refine r_iconst (v := 4) C dX3_readMode_15 (by decide) ?_
    refine r_callVI C M h [.int 4] [] mlX3_211 mcX3_skipBits (fun q9 e9 => s_X3_skipBits 4  e9) kq_129 rfl (by decide) (by decide) rfl rfl (Nat.le_of_ble_eq_true rfl) dX3_readMode_16 (fun v5 T6 h => ?_)
    refine r_if_eq (tgt := 27) C dX3_readMode_19 (by decide) h (fun h => ?_) (fun h => ?_)
    · refine r_bipush (v := 10) C dX3_readMode_27 (by decide) ?_
      exact r_iret C M dX3_readMode_29 h
    · refine r_bipush (v := 8) C dX3_readMode_22 (by decide) ?_
      refine r_goto (tgt := 29) C dX3_readMode_24 (by decide) ?_
      exact r_iret C M dX3_readMode_29 h
theorem dX3_readRun_0 : decode cX3_readRun 0 = .ok (.iconst 0, 1) := by decide +kernel
theorem dX3_readRun_1 : decode cX3_readRun 1 = .ok (.istore_n 2, 1) := by decide +kernel
theorem dX3_readRun_2 : decode cX3_readRun 2 = .ok (.iconst 0, 1) := by decide +kernel
theorem dX3_readRun_3 : decode cX3_readRun 3 = .ok (.istore_n 3, 1) := by decide +kernel
theorem dX3_readRun_4 : decode cX3_readRun 4 = .ok (.iload_n 3, 1) := by decide +kernel
theorem dX3_readRun_5 : decode cX3_readRun 5 = .ok (.iconst 2, 1) := by decide +kernel
theorem dX3_readRun_6 : decode cX3_readRun 6 = .ok (.if_icmp .ge 113, 3) := by decide +kernel
theorem dX3_readRun_9 : decode cX3_readRun 9 = .ok (.iload_n 1, 1) := by decide +kernel
theorem dX3_readRun_10 : decode cX3_readRun 10 = .ok (.bipush 13, 2) := by decide +kernel
theorem dX3_readRun_12 : decode cX3_readRun 12 = .ok (.ishl, 1) := by decide +kernel
theorem dX3_readRun_13 : decode cX3_readRun 13 = .ok (.aload_n 0, 1) := by decide +kernel
theorem dX3_readRun_14 : decode cX3_readRun 14 = .ok (.bipush 13, 2) := by decide +kernel
theorem dX3_readRun_16 : decode cX3_readRun 16 = .ok (.invokevirtual 207, 3) := by decide +kernel
theorem dX3_readRun_19 : decode cX3_readRun 19 = .ok (.iadd, 1) := by decide +kernel
theorem dX3_readRun_20 : decode cX3_readRun 20 = .ok (.istore 4, 2) := by decide +kernel
theorem dX3_readRun_22 : decode cX3_readRun 22 = .ok (.iload 4, 2) := by decide +kernel
theorem dX3_readRun_24 : decode cX3_readRun 24 = .ok (.ifCond .lt 25, 3) := by decide +kernel
theorem dX3_readRun_27 : decode cX3_readRun 27 = .ok (.iload 4, 2) := by decide +kernel
theorem dX3_readRun_29 : decode cX3_readRun 29 = .ok (.aload_n 0, 1) := by decide +kernel
theorem dX3_readRun_30 : decode cX3_readRun 30 = .ok (.getfield 22, 3) := by decide +kernel
theorem dX3_readRun_33 : decode cX3_readRun 33 = .ok (.arraylength, 1) := by decide +kernel
theorem dX3_readRun_34 : decode cX3_readRun 34 = .ok (.if_icmp .ge 15, 3) := by decide +kernel
theorem dX3_readRun_37 : decode cX3_readRun 37 = .ok (.aload_n 0, 1) := by decide +kernel
theorem dX3_readRun_38 : decode cX3_readRun 38 = .ok (.getfield 22, 3) := by decide +kernel
theorem dX3_readRun_41 : decode cX3_readRun 41 = .ok (.iload 4, 2) := by decide +kernel
theorem dX3_readRun_43 : decode cX3_readRun 43 = .ok (.saload, 1) := by decide +kernel
theorem dX3_readRun_44 : decode cX3_readRun 44 = .ok (.iconst 1, 1) := by decide +kernel
theorem dX3_readRun_45 : decode cX3_readRun 45 = .ok (.isub, 1) := by decide +kernel
theorem dX3_readRun_46 : decode cX3_readRun 46 = .ok (.goto 4, 3) := by decide +kernel
theorem dX3_readRun_49 : decode cX3_readRun 49 = .ok (.iconst (-1), 1) := by decide +kernel
theorem dX3_readRun_50 : decode cX3_readRun 50 = .ok (.istore 5, 2) := by decide +kernel
theorem dX3_readRun_52 : decode cX3_readRun 52 = .ok (.iload 5, 2) := by decide +kernel
theorem dX3_readRun_54 : decode cX3_readRun 54 = .ok (.ifCond .lt 25, 3) := by decide +kernel
theorem dX3_readRun_57 : decode cX3_readRun 57 = .ok (.iload 5, 2) := by decide +kernel
theorem dX3_readRun_59 : decode cX3_readRun 59 = .ok (.getstatic 34, 3) := by decide +kernel
theorem dX3_readRun_62 : decode cX3_readRun 62 = .ok (.arraylength, 1) := by decide +kernel
theorem dX3_readRun_63 : decode cX3_readRun 63 = .ok (.if_icmp .ge 16, 3) := by decide +kernel
theorem dX3_readRun_66 : decode cX3_readRun 66 = .ok (.aload_n 0, 1) := by decide +kernel
theorem dX3_readRun_67 : decode cX3_readRun 67 = .ok (.getstatic 34, 3) := by decide +kernel
theorem dX3_readRun_70 : decode cX3_readRun 70 = .ok (.iload 5, 2) := by decide +kernel
theorem dX3_readRun_72 : decode cX3_readRun 72 = .ok (.iaload, 1) := by decide +kernel
theorem dX3_readRun_73 : decode cX3_readRun 73 = .ok (.invokevirtual 211, 3) := by decide +kernel
theorem dX3_readRun_76 : decode cX3_readRun 76 = .ok (.ifCond .ne 5, 3) := by decide +kernel
theorem dX3_readRun_79 : decode cX3_readRun 79 = .ok (.iconst (-1), 1) := by decide +kernel
theorem dX3_readRun_80 : decode cX3_readRun 80 = .ok (.ireturn, 1) := by decide +kernel
theorem dX3_readRun_81 : decode cX3_readRun 81 = .ok (.iload 5, 2) := by decide +kernel
theorem dX3_readRun_83 : decode cX3_readRun 83 = .ok (.iload_n 1, 1) := by decide +kernel
theorem dX3_readRun_84 : decode cX3_readRun 84 = .ok (.bipush 74, 2) := by decide +kernel
theorem dX3_readRun_86 : decode cX3_readRun 86 = .ok (.imul, 1) := by decide +kernel
theorem dX3_readRun_87 : decode cX3_readRun 87 = .ok (.isub, 1) := by decide +kernel
theorem dX3_readRun_88 : decode cX3_readRun 88 = .ok (.istore 6, 2) := by decide +kernel
theorem dX3_readRun_90 : decode cX3_readRun 90 = .ok (.iload 6, 2) := by decide +kernel
theorem dX3_readRun_92 : decode cX3_readRun 92 = .ok (.bipush 64, 2) := by decide +kernel
theorem dX3_readRun_94 : decode cX3_readRun 94 = .ok (.if_icmp .ge 8, 3) := by decide +kernel
theorem dX3_readRun_97 : decode cX3_readRun 97 = .ok (.iload_n 2, 1) := by decide +kernel
theorem dX3_readRun_98 : decode cX3_readRun 98 = .ok (.iload 6, 2) := by decide +kernel
theorem dX3_readRun_100 : decode cX3_readRun 100 = .ok (.iadd, 1) := by decide +kernel
theorem dX3_readRun_101 : decode cX3_readRun 101 = .ok (.ireturn, 1) := by decide +kernel
theorem dX3_readRun_102 : decode cX3_readRun 102 = .ok (.iload 6, 2) := by decide +kernel
theorem dX3_readRun_104 : decode cX3_readRun 104 = .ok (.bipush 64, 2) := by decide +kernel
theorem dX3_readRun_106 : decode cX3_readRun 106 = .ok (.isub, 1) := by decide +kernel
theorem dX3_readRun_107 : decode cX3_readRun 107 = .ok (.iconst 1, 1) := by decide +kernel
theorem dX3_readRun_108 : decode cX3_readRun 108 = .ok (.iadd, 1) := by decide +kernel
theorem dX3_readRun_109 : decode cX3_readRun 109 = .ok (.bipush 64, 2) := by decide +kernel
theorem dX3_readRun_111 : decode cX3_readRun 111 = .ok (.imul, 1) := by decide +kernel
theorem dX3_readRun_112 : decode cX3_readRun 112 = .ok (.istore_n 2, 1) := by decide +kernel
theorem dX3_readRun_113 : decode cX3_readRun 113 = .ok (.iinc 3 1, 3) := by decide +kernel
theorem dX3_readRun_116 : decode cX3_readRun 116 = .ok (.goto (-112), 3) := by decide +kernel
theorem dX3_readRun_119 : decode cX3_readRun 119 = .ok (.iconst (-1), 1) := by decide +kernel
theorem dX3_readRun_120 : decode cX3_readRun 120 = .ok (.ireturn, 1) := by decide +kernel
noncomputable def f_X3_readRun_50 (k4 : Int32 → Int32 → Int32 → Mm → Option (Int32 × Mm)) (a1 : Int32) (a2 : Int32) (a3 : Int32) (b0 : Int32) (T : Mm) : Option (Int32 × Mm) :=
  if b0 < 0 then (some ((-1), T))
  else (if 148 ≤ b0 then (some ((-1), T))
  else (ix b0 148 fun j1 =>
  bd (f_X3_skipBits (st_RUN_BITS.getD j1 0) T) fun v3 T4 =>
  if v3 = 0 then (some ((-1), T4))
  else (lb ((b0 - (a1 * 74))) fun v5 =>
  if 64 ≤ v5 then (lb ((((v5 - 64) + 1) * 64)) fun v6 =>
  k4 a1 v6 (a3 + 1) T4)
  else (some ((a2 + v5), T4)))))
set_option maxRecDepth 100000 in
set_option maxHeartbeats 4000000 in
theorem s_X3_readRun_50 {x : JX} {ad : Nat → Nat} {U : Mm} {S0 : Hp} {q : Int32 × Mm}  {k4 : Int32 → Int32 → Int32 → Mm → Option (Int32 × Mm)} (hn9 : x_n x = 7) (C : CB x RX3 cX3_readRun) (M : CMr x 2 (some .int) S0 ad true U eI q) (hk4 : ∀ (a1 : Int32) (a2 : Int32) (a3 : Int32) (T : Mm), k4 a1 a2 a3 T = some q → Jr x ad true U T [(0, .ref (ad 129)), (1, .int a1), (2, .int a2), (3, .int a3)] 4 []) (a1 : Int32) (a2 : Int32) (a3 : Int32) (b0 : Int32) (T : Mm) (h : f_X3_readRun_50 k4 a1 a2 a3 b0 T = some q) : Jr x ad true U T [(0, .ref (ad 129)), (1, .int a1), (2, .int a2), (3, .int a3)] 50 [.int b0] := by
  unfold f_X3_readRun_50 at h
  refine r_istore (lv' := [(5, .int b0), (0, .ref (ad 129)), (1, .int a1), (2, .int a2), (3, .int a3)]) C dX3_readRun_50 (by rw [hn9]; decide) rfl ?_
  refine r_iload C dX3_readRun_52 0 rfl ?_
  refine r_if_lt (tgt := 79) C dX3_readRun_54 (by decide) h (fun h => ?_) (fun h => ?_)
  · refine r_iconst (v := (-1)) C dX3_readRun_79 (by decide) ?_
    exact r_iret C M dX3_readRun_80 h
  · refine r_iload C dX3_readRun_57 0 rfl ?_
    refine r_gets C 2 rfl (Or.inr ⟨_, gsX3_34⟩) dX3_readRun_59 ?_
    refine r_stlen (v := 148) C 2 rfl dX3_readRun_62 (by decide) ?_
    refine r_ic_ge (tgt := 79) C dX3_readRun_63 (by decide) h (fun h => ?_) (fun h => ?_)
    · refine r_iconst (v := (-1)) C dX3_readRun_79 (by decide) ?_
      exact r_iret C M dX3_readRun_80 h
    · refine r_aload_n C dX3_readRun_66 rfl 1 rfl ?_
      refine r_gets C 2 rfl (Or.inr ⟨_, gsX3_34⟩) dX3_readRun_67 ?_
      refine r_iload C dX3_readRun_70 0 rfl ?_
      refine r_stld C 2 rfl (n := 148) rfl dX3_readRun_72 h (fun j1 hj2 h => ?_)
      refine r_callVI C M h [.int (st_RUN_BITS.getD j1 0)] [] mlX3_211 mcX3_skipBits (fun q9 e9 => s_X3_skipBits (st_RUN_BITS.getD j1 0)  e9) kq_129 rfl (by decide) (by decide) rfl rfl (Nat.le_of_ble_eq_true rfl) dX3_readRun_73 (fun v3 T4 h => ?_)
      show Jr _ _ _ _ _ _ 76 _
      refine r_if_ne (tgt := 81) C dX3_readRun_76 (by decide) h (fun h => ?_) (fun h => ?_)
      · refine r_iload C dX3_readRun_81 0 rfl ?_
        refine r_iload_n C dX3_readRun_83 rfl 2 rfl ?_
        refine r_bipush (v := 74) C dX3_readRun_84 (by decide) ?_
        refine r_imul C dX3_readRun_86 rfl ?_
        refine r_isub C dX3_readRun_87 rfl ?_
        show Jr _ _ _ _ _ _ 88 _
        refine r_lbI h (fun v5 h => ?_)
        refine r_istore (lv' := [(6, .int v5), (5, .int b0), (0, .ref (ad 129)), (1, .int a1), (2, .int a2), (3, .int a3)]) C dX3_readRun_88 (by rw [hn9]; decide) rfl ?_
        refine r_iload C dX3_readRun_90 0 rfl ?_
        refine r_bipush (v := 64) C dX3_readRun_92 (by decide) ?_
        refine r_ic_ge (tgt := 102) C dX3_readRun_94 (by decide) h (fun h => ?_) (fun h => ?_)
        · refine r_iload C dX3_readRun_102 0 rfl ?_
          refine r_bipush (v := 64) C dX3_readRun_104 (by decide) ?_
          refine r_isub C dX3_readRun_106 rfl ?_
          refine r_iconst (v := 1) C dX3_readRun_107 (by decide) ?_
          refine r_iadd C dX3_readRun_108 rfl ?_
          show Jr _ _ _ _ _ _ 109 _
          refine r_bipush (v := 64) C dX3_readRun_109 (by decide) ?_
          refine r_imul C dX3_readRun_111 rfl ?_
          refine r_lbI h (fun v6 h => ?_)
          refine r_istore_n (lv' := [(2, .int v6), (6, .int v5), (5, .int b0), (0, .ref (ad 129)), (1, .int a1), (3, .int a3)]) C dX3_readRun_112 rfl (by rw [hn9]; decide) rfl ?_
          refine r_iinc (q := 5) (v := (a3 + 1)) (lv' := [(3, .int (a3 + 1)), (2, .int v6), (6, .int v5), (5, .int b0), (0, .ref (ad 129)), (1, .int a1)]) C dX3_readRun_113 rfl (by rw [show Int32.ofInt (1) = 1 by decide]) (by rw [hn9]; decide) rfl ?_
          refine r_goto (tgt := 4) C dX3_readRun_116 (by decide) ?_
          refine Jr.sub [4, 5, 1, 0] (lv' := [(0, .ref (ad 129)), (1, .int a1), (2, .int v6), (3, .int (a3 + 1))]) rfl ?_
          exact hk4 a1 v6 (a3 + 1) T4 h
        · refine r_iload_n C dX3_readRun_97 rfl 4 rfl ?_
          refine r_iload C dX3_readRun_98 0 rfl ?_
          refine r_iadd C dX3_readRun_100 rfl ?_
          exact r_iret C M dX3_readRun_101 h
      · refine r_iconst (v := (-1)) C dX3_readRun_79 (by decide) ?_
        exact r_iret C M dX3_readRun_80 h
noncomputable def f_X3_readRun_b4 (k4 : Int32 → Int32 → Int32 → Mm → Option (Int32 × Mm)) (a1 : Int32) (a2 : Int32) (a3 : Int32) (T : Mm) : Option (Int32 × Mm) :=
  if 2 ≤ a3 then (some ((-1), T))
  else (bd (f_X3_peek 13 T) fun v1 T2 =>
  lb (((a1 <<< ((13 : Int32) &&& 31)) + v1)) fun v3 =>
  if v3 < 0 then (f_X3_readRun_50 k4 a1 a2 a3 (-1) T2)
  else (if 16384 ≤ v3 then (f_X3_readRun_50 k4 a1 a2 a3 (-1) T2)
  else (ix v3 16384 fun j4 =>
  f_X3_readRun_50 k4 a1 a2 a3 ((gA T2 132 j4) - 1) T2)))
set_option maxRecDepth 100000 in
set_option maxHeartbeats 4000000 in
theorem s_X3_readRun_b4 {x : JX} {ad : Nat → Nat} {U : Mm} {S0 : Hp} {q : Int32 × Mm}  {k4 : Int32 → Int32 → Int32 → Mm → Option (Int32 × Mm)} (hn9 : x_n x = 7) (C : CB x RX3 cX3_readRun) (M : CMr x 2 (some .int) S0 ad true U eI q) (hk4 : ∀ (a1 : Int32) (a2 : Int32) (a3 : Int32) (T : Mm), k4 a1 a2 a3 T = some q → Jr x ad true U T [(0, .ref (ad 129)), (1, .int a1), (2, .int a2), (3, .int a3)] 4 []) (a1 : Int32) (a2 : Int32) (a3 : Int32) (T : Mm) (h : f_X3_readRun_b4 k4 a1 a2 a3 T = some q) : Jr x ad true U T [(0, .ref (ad 129)), (1, .int a1), (2, .int a2), (3, .int a3)] 4 [] := by
  unfold f_X3_readRun_b4 at h
  refine r_iload_n C dX3_readRun_4 rfl 3 rfl ?_
  refine r_iconst (v := 2) C dX3_readRun_5 (by decide) ?_
  refine r_ic_ge (tgt := 119) C dX3_readRun_6 (by decide) h (fun h => ?_) (fun h => ?_)
  · refine r_iconst (v := (-1)) C dX3_readRun_119 (by decide) ?_
    exact r_iret C M dX3_readRun_120 h
  · refine r_iload_n C dX3_readRun_9 rfl 1 rfl ?_
    refine r_bipush (v := 13) C dX3_readRun_10 (by decide) ?_
    refine r_ishl C dX3_readRun_12 rfl ?_
    refine r_aload_n C dX3_readRun_13 rfl 0 rfl ?_
    refine r_bipush (v := 13) C dX3_readRun_14 (by decide) ?_
    show Jr _ _ _ _ _ _ 16 _
    refine r_callVI C M h [.int 13] [.int (a1 <<< ((13 : Int32) &&& 31))] mlX3_207 mcX3_peek (fun q9 e9 => s_X3_peek 13  e9) kq_129 rfl (by decide) (by decide) rfl rfl (Nat.le_of_ble_eq_true rfl) dX3_readRun_16 (fun v1 T2 h => ?_)
    refine r_iadd C dX3_readRun_19 rfl ?_
    refine r_lbI h (fun v3 h => ?_)
    refine r_istore (lv' := [(4, .int v3), (0, .ref (ad 129)), (1, .int a1), (2, .int a2), (3, .int a3)]) C dX3_readRun_20 (by rw [hn9]; decide) rfl ?_
    refine r_iload C dX3_readRun_22 0 rfl ?_
    refine r_if_lt (tgt := 49) C dX3_readRun_24 (by decide) h (fun h => ?_) (fun h => ?_)
    · refine r_iconst (v := (-1)) C dX3_readRun_49 (by decide) ?_
      refine Jr.sub [1, 2, 3, 4] (lv' := [(0, .ref (ad 129)), (1, .int a1), (2, .int a2), (3, .int a3)]) rfl ?_
      exact s_X3_readRun_50 hn9 C M hk4 a1 a2 a3 (-1) T2 h
    · refine r_iload C dX3_readRun_27 0 rfl ?_
      refine r_aload_n C dX3_readRun_29 rfl 1 rfl ?_
      refine r_getp (f := 320) (j := 132) C flX3_22 dX3_readRun_30 kq_129 (by decide) rfl (fun W => pt_320 kq_129 W) ?_
      refine r_alen (n := 0) (v := 16384) C dX3_readRun_33 kq_132 (by decide) (by decide) (congrArg Int32.ofNat lq_132) ?_
      refine r_ic_ge (tgt := 49) C dX3_readRun_34 (by decide) h (fun h => ?_) (fun h => ?_)
      · refine r_iconst (v := (-1)) C dX3_readRun_49 (by decide) ?_
        refine Jr.sub [1, 2, 3, 4] (lv' := [(0, .ref (ad 129)), (1, .int a1), (2, .int a2), (3, .int a3)]) rfl ?_
        exact s_X3_readRun_50 hn9 C M hk4 a1 a2 a3 (-1) T2 h
      · refine r_aload_n C dX3_readRun_37 rfl 1 rfl ?_
        refine r_getp (f := 320) (j := 132) C flX3_22 dX3_readRun_38 kq_129 (by decide) rfl (fun W => pt_320 kq_129 W) ?_
        refine r_iload C dX3_readRun_41 0 rfl ?_
        refine r_sald (n := 16384) C dX3_readRun_43 kq_132 lq_132 h (fun j4 hj5 h => ?_)
        refine r_iconst (v := 1) C dX3_readRun_44 (by decide) ?_
        show Jr _ _ _ _ _ _ 45 _
        refine r_isub C dX3_readRun_45 rfl ?_
        refine r_goto (tgt := 50) C dX3_readRun_46 (by decide) ?_
        refine Jr.sub [1, 2, 3, 4] (lv' := [(0, .ref (ad 129)), (1, .int a1), (2, .int a2), (3, .int a3)]) rfl ?_
        exact s_X3_readRun_50 hn9 C M hk4 a1 a2 a3 ((gA T2 132 j4) - 1) T2 h
noncomputable def f_X3_readRun_l4 (n : Nat) : Int32 → Int32 → Int32 → Mm → Option (Int32 × Mm) := Nat.rec (fun _ _ _ _ => none) (fun _ ih => f_X3_readRun_b4 ih) n
theorem s_X3_readRun_l4 {x : JX} {ad : Nat → Nat} {U : Mm} {S0 : Hp} {q : Int32 × Mm}  (hn9 : x_n x = 7) (C : CB x RX3 cX3_readRun) (M : CMr x 2 (some .int) S0 ad true U eI q) : ∀ (n : Nat), ∀ (a1 : Int32) (a2 : Int32) (a3 : Int32) (T : Mm), f_X3_readRun_l4  n a1 a2 a3 T = some q → Jr x ad true U T [(0, .ref (ad 129)), (1, .int a1), (2, .int a2), (3, .int a3)] 4 [] := by
  intro n
  induction n with
  | zero => intro a1 a2 a3 T  h; exact absurd h (by intro h; cases h)
  | succ n ih => exact fun a1 a2 a3 T  h => s_X3_readRun_b4 hn9 C M (ih) a1 a2 a3 T  h
noncomputable def f_X3_readRun (p1 : Int32) (T : Mm) : Option (Int32 × Mm) :=
  f_X3_readRun_l4 FU p1 0 0 T
set_option maxRecDepth 100000 in
set_option maxHeartbeats 4000000 in
theorem s_X3_readRun {ad : Nat → Nat} {U T : Mm} {q : Int32 × Mm}  (p1 : Int32) (h : f_X3_readRun p1 T = some q) : Cr 2 yX3_readRun cX3_readRun 7 (some .int) [.ref (ad 129), .int p1] ad true U T eI q := by
  refine cr_of (by decide) (Nat.le_of_ble_eq_true rfl) fun x S0 hn9 C M => ?_
  have C : CB x RX3 cX3_readRun := C
  refine Jr.eq (lv' := [(0, .ref (ad 129)), (1, .int p1)]) (st' := []) rfl rfl ?_
  unfold f_X3_readRun at h
  refine r_iconst (v := 0) C dX3_readRun_0 (by decide) ?_
  refine r_istore_n (lv' := [(2, .int 0), (0, .ref (ad 129)), (1, .int p1)]) C dX3_readRun_1 rfl (by rw [hn9]; decide) rfl ?_
  refine r_iconst (v := 0) C dX3_readRun_2 (by decide) ?_
  refine r_istore_n (lv' := [(3, .int 0), (2, .int 0), (0, .ref (ad 129)), (1, .int p1)]) C dX3_readRun_3 rfl (by rw [hn9]; decide) rfl ?_
  refine Jr.sub [2, 3, 1, 0] (lv' := [(0, .ref (ad 129)), (1, .int p1), (2, .int 0), (3, .int 0)]) rfl ?_
  exact s_X3_readRun_l4 hn9 C M  FU p1 0 0 T h
theorem dX3_readRow_0 : decode cX3_readRow 0 = .ok (.aload_n 0, 1) := by decide +kernel
theorem dX3_readRow_1 : decode cX3_readRow 1 = .ok (.getfield 105, 3) := by decide +kernel
theorem dX3_readRow_4 : decode cX3_readRow 4 = .ok (.l2i, 1) := by decide +kernel
theorem dX3_readRow_5 : decode cX3_readRow 5 = .ok (.istore 4, 2) := by decide +kernel
theorem dX3_readRow_7 : decode cX3_readRow 7 = .ok (.iconst (-1), 1) := by decide +kernel
theorem dX3_readRow_8 : decode cX3_readRow 8 = .ok (.istore 5, 2) := by decide +kernel
theorem dX3_readRow_10 : decode cX3_readRow 10 = .ok (.iconst 0, 1) := by decide +kernel
theorem dX3_readRow_11 : decode cX3_readRow 11 = .ok (.istore 6, 2) := by decide +kernel
theorem dX3_readRow_13 : decode cX3_readRow 13 = .ok (.iconst 0, 1) := by decide +kernel
theorem dX3_readRow_14 : decode cX3_readRow 14 = .ok (.istore 7, 2) := by decide +kernel
theorem dX3_readRow_16 : decode cX3_readRow 16 = .ok (.iload 7, 2) := by decide +kernel
theorem dX3_readRow_18 : decode cX3_readRow 18 = .ok (.ldc 220, 2) := by decide +kernel
theorem dX3_readRow_20 : decode cX3_readRow 20 = .ok (.if_icmp .ge 206, 3) := by decide +kernel
theorem dX3_readRow_23 : decode cX3_readRow 23 = .ok (.iload 5, 2) := by decide +kernel
theorem dX3_readRow_25 : decode cX3_readRow 25 = .ok (.iload 4, 2) := by decide +kernel
theorem dX3_readRow_27 : decode cX3_readRow 27 = .ok (.if_icmp .ge 199, 3) := by decide +kernel
theorem dX3_readRow_30 : decode cX3_readRow 30 = .ok (.iload 5, 2) := by decide +kernel
theorem dX3_readRow_32 : decode cX3_readRow 32 = .ok (.iconst 0, 1) := by decide +kernel
theorem dX3_readRow_33 : decode cX3_readRow 33 = .ok (.invokestatic 221, 3) := by decide +kernel
theorem dX3_readRow_36 : decode cX3_readRow 36 = .ok (.istore 8, 2) := by decide +kernel
theorem dX3_readRow_38 : decode cX3_readRow 38 = .ok (.aload_n 1, 1) := by decide +kernel
theorem dX3_readRow_39 : decode cX3_readRow 39 = .ok (.iload_n 3, 1) := by decide +kernel
theorem dX3_readRow_40 : decode cX3_readRow 40 = .ok (.iload 5, 2) := by decide +kernel
theorem dX3_readRow_42 : decode cX3_readRow 42 = .ok (.iload 4, 2) := by decide +kernel
theorem dX3_readRow_44 : decode cX3_readRow 44 = .ok (.iload 6, 2) := by decide +kernel
theorem dX3_readRow_46 : decode cX3_readRow 46 = .ok (.invokestatic 223, 3) := by decide +kernel
theorem dX3_readRow_49 : decode cX3_readRow 49 = .ok (.istore 9, 2) := by decide +kernel
theorem dX3_readRow_51 : decode cX3_readRow 51 = .ok (.aload_n 0, 1) := by decide +kernel
theorem dX3_readRow_52 : decode cX3_readRow 52 = .ok (.invokevirtual 227, 3) := by decide +kernel
theorem dX3_readRow_55 : decode cX3_readRow 55 = .ok (.istore 10, 2) := by decide +kernel
theorem dX3_readRow_57 : decode cX3_readRow 57 = .ok (.iload 10, 2) := by decide +kernel
theorem dX3_readRow_59 : decode cX3_readRow 59 = .ok (.bipush 8, 2) := by decide +kernel
theorem dX3_readRow_61 : decode cX3_readRow 61 = .ok (.if_icmp .ne 25, 3) := by decide +kernel
theorem dX3_readRow_64 : decode cX3_readRow 64 = .ok (.aload_n 1, 1) := by decide +kernel
theorem dX3_readRow_65 : decode cX3_readRow 65 = .ok (.iload_n 3, 1) := by decide +kernel
theorem dX3_readRow_66 : decode cX3_readRow 66 = .ok (.iload 9, 2) := by decide +kernel
theorem dX3_readRow_68 : decode cX3_readRow 68 = .ok (.iload 4, 2) := by decide +kernel
theorem dX3_readRow_70 : decode cX3_readRow 70 = .ok (.iconst 1, 1) := by decide +kernel
theorem dX3_readRow_71 : decode cX3_readRow 71 = .ok (.iload 6, 2) := by decide +kernel
theorem dX3_readRow_73 : decode cX3_readRow 73 = .ok (.isub, 1) := by decide +kernel
theorem dX3_readRow_74 : decode cX3_readRow 74 = .ok (.invokestatic 231, 3) := by decide +kernel
theorem dX3_readRow_77 : decode cX3_readRow 77 = .ok (.istore 11, 2) := by decide +kernel
theorem dX3_readRow_79 : decode cX3_readRow 79 = .ok (.iload 11, 2) := by decide +kernel
theorem dX3_readRow_81 : decode cX3_readRow 81 = .ok (.istore 5, 2) := by decide +kernel
theorem dX3_readRow_83 : decode cX3_readRow 83 = .ok (.goto 98, 3) := by decide +kernel
theorem dX3_readRow_86 : decode cX3_readRow 86 = .ok (.iload 10, 2) := by decide +kernel
theorem dX3_readRow_88 : decode cX3_readRow 88 = .ok (.bipush 9, 2) := by decide +kernel
theorem dX3_readRow_90 : decode cX3_readRow 90 = .ok (.if_icmp .ne 57, 3) := by decide +kernel
theorem dX3_readRow_93 : decode cX3_readRow 93 = .ok (.aload_n 0, 1) := by decide +kernel
theorem dX3_readRow_94 : decode cX3_readRow 94 = .ok (.iload 6, 2) := by decide +kernel
theorem dX3_readRow_96 : decode cX3_readRow 96 = .ok (.invokevirtual 234, 3) := by decide +kernel
theorem dX3_readRow_99 : decode cX3_readRow 99 = .ok (.istore 12, 2) := by decide +kernel
theorem dX3_readRow_101 : decode cX3_readRow 101 = .ok (.aload_n 0, 1) := by decide +kernel
theorem dX3_readRow_102 : decode cX3_readRow 102 = .ok (.iconst 1, 1) := by decide +kernel
theorem dX3_readRow_103 : decode cX3_readRow 103 = .ok (.iload 6, 2) := by decide +kernel
theorem dX3_readRow_105 : decode cX3_readRow 105 = .ok (.isub, 1) := by decide +kernel
theorem dX3_readRow_106 : decode cX3_readRow 106 = .ok (.invokevirtual 234, 3) := by decide +kernel
theorem dX3_readRow_109 : decode cX3_readRow 109 = .ok (.istore 13, 2) := by decide +kernel
theorem dX3_readRow_111 : decode cX3_readRow 111 = .ok (.iload 8, 2) := by decide +kernel
theorem dX3_readRow_113 : decode cX3_readRow 113 = .ok (.iload 12, 2) := by decide +kernel
theorem dX3_readRow_115 : decode cX3_readRow 115 = .ok (.iadd, 1) := by decide +kernel
theorem dX3_readRow_116 : decode cX3_readRow 116 = .ok (.istore 11, 2) := by decide +kernel
theorem dX3_readRow_118 : decode cX3_readRow 118 = .ok (.iload 11, 2) := by decide +kernel
theorem dX3_readRow_120 : decode cX3_readRow 120 = .ok (.iload 13, 2) := by decide +kernel
theorem dX3_readRow_122 : decode cX3_readRow 122 = .ok (.iadd, 1) := by decide +kernel
theorem dX3_readRow_123 : decode cX3_readRow 123 = .ok (.istore 5, 2) := by decide +kernel
theorem dX3_readRow_125 : decode cX3_readRow 125 = .ok (.iload 12, 2) := by decide +kernel
theorem dX3_readRow_127 : decode cX3_readRow 127 = .ok (.ifCond .lt 15, 3) := by decide +kernel
theorem dX3_readRow_130 : decode cX3_readRow 130 = .ok (.iload 13, 2) := by decide +kernel
theorem dX3_readRow_132 : decode cX3_readRow 132 = .ok (.ifCond .lt 10, 3) := by decide +kernel
theorem dX3_readRow_135 : decode cX3_readRow 135 = .ok (.iload 5, 2) := by decide +kernel
theorem dX3_readRow_137 : decode cX3_readRow 137 = .ok (.iload 4, 2) := by decide +kernel
theorem dX3_readRow_139 : decode cX3_readRow 139 = .ok (.if_icmp .le 5, 3) := by decide +kernel
theorem dX3_readRow_142 : decode cX3_readRow 142 = .ok (.iconst 0, 1) := by decide +kernel
theorem dX3_readRow_143 : decode cX3_readRow 143 = .ok (.ireturn, 1) := by decide +kernel
theorem dX3_readRow_144 : decode cX3_readRow 144 = .ok (.goto 37, 3) := by decide +kernel
theorem dX3_readRow_147 : decode cX3_readRow 147 = .ok (.iload 9, 2) := by decide +kernel
theorem dX3_readRow_149 : decode cX3_readRow 149 = .ok (.iload 10, 2) := by decide +kernel
theorem dX3_readRow_151 : decode cX3_readRow 151 = .ok (.iadd, 1) := by decide +kernel
theorem dX3_readRow_152 : decode cX3_readRow 152 = .ok (.istore 11, 2) := by decide +kernel
theorem dX3_readRow_154 : decode cX3_readRow 154 = .ok (.iload 10, 2) := by decide +kernel
theorem dX3_readRow_156 : decode cX3_readRow 156 = .ok (.bipush 10, 2) := by decide +kernel
theorem dX3_readRow_158 : decode cX3_readRow 158 = .ok (.if_icmp .eq 17, 3) := by decide +kernel
theorem dX3_readRow_161 : decode cX3_readRow 161 = .ok (.iload 11, 2) := by decide +kernel
theorem dX3_readRow_163 : decode cX3_readRow 163 = .ok (.iload 5, 2) := by decide +kernel
theorem dX3_readRow_165 : decode cX3_readRow 165 = .ok (.if_icmp .le 10, 3) := by decide +kernel
theorem dX3_readRow_168 : decode cX3_readRow 168 = .ok (.iload 11, 2) := by decide +kernel
theorem dX3_readRow_170 : decode cX3_readRow 170 = .ok (.iload 4, 2) := by decide +kernel
theorem dX3_readRow_172 : decode cX3_readRow 172 = .ok (.if_icmp .le 5, 3) := by decide +kernel
theorem dX3_readRow_175 : decode cX3_readRow 175 = .ok (.iconst 0, 1) := by decide +kernel
theorem dX3_readRow_176 : decode cX3_readRow 176 = .ok (.ireturn, 1) := by decide +kernel
theorem dX3_readRow_177 : decode cX3_readRow 177 = .ok (.iload 11, 2) := by decide +kernel
theorem dX3_readRow_179 : decode cX3_readRow 179 = .ok (.istore 5, 2) := by decide +kernel
theorem dX3_readRow_181 : decode cX3_readRow 181 = .ok (.iload 6, 2) := by decide +kernel
theorem dX3_readRow_183 : decode cX3_readRow 183 = .ok (.iconst 1, 1) := by decide +kernel
theorem dX3_readRow_184 : decode cX3_readRow 184 = .ok (.if_icmp .ne 15, 3) := by decide +kernel
theorem dX3_readRow_187 : decode cX3_readRow 187 = .ok (.aload_n 1, 1) := by decide +kernel
theorem dX3_readRow_188 : decode cX3_readRow 188 = .ok (.iload_n 2, 1) := by decide +kernel
theorem dX3_readRow_189 : decode cX3_readRow 189 = .ok (.iload 8, 2) := by decide +kernel
theorem dX3_readRow_191 : decode cX3_readRow 191 = .ok (.iload 11, 2) := by decide +kernel
theorem dX3_readRow_193 : decode cX3_readRow 193 = .ok (.invokestatic 237, 3) := by decide +kernel
theorem dX3_readRow_196 : decode cX3_readRow 196 = .ok (.goto 12, 3) := by decide +kernel
theorem dX3_readRow_199 : decode cX3_readRow 199 = .ok (.aload_n 1, 1) := by decide +kernel
theorem dX3_readRow_200 : decode cX3_readRow 200 = .ok (.iload_n 2, 1) := by decide +kernel
theorem dX3_readRow_201 : decode cX3_readRow 201 = .ok (.iload 11, 2) := by decide +kernel
theorem dX3_readRow_203 : decode cX3_readRow 203 = .ok (.iload 5, 2) := by decide +kernel
theorem dX3_readRow_205 : decode cX3_readRow 205 = .ok (.invokestatic 237, 3) := by decide +kernel
theorem dX3_readRow_208 : decode cX3_readRow 208 = .ok (.iload 10, 2) := by decide +kernel
theorem dX3_readRow_210 : decode cX3_readRow 210 = .ok (.iconst 3, 1) := by decide +kernel
theorem dX3_readRow_211 : decode cX3_readRow 211 = .ok (.if_icmp .gt 9, 3) := by decide +kernel
theorem dX3_readRow_214 : decode cX3_readRow 214 = .ok (.iconst 1, 1) := by decide +kernel
theorem dX3_readRow_215 : decode cX3_readRow 215 = .ok (.iload 6, 2) := by decide +kernel
theorem dX3_readRow_217 : decode cX3_readRow 217 = .ok (.isub, 1) := by decide +kernel
theorem dX3_readRow_218 : decode cX3_readRow 218 = .ok (.istore 6, 2) := by decide +kernel
theorem dX3_readRow_220 : decode cX3_readRow 220 = .ok (.iinc 7 1, 3) := by decide +kernel
theorem dX3_readRow_223 : decode cX3_readRow 223 = .ok (.goto (-207), 3) := by decide +kernel
theorem dX3_readRow_226 : decode cX3_readRow 226 = .ok (.iconst 1, 1) := by decide +kernel
theorem dX3_readRow_227 : decode cX3_readRow 227 = .ok (.ireturn, 1) := by decide +kernel
noncomputable def f_X3_readRow_208 (k16 : Nat → Int32 → Int32 → Int32 → Int32 → Int32 → Int32 → Mm → Option (Int32 × Mm)) (a1 : Nat) (a2 : Int32) (a3 : Int32) (a4 : Int32) (a5 : Int32) (a6 : Int32) (a7 : Int32) (a10 : Int32) (T : Mm) : Option (Int32 × Mm) :=
  if 3 < a10 then (k16 a1 a2 a3 a4 a5 a6 (a7 + 1) T)
  else (lb (((1 : Int32) - a6)) fun v1 =>
  k16 a1 a2 a3 a4 a5 v1 (a7 + 1) T)
set_option maxRecDepth 100000 in
set_option maxHeartbeats 4000000 in
theorem s_X3_readRow_208 {x : JX} {ad : Nat → Nat} {U : Mm} {S0 : Hp} {q : Int32 × Mm}  {k16 : Nat → Int32 → Int32 → Int32 → Int32 → Int32 → Int32 → Mm → Option (Int32 × Mm)} (hn9 : x_n x = 14) (C : CB x RX3 cX3_readRow) (M : CMr x 5 (some .boolean) S0 ad true U eI q) (hk16 : ∀ (a1 : Nat) (a2 : Int32) (a3 : Int32) (a4 : Int32) (a5 : Int32) (a6 : Int32) (a7 : Int32) (T : Mm) (_ : kS true a1 = 14), k16 a1 a2 a3 a4 a5 a6 a7 T = some q → Jr x ad true U T [(0, .ref (ad 129)), (1, .ref (ad a1)), (2, .int a2), (3, .int a3), (4, .int a4), (5, .int a5), (6, .int a6), (7, .int a7)] 16 []) (a1 : Nat) (a2 : Int32) (a3 : Int32) (a4 : Int32) (a5 : Int32) (a6 : Int32) (a7 : Int32) (a10 : Int32) (T : Mm) (ha1 : kS true a1 = 14) (h : f_X3_readRow_208 k16 a1 a2 a3 a4 a5 a6 a7 a10 T = some q) : Jr x ad true U T [(0, .ref (ad 129)), (1, .ref (ad a1)), (2, .int a2), (3, .int a3), (4, .int a4), (5, .int a5), (6, .int a6), (7, .int a7), (10, .int a10)] 208 [] := by
  unfold f_X3_readRow_208 at h
  refine r_iload C dX3_readRow_208 8 rfl ?_
  refine r_iconst (v := 3) C dX3_readRow_210 (by decide) ?_
  refine r_ic_gt (tgt := 220) C dX3_readRow_211 (by decide) h (fun h => ?_) (fun h => ?_)
  · refine r_iinc (q := 7) (v := (a7 + 1)) (lv' := [(7, .int (a7 + 1)), (0, .ref (ad 129)), (1, .ref (ad a1)), (2, .int a2), (3, .int a3), (4, .int a4), (5, .int a5), (6, .int a6), (10, .int a10)]) C dX3_readRow_220 rfl (by rw [show Int32.ofInt (1) = 1 by decide]) (by rw [hn9]; decide) rfl ?_
    refine r_goto (tgt := 16) C dX3_readRow_223 (by decide) ?_
    refine Jr.sub [1, 2, 3, 4, 5, 6, 7, 0] (lv' := [(0, .ref (ad 129)), (1, .ref (ad a1)), (2, .int a2), (3, .int a3), (4, .int a4), (5, .int a5), (6, .int a6), (7, .int (a7 + 1))]) rfl ?_
    exact hk16 a1 a2 a3 a4 a5 a6 (a7 + 1) T ha1 h
  · refine r_iconst (v := 1) C dX3_readRow_214 (by decide) ?_
    refine r_iload C dX3_readRow_215 6 rfl ?_
    refine r_isub C dX3_readRow_217 rfl ?_
    refine r_lbI h (fun v1 h => ?_)
    refine r_istore (lv' := [(6, .int v1), (0, .ref (ad 129)), (1, .ref (ad a1)), (2, .int a2), (3, .int a3), (4, .int a4), (5, .int a5), (7, .int a7), (10, .int a10)]) C dX3_readRow_218 (by rw [hn9]; decide) rfl ?_
    refine r_iinc (q := 7) (v := (a7 + 1)) (lv' := [(7, .int (a7 + 1)), (6, .int v1), (0, .ref (ad 129)), (1, .ref (ad a1)), (2, .int a2), (3, .int a3), (4, .int a4), (5, .int a5), (10, .int a10)]) C dX3_readRow_220 rfl (by rw [show Int32.ofInt (1) = 1 by decide]) (by rw [hn9]; decide) rfl ?_
    show Jr _ _ _ _ _ _ 223 _
    refine r_goto (tgt := 16) C dX3_readRow_223 (by decide) ?_
    refine Jr.sub [2, 3, 4, 5, 6, 7, 1, 0] (lv' := [(0, .ref (ad 129)), (1, .ref (ad a1)), (2, .int a2), (3, .int a3), (4, .int a4), (5, .int a5), (6, .int v1), (7, .int (a7 + 1))]) rfl ?_
    exact hk16 a1 a2 a3 a4 a5 v1 (a7 + 1) T ha1 h
noncomputable def f_X3_readRow_181 (k16 : Nat → Int32 → Int32 → Int32 → Int32 → Int32 → Int32 → Mm → Option (Int32 × Mm)) (a1 : Nat) (a2 : Int32) (a3 : Int32) (a4 : Int32) (a5 : Int32) (a6 : Int32) (a7 : Int32) (a8 : Int32) (a10 : Int32) (a11 : Int32) (T : Mm) : Option (Int32 × Mm) :=
  if a6 = 1 then (bd (f_X11_blacken a1 a2 a8 a11 T) fun _ T2 =>
  f_X3_readRow_208 k16 a1 a2 a3 a4 a5 a6 a7 a10 T2)
  else (bd (f_X11_blacken a1 a2 a11 a5 T) fun _ T1 =>
  f_X3_readRow_208 k16 a1 a2 a3 a4 a5 a6 a7 a10 T1)
set_option maxRecDepth 100000 in
set_option maxHeartbeats 4000000 in
theorem s_X3_readRow_181 {x : JX} {ad : Nat → Nat} {U : Mm} {S0 : Hp} {q : Int32 × Mm}  {k16 : Nat → Int32 → Int32 → Int32 → Int32 → Int32 → Int32 → Mm → Option (Int32 × Mm)} (hn9 : x_n x = 14) (C : CB x RX3 cX3_readRow) (M : CMr x 5 (some .boolean) S0 ad true U eI q) (hk16 : ∀ (a1 : Nat) (a2 : Int32) (a3 : Int32) (a4 : Int32) (a5 : Int32) (a6 : Int32) (a7 : Int32) (T : Mm) (_ : kS true a1 = 14), k16 a1 a2 a3 a4 a5 a6 a7 T = some q → Jr x ad true U T [(0, .ref (ad 129)), (1, .ref (ad a1)), (2, .int a2), (3, .int a3), (4, .int a4), (5, .int a5), (6, .int a6), (7, .int a7)] 16 []) (a1 : Nat) (a2 : Int32) (a3 : Int32) (a4 : Int32) (a5 : Int32) (a6 : Int32) (a7 : Int32) (a8 : Int32) (a10 : Int32) (a11 : Int32) (T : Mm) (ha1 : kS true a1 = 14) (h : f_X3_readRow_181 k16 a1 a2 a3 a4 a5 a6 a7 a8 a10 a11 T = some q) : Jr x ad true U T [(0, .ref (ad 129)), (1, .ref (ad a1)), (2, .int a2), (3, .int a3), (4, .int a4), (5, .int a5), (6, .int a6), (7, .int a7), (8, .int a8), (10, .int a10), (11, .int a11)] 181 [] := by
  unfold f_X3_readRow_181 at h
  refine r_iload C dX3_readRow_181 6 rfl ?_
  refine r_iconst (v := 1) C dX3_readRow_183 (by decide) ?_
  refine r_ic_ne (tgt := 199) C dX3_readRow_184 (by decide) h (fun h => ?_) (fun h => ?_)
  · refine r_aload_n C dX3_readRow_199 rfl 1 rfl ?_
    refine r_iload_n C dX3_readRow_200 rfl 2 rfl ?_
    refine r_iload C dX3_readRow_201 10 rfl ?_
    refine r_iload C dX3_readRow_203 5 rfl ?_
    refine r_callSN C M h [.ref (ad a1), .int a2, .int a11, .int a5] [] mlX3_237 mcX11_blacken (fun q9 e9 => s_X11_blacken a1 a2 a11 a5 ha1 e9) (by decide) (by decide) rfl rfl (Nat.le_of_ble_eq_true rfl) dX3_readRow_205 (fun _ T1 h => ?_)
    refine Jr.sub [0, 1, 2, 3, 4, 5, 6, 7, 9] (lv' := [(0, .ref (ad 129)), (1, .ref (ad a1)), (2, .int a2), (3, .int a3), (4, .int a4), (5, .int a5), (6, .int a6), (7, .int a7), (10, .int a10)]) rfl ?_
    exact s_X3_readRow_208 hn9 C M hk16 a1 a2 a3 a4 a5 a6 a7 a10 T1 ha1 h
  · refine r_aload_n C dX3_readRow_187 rfl 1 rfl ?_
    refine r_iload_n C dX3_readRow_188 rfl 2 rfl ?_
    refine r_iload C dX3_readRow_189 8 rfl ?_
    refine r_iload C dX3_readRow_191 10 rfl ?_
    refine r_callSN C M h [.ref (ad a1), .int a2, .int a8, .int a11] [] mlX3_237 mcX11_blacken (fun q9 e9 => s_X11_blacken a1 a2 a8 a11 ha1 e9) (by decide) (by decide) rfl rfl (Nat.le_of_ble_eq_true rfl) dX3_readRow_193 (fun _ T2 h => ?_)
    show Jr _ _ _ _ _ _ 196 _
    refine r_goto (tgt := 208) C dX3_readRow_196 (by decide) ?_
    refine Jr.sub [0, 1, 2, 3, 4, 5, 6, 7, 9] (lv' := [(0, .ref (ad 129)), (1, .ref (ad a1)), (2, .int a2), (3, .int a3), (4, .int a4), (5, .int a5), (6, .int a6), (7, .int a7), (10, .int a10)]) rfl ?_
    exact s_X3_readRow_208 hn9 C M hk16 a1 a2 a3 a4 a5 a6 a7 a10 T2 ha1 h
noncomputable def f_X3_readRow_b16 (k16 : Nat → Int32 → Int32 → Int32 → Int32 → Int32 → Int32 → Mm → Option (Int32 × Mm)) (a1 : Nat) (a2 : Int32) (a3 : Int32) (a4 : Int32) (a5 : Int32) (a6 : Int32) (a7 : Int32) (T : Mm) : Option (Int32 × Mm) :=
  if 1000000 ≤ a7 then (some (1, T))
  else (if a4 ≤ a5 then (some (1, T))
  else (bd (f_J9_max_7cf53 a5 0 T) fun v1 T2 =>
  bd (f_X11_firstChange a1 a3 a5 a4 a6 T2) fun v3 T4 =>
  bd (f_X3_readMode T4) fun v5 T6 =>
  if v5 = 8 then (bd (f_X11_firstOther a1 a3 v3 a4 ((1 : Int32) - a6) T6) fun v14 T15 =>
  f_X3_readRow_181 k16 a1 a2 a3 a4 v14 a6 a7 v1 v5 v14 T15)
  else (if v5 = 9 then (bd (f_X3_readRun a6 T6) fun v8 T9 =>
  bd (f_X3_readRun ((1 : Int32) - a6) T9) fun v10 T11 =>
  lb ((v1 + v8)) fun v12 =>
  lb ((v12 + v10)) fun v13 =>
  if v8 < 0 then (some (0, T11))
  else (if v10 < 0 then (some (0, T11))
  else (if v13 ≤ a4 then (f_X3_readRow_181 k16 a1 a2 a3 a4 v13 a6 a7 v1 v5 v12 T11)
  else (some (0, T11)))))
  else (lb ((v3 + v5)) fun v7 =>
  if v5 = 10 then (some (0, T6))
  else (if v7 ≤ a5 then (some (0, T6))
  else (if v7 ≤ a4 then (f_X3_readRow_181 k16 a1 a2 a3 a4 v7 a6 a7 v1 v5 v7 T6)
  else (some (0, T6))))))))
set_option maxRecDepth 100000 in
set_option maxHeartbeats 4000000 in
theorem s_X3_readRow_b16 {x : JX} {ad : Nat → Nat} {U : Mm} {S0 : Hp} {q : Int32 × Mm}  {k16 : Nat → Int32 → Int32 → Int32 → Int32 → Int32 → Int32 → Mm → Option (Int32 × Mm)} (hn9 : x_n x = 14) (C : CB x RX3 cX3_readRow) (M : CMr x 5 (some .boolean) S0 ad true U eI q) (hk16 : ∀ (a1 : Nat) (a2 : Int32) (a3 : Int32) (a4 : Int32) (a5 : Int32) (a6 : Int32) (a7 : Int32) (T : Mm) (_ : kS true a1 = 14), k16 a1 a2 a3 a4 a5 a6 a7 T = some q → Jr x ad true U T [(0, .ref (ad 129)), (1, .ref (ad a1)), (2, .int a2), (3, .int a3), (4, .int a4), (5, .int a5), (6, .int a6), (7, .int a7)] 16 []) (a1 : Nat) (a2 : Int32) (a3 : Int32) (a4 : Int32) (a5 : Int32) (a6 : Int32) (a7 : Int32) (T : Mm) (ha1 : kS true a1 = 14) (h : f_X3_readRow_b16 k16 a1 a2 a3 a4 a5 a6 a7 T = some q) : Jr x ad true U T [(0, .ref (ad 129)), (1, .ref (ad a1)), (2, .int a2), (3, .int a3), (4, .int a4), (5, .int a5), (6, .int a6), (7, .int a7)] 16 [] := by
  unfold f_X3_readRow_b16 at h
  refine r_iload C dX3_readRow_16 7 rfl ?_
  refine r_ldc (v := 1000000) C dX3_readRow_18 kcX3_220 ?_
  refine r_ic_ge (tgt := 226) C dX3_readRow_20 (by decide) h (fun h => ?_) (fun h => ?_)
  · refine r_iconst (v := 1) C dX3_readRow_226 (by decide) ?_
    exact r_zret C M dX3_readRow_227 (by decide) h
  · refine r_iload C dX3_readRow_23 5 rfl ?_
    refine r_iload C dX3_readRow_25 4 rfl ?_
    refine r_ic_ge (tgt := 226) C dX3_readRow_27 (by decide) h (fun h => ?_) (fun h => ?_)
    · refine r_iconst (v := 1) C dX3_readRow_226 (by decide) ?_
      exact r_zret C M dX3_readRow_227 (by decide) h
    · refine r_iload C dX3_readRow_30 5 rfl ?_
      refine r_iconst (v := 0) C dX3_readRow_32 (by decide) ?_
      refine r_callSI C M h [.int a5, .int 0] [] mlX3_221 mcJ9_max_7cf53 (fun q9 e9 => s_J9_max_7cf53 a5 0  e9) (by decide) (by decide) rfl rfl (Nat.le_of_ble_eq_true rfl) dX3_readRow_33 (fun v1 T2 h => ?_)
      refine r_istore (lv' := [(8, .int v1), (0, .ref (ad 129)), (1, .ref (ad a1)), (2, .int a2), (3, .int a3), (4, .int a4), (5, .int a5), (6, .int a6), (7, .int a7)]) C dX3_readRow_36 (by rw [hn9]; decide) rfl ?_
      refine r_aload_n C dX3_readRow_38 rfl 2 rfl ?_
      show Jr _ _ _ _ _ _ 39 _
      refine r_iload_n C dX3_readRow_39 rfl 4 rfl ?_
      refine r_iload C dX3_readRow_40 6 rfl ?_
      refine r_iload C dX3_readRow_42 5 rfl ?_
      refine r_iload C dX3_readRow_44 7 rfl ?_
      refine r_callSI C M h [.ref (ad a1), .int a3, .int a5, .int a4, .int a6] [] mlX3_223 mcX11_firstChange (fun q9 e9 => s_X11_firstChange a1 a3 a5 a4 a6 ha1 e9) (by decide) (by decide) rfl rfl (Nat.le_of_ble_eq_true rfl) dX3_readRow_46 (fun v3 T4 h => ?_)
      refine r_istore (lv' := [(9, .int v3), (8, .int v1), (0, .ref (ad 129)), (1, .ref (ad a1)), (2, .int a2), (3, .int a3), (4, .int a4), (5, .int a5), (6, .int a6), (7, .int a7)]) C dX3_readRow_49 (by rw [hn9]; decide) rfl ?_
      show Jr _ _ _ _ _ _ 51 _
      refine r_aload_n C dX3_readRow_51 rfl 2 rfl ?_
      refine r_callVI C M h [] [] mlX3_227 mcX3_readMode (fun q9 e9 => s_X3_readMode   e9) kq_129 rfl (by decide) (by decide) rfl rfl (Nat.le_of_ble_eq_true rfl) dX3_readRow_52 (fun v5 T6 h => ?_)
      refine r_istore (lv' := [(10, .int v5), (9, .int v3), (8, .int v1), (0, .ref (ad 129)), (1, .ref (ad a1)), (2, .int a2), (3, .int a3), (4, .int a4), (5, .int a5), (6, .int a6), (7, .int a7)]) C dX3_readRow_55 (by rw [hn9]; decide) rfl ?_
      refine r_iload C dX3_readRow_57 0 rfl ?_
      refine r_bipush (v := 8) C dX3_readRow_59 (by decide) ?_
      refine r_ic_ne (tgt := 86) C dX3_readRow_61 (by decide) h (fun h => ?_) (fun h => ?_)
      · refine r_iload C dX3_readRow_86 0 rfl ?_
        refine r_bipush (v := 9) C dX3_readRow_88 (by decide) ?_
        refine r_ic_ne (tgt := 147) C dX3_readRow_90 (by decide) h (fun h => ?_) (fun h => ?_)
        · refine r_iload C dX3_readRow_147 1 rfl ?_
          refine r_iload C dX3_readRow_149 0 rfl ?_
          refine r_iadd C dX3_readRow_151 rfl ?_
          refine r_lbI h (fun v7 h => ?_)
          refine r_istore (lv' := [(11, .int v7), (10, .int v5), (9, .int v3), (8, .int v1), (0, .ref (ad 129)), (1, .ref (ad a1)), (2, .int a2), (3, .int a3), (4, .int a4), (5, .int a5), (6, .int a6), (7, .int a7)]) C dX3_readRow_152 (by rw [hn9]; decide) rfl ?_
          refine r_iload C dX3_readRow_154 1 rfl ?_
          show Jr _ _ _ _ _ _ 156 _
          refine r_bipush (v := 10) C dX3_readRow_156 (by decide) ?_
          refine r_ic_eq (tgt := 175) C dX3_readRow_158 (by decide) h (fun h => ?_) (fun h => ?_)
          · refine r_iconst (v := 0) C dX3_readRow_175 (by decide) ?_
            exact r_zret C M dX3_readRow_176 (by decide) h
          · refine r_iload C dX3_readRow_161 0 rfl ?_
            refine r_iload C dX3_readRow_163 9 rfl ?_
            refine r_ic_le (tgt := 175) C dX3_readRow_165 (by decide) h (fun h => ?_) (fun h => ?_)
            · refine r_iconst (v := 0) C dX3_readRow_175 (by decide) ?_
              exact r_zret C M dX3_readRow_176 (by decide) h
            · refine r_iload C dX3_readRow_168 0 rfl ?_
              refine r_iload C dX3_readRow_170 8 rfl ?_
              refine r_ic_le (tgt := 177) C dX3_readRow_172 (by decide) h (fun h => ?_) (fun h => ?_)
              · refine r_iload C dX3_readRow_177 0 rfl ?_
                refine r_istore (lv' := [(5, .int v7), (11, .int v7), (10, .int v5), (9, .int v3), (8, .int v1), (0, .ref (ad 129)), (1, .ref (ad a1)), (2, .int a2), (3, .int a3), (4, .int a4), (6, .int a6), (7, .int a7)]) C dX3_readRow_179 (by rw [hn9]; decide) rfl ?_
                refine Jr.sub [5, 6, 7, 8, 9, 0, 10, 11, 4, 2, 1] (lv' := [(0, .ref (ad 129)), (1, .ref (ad a1)), (2, .int a2), (3, .int a3), (4, .int a4), (5, .int v7), (6, .int a6), (7, .int a7), (8, .int v1), (10, .int v5), (11, .int v7)]) rfl ?_
                exact s_X3_readRow_181 hn9 C M hk16 a1 a2 a3 a4 v7 a6 a7 v1 v5 v7 T6 ha1 h
              · refine r_iconst (v := 0) C dX3_readRow_175 (by decide) ?_
                exact r_zret C M dX3_readRow_176 (by decide) h
        · refine r_aload_n C dX3_readRow_93 rfl 3 rfl ?_
          refine r_iload C dX3_readRow_94 9 rfl ?_
          refine r_callVI C M h [.int a6] [] mlX3_234 mcX3_readRun (fun q9 e9 => s_X3_readRun a6  e9) kq_129 rfl (by decide) (by decide) rfl rfl (Nat.le_of_ble_eq_true rfl) dX3_readRow_96 (fun v8 T9 h => ?_)
          refine r_istore (lv' := [(12, .int v8), (10, .int v5), (9, .int v3), (8, .int v1), (0, .ref (ad 129)), (1, .ref (ad a1)), (2, .int a2), (3, .int a3), (4, .int a4), (5, .int a5), (6, .int a6), (7, .int a7)]) C dX3_readRow_99 (by rw [hn9]; decide) rfl ?_
          refine r_aload_n C dX3_readRow_101 rfl 4 rfl ?_
          show Jr _ _ _ _ _ _ 102 _
          refine r_iconst (v := 1) C dX3_readRow_102 (by decide) ?_
          refine r_iload C dX3_readRow_103 10 rfl ?_
          refine r_isub C dX3_readRow_105 rfl ?_
          refine r_callVI C M h [.int ((1 : Int32) - a6)] [] mlX3_234 mcX3_readRun (fun q9 e9 => s_X3_readRun ((1 : Int32) - a6)  e9) kq_129 rfl (by decide) (by decide) rfl rfl (Nat.le_of_ble_eq_true rfl) dX3_readRow_106 (fun v10 T11 h => ?_)
          refine r_istore (lv' := [(13, .int v10), (12, .int v8), (10, .int v5), (9, .int v3), (8, .int v1), (0, .ref (ad 129)), (1, .ref (ad a1)), (2, .int a2), (3, .int a3), (4, .int a4), (5, .int a5), (6, .int a6), (7, .int a7)]) C dX3_readRow_109 (by rw [hn9]; decide) rfl ?_
          refine r_iload C dX3_readRow_111 4 rfl ?_
          show Jr _ _ _ _ _ _ 113 _
          refine r_iload C dX3_readRow_113 1 rfl ?_
          refine r_iadd C dX3_readRow_115 rfl ?_
          refine r_lbI h (fun v12 h => ?_)
          refine r_istore (lv' := [(11, .int v12), (13, .int v10), (12, .int v8), (10, .int v5), (9, .int v3), (8, .int v1), (0, .ref (ad 129)), (1, .ref (ad a1)), (2, .int a2), (3, .int a3), (4, .int a4), (5, .int a5), (6, .int a6), (7, .int a7)]) C dX3_readRow_116 (by rw [hn9]; decide) rfl ?_
          refine r_iload C dX3_readRow_118 0 rfl ?_
          refine r_iload C dX3_readRow_120 1 rfl ?_
          refine r_iadd C dX3_readRow_122 rfl ?_
          show Jr _ _ _ _ _ _ 123 _
          refine r_lbI h (fun v13 h => ?_)
          refine r_istore (lv' := [(5, .int v13), (11, .int v12), (13, .int v10), (12, .int v8), (10, .int v5), (9, .int v3), (8, .int v1), (0, .ref (ad 129)), (1, .ref (ad a1)), (2, .int a2), (3, .int a3), (4, .int a4), (6, .int a6), (7, .int a7)]) C dX3_readRow_123 (by rw [hn9]; decide) rfl ?_
          refine r_iload C dX3_readRow_125 3 rfl ?_
          refine r_if_lt (tgt := 142) C dX3_readRow_127 (by decide) h (fun h => ?_) (fun h => ?_)
          · refine r_iconst (v := 0) C dX3_readRow_142 (by decide) ?_
            exact r_zret C M dX3_readRow_143 (by decide) h
          · refine r_iload C dX3_readRow_130 2 rfl ?_
            refine r_if_lt (tgt := 142) C dX3_readRow_132 (by decide) h (fun h => ?_) (fun h => ?_)
            · refine r_iconst (v := 0) C dX3_readRow_142 (by decide) ?_
              exact r_zret C M dX3_readRow_143 (by decide) h
            · refine r_iload C dX3_readRow_135 0 rfl ?_
              refine r_iload C dX3_readRow_137 11 rfl ?_
              refine r_ic_le (tgt := 144) C dX3_readRow_139 (by decide) h (fun h => ?_) (fun h => ?_)
              · refine r_goto (tgt := 181) C dX3_readRow_144 (by decide) ?_
                refine Jr.sub [7, 8, 9, 10, 11, 0, 12, 13, 6, 4, 1] (lv' := [(0, .ref (ad 129)), (1, .ref (ad a1)), (2, .int a2), (3, .int a3), (4, .int a4), (5, .int v13), (6, .int a6), (7, .int a7), (8, .int v1), (10, .int v5), (11, .int v12)]) rfl ?_
                exact s_X3_readRow_181 hn9 C M hk16 a1 a2 a3 a4 v13 a6 a7 v1 v5 v12 T11 ha1 h
              · refine r_iconst (v := 0) C dX3_readRow_142 (by decide) ?_
                exact r_zret C M dX3_readRow_143 (by decide) h
      · refine r_aload_n C dX3_readRow_64 rfl 4 rfl ?_
        refine r_iload_n C dX3_readRow_65 rfl 6 rfl ?_
        refine r_iload C dX3_readRow_66 1 rfl ?_
        refine r_iload C dX3_readRow_68 7 rfl ?_
        refine r_iconst (v := 1) C dX3_readRow_70 (by decide) ?_
        show Jr _ _ _ _ _ _ 71 _
        refine r_iload C dX3_readRow_71 9 rfl ?_
        refine r_isub C dX3_readRow_73 rfl ?_
        refine r_callSI C M h [.ref (ad a1), .int a3, .int v3, .int a4, .int ((1 : Int32) - a6)] [] mlX3_231 mcX11_firstOther (fun q9 e9 => s_X11_firstOther a1 a3 v3 a4 ((1 : Int32) - a6) ha1 e9) (by decide) (by decide) rfl rfl (Nat.le_of_ble_eq_true rfl) dX3_readRow_74 (fun v14 T15 h => ?_)
        refine r_istore (lv' := [(11, .int v14), (10, .int v5), (9, .int v3), (8, .int v1), (0, .ref (ad 129)), (1, .ref (ad a1)), (2, .int a2), (3, .int a3), (4, .int a4), (5, .int a5), (6, .int a6), (7, .int a7)]) C dX3_readRow_77 (by rw [hn9]; decide) rfl ?_
        refine r_iload C dX3_readRow_79 0 rfl ?_
        refine r_istore (lv' := [(5, .int v14), (11, .int v14), (10, .int v5), (9, .int v3), (8, .int v1), (0, .ref (ad 129)), (1, .ref (ad a1)), (2, .int a2), (3, .int a3), (4, .int a4), (6, .int a6), (7, .int a7)]) C dX3_readRow_81 (by rw [hn9]; decide) rfl ?_
        show Jr _ _ _ _ _ _ 83 _
        refine r_goto (tgt := 181) C dX3_readRow_83 (by decide) ?_
        refine Jr.sub [5, 6, 7, 8, 9, 0, 10, 11, 4, 2, 1] (lv' := [(0, .ref (ad 129)), (1, .ref (ad a1)), (2, .int a2), (3, .int a3), (4, .int a4), (5, .int v14), (6, .int a6), (7, .int a7), (8, .int v1), (10, .int v5), (11, .int v14)]) rfl ?_
        exact s_X3_readRow_181 hn9 C M hk16 a1 a2 a3 a4 v14 a6 a7 v1 v5 v14 T15 ha1 h
noncomputable def f_X3_readRow_l16 (n : Nat) : Nat → Int32 → Int32 → Int32 → Int32 → Int32 → Int32 → Mm → Option (Int32 × Mm) := Nat.rec (fun _ _ _ _ _ _ _ _ => none) (fun _ ih => f_X3_readRow_b16 ih) n
theorem s_X3_readRow_l16 {x : JX} {ad : Nat → Nat} {U : Mm} {S0 : Hp} {q : Int32 × Mm}  (hn9 : x_n x = 14) (C : CB x RX3 cX3_readRow) (M : CMr x 5 (some .boolean) S0 ad true U eI q) : ∀ (n : Nat), ∀ (a1 : Nat) (a2 : Int32) (a3 : Int32) (a4 : Int32) (a5 : Int32) (a6 : Int32) (a7 : Int32) (T : Mm) (_ : kS true a1 = 14), f_X3_readRow_l16  n a1 a2 a3 a4 a5 a6 a7 T = some q → Jr x ad true U T [(0, .ref (ad 129)), (1, .ref (ad a1)), (2, .int a2), (3, .int a3), (4, .int a4), (5, .int a5), (6, .int a6), (7, .int a7)] 16 [] := by
  intro n
  induction n with
  | zero => intro a1 a2 a3 a4 a5 a6 a7 T _ h; exact absurd h (by intro h; cases h)
  | succ n ih => exact fun a1 a2 a3 a4 a5 a6 a7 T ha1 h => s_X3_readRow_b16 hn9 C M (ih) a1 a2 a3 a4 a5 a6 a7 T ha1 h
noncomputable def f_X3_readRow (p1 : Nat) (p2 : Int32) (p3 : Int32) (T : Mm) : Option (Int32 × Mm) :=
  lb (((gJ T 309 129)).toInt32) fun v1 =>
  f_X3_readRow_l16 FU p1 p2 p3 v1 (-1) 0 0 T
set_option maxRecDepth 100000 in
set_option maxHeartbeats 4000000 in
theorem s_X3_readRow {ad : Nat → Nat} {U T : Mm} {q : Int32 × Mm}  (p1 : Nat) (p2 : Int32) (p3 : Int32) (hk1 : kS true p1 = 14) (h : f_X3_readRow p1 p2 p3 T = some q) : Cr 5 yX3_readRow cX3_readRow 14 (some .boolean) [.ref (ad 129), .ref (ad p1), .int p2, .int p3] ad true U T eI q := by
  refine cr_of (by decide) (Nat.le_of_ble_eq_true rfl) fun x S0 hn9 C M => ?_
  have C : CB x RX3 cX3_readRow := C
  refine Jr.eq (lv' := [(0, .ref (ad 129)), (1, .ref (ad p1)), (2, .int p2), (3, .int p3)]) (st' := []) rfl rfl ?_
  unfold f_X3_readRow at h
  refine r_aload_n C dX3_readRow_0 rfl 0 rfl ?_
  refine r_getl (f := 309) C flX3_105 dX3_readRow_1 kq_129 (by decide) rfl ?_
  refine r_l2i C dX3_readRow_4 rfl ?_
  refine r_lbI h (fun v1 h => ?_)
  refine r_istore (lv' := [(4, .int v1), (0, .ref (ad 129)), (1, .ref (ad p1)), (2, .int p2), (3, .int p3)]) C dX3_readRow_5 (by rw [hn9]; decide) rfl ?_
  refine r_iconst (v := (-1)) C dX3_readRow_7 (by decide) ?_
  show Jr _ _ _ _ _ _ 8 _
  refine r_istore (lv' := [(5, .int (-1)), (4, .int v1), (0, .ref (ad 129)), (1, .ref (ad p1)), (2, .int p2), (3, .int p3)]) C dX3_readRow_8 (by rw [hn9]; decide) rfl ?_
  refine r_iconst (v := 0) C dX3_readRow_10 (by decide) ?_
  refine r_istore (lv' := [(6, .int 0), (5, .int (-1)), (4, .int v1), (0, .ref (ad 129)), (1, .ref (ad p1)), (2, .int p2), (3, .int p3)]) C dX3_readRow_11 (by rw [hn9]; decide) rfl ?_
  refine r_iconst (v := 0) C dX3_readRow_13 (by decide) ?_
  refine r_istore (lv' := [(7, .int 0), (6, .int 0), (5, .int (-1)), (4, .int v1), (0, .ref (ad 129)), (1, .ref (ad p1)), (2, .int p2), (3, .int p3)]) C dX3_readRow_14 (by rw [hn9]; decide) rfl ?_
  refine Jr.sub [4, 5, 6, 7, 3, 2, 1, 0] (lv' := [(0, .ref (ad 129)), (1, .ref (ad p1)), (2, .int p2), (3, .int p3), (4, .int v1), (5, .int (-1)), (6, .int 0), (7, .int 0)]) rfl ?_
  exact s_X3_readRow_l16 hn9 C M  FU p1 p2 p3 v1 (-1) 0 0 T hk1 h
