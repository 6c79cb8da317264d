theorem dX9_boxSide_0 : decode cX9_boxSide 0 = .ok (.aload_n 0, 1) := by decide +kernel
theorem dX9_boxSide_1 : decode cX9_boxSide 1 = .ok (.getfield 82, 3) := by decide +kernel
theorem dX9_boxSide_4 : decode cX9_boxSide 4 = .ok (.bipush 10, 2) := by decide +kernel
theorem dX9_boxSide_6 : decode cX9_boxSide 6 = .ok (.invokevirtual 431, 3) := by decide +kernel
theorem dX9_boxSide_9 : decode cX9_boxSide 9 = .ok (.lstore_n 2, 1) := by decide +kernel
theorem dX9_boxSide_10 : decode cX9_boxSide 10 = .ok (.lload_n 2, 1) := by decide +kernel
theorem dX9_boxSide_11 : decode cX9_boxSide 11 = .ok (.lconst 0, 1) := by decide +kernel
theorem dX9_boxSide_12 : decode cX9_boxSide 12 = .ok (.lcmp, 1) := by decide +kernel
theorem dX9_boxSide_13 : decode cX9_boxSide 13 = .ok (.ifCond .lt 18, 3) := by decide +kernel
theorem dX9_boxSide_16 : decode cX9_boxSide 16 = .ok (.lload_n 2, 1) := by decide +kernel
theorem dX9_boxSide_17 : decode cX9_boxSide 17 = .ok (.ldc2_w 608, 3) := by decide +kernel
theorem dX9_boxSide_20 : decode cX9_boxSide 20 = .ok (.ladd, 1) := by decide +kernel
theorem dX9_boxSide_21 : decode cX9_boxSide 21 = .ok (.lconst 1, 1) := by decide +kernel
theorem dX9_boxSide_22 : decode cX9_boxSide 22 = .ok (.lsub, 1) := by decide +kernel
theorem dX9_boxSide_23 : decode cX9_boxSide 23 = .ok (.ldc2_w 608, 3) := by decide +kernel
theorem dX9_boxSide_26 : decode cX9_boxSide 26 = .ok (.ldiv, 1) := by decide +kernel
theorem dX9_boxSide_27 : decode cX9_boxSide 27 = .ok (.l2i, 1) := by decide +kernel
theorem dX9_boxSide_28 : decode cX9_boxSide 28 = .ok (.goto 4, 3) := by decide +kernel
theorem dX9_boxSide_31 : decode cX9_boxSide 31 = .ok (.iload_n 1, 1) := by decide +kernel
theorem dX9_boxSide_32 : decode cX9_boxSide 32 = .ok (.ireturn, 1) := by decide +kernel
noncomputable def f_X9_boxSide (p1 : Int32) (T : Mm) : Option (Int32 × Mm) :=
  rf true (gR T 913 23) 5 fun j1 =>
  bd (f_X5_units j1 10 T) fun v3 T4 =>
  if (lg_cmp v3 0) < 0 then (some (p1, T4))
  else (some (((((v3 + 96) - 1) / 96)).toInt32, T4))
set_option maxRecDepth 100000 in
set_option maxHeartbeats 4000000 in
theorem s_X9_boxSide {ad : Nat → Nat} {U T : Mm} {q : Int32 × Mm}  (p1 : Int32) (h : f_X9_boxSide p1 T = some q) : Cr 3 yX9_boxSide cX9_boxSide 4 (some .int) [.ref (ad 23), .int p1] ad true U T eI q := by
  refine cr_of (by decide) (Nat.le_of_ble_eq_true rfl) fun x S0 hn9 C M => ?_
  have C : CB x RX9 cX9_boxSide := C
  refine Jr.eq (lv' := [(0, .ref (ad 23)), (1, .int p1)]) (st' := []) rfl rfl ?_
  unfold f_X9_boxSide at h
  refine r_aload_n C dX9_boxSide_0 rfl 0 rfl ?_
  refine r_getr (f := 913) (c := 5) C flX9_82 dX9_boxSide_1 kq_23 (by decide) rfl h (fun j1 hj2 h => ?_)
  refine r_bipush (v := 10) C dX9_boxSide_4 (by decide) ?_
  refine r_callVJ C M h [.int 10] [] mlX9_431 mcX5_units (fun q9 e9 => s_X5_units j1 10 hj2 e9) hj2 rfl (by decide) (by decide) rfl rfl (Nat.le_of_ble_eq_true rfl) dX9_boxSide_6 (fun v3 T4 h => ?_)
  refine r_lstore_n (lv' := [(2, .long v3), (0, .ref (ad 23)), (1, .int p1)]) C dX9_boxSide_9 rfl (by rw [hn9]; decide) rfl ?_
  show Jr _ _ _ _ _ _ 10 _
  refine r_lload_n C dX9_boxSide_10 rfl 0 rfl ?_
  refine r_lconst (v := 0) C dX9_boxSide_11 (by decide) ?_
  refine r_lcmp C dX9_boxSide_12 ?_
  refine r_if_lt (tgt := 31) C dX9_boxSide_13 (by decide) h (fun h => ?_) (fun h => ?_)
  · refine r_iload_n C dX9_boxSide_31 rfl 2 rfl ?_
    exact r_iret C M dX9_boxSide_32 h
  · refine r_lload_n C dX9_boxSide_16 rfl 0 rfl ?_
    refine r_ldc2 (v := 96) C dX9_boxSide_17 kcX9_608 ?_
    refine r_ladd C dX9_boxSide_20 rfl ?_
    refine r_lconst (v := 1) C dX9_boxSide_21 (by decide) ?_
    refine r_lsub C dX9_boxSide_22 rfl ?_
    show Jr _ _ _ _ _ _ 23 _
    refine r_ldc2 (v := 96) C dX9_boxSide_23 kcX9_608 ?_
    refine r_ldiv C dX9_boxSide_26 (by decide) rfl ?_
    refine r_l2i C dX9_boxSide_27 rfl ?_
    refine r_goto (tgt := 32) C dX9_boxSide_28 (by decide) ?_
    exact r_iret C M dX9_boxSide_32 h
noncomputable def f_X10_white (p0 : Nat) (T : Mm) : Option (Unit × Mm) :=
  bd (f_X10_size p0 1 1 T) fun _ T1 =>
  bd (f_X10_setRow p0 0 0 T1) fun _ T2 =>
  lb (uI T2 1002 p0 1) fun T3 =>
  some ((), T3)
set_option maxRecDepth 100000 in
set_option maxHeartbeats 4000000 in
theorem s_X10_white {ad : Nat → Nat} {U T : Mm} {q : Unit × Mm}  (p0 : Nat) (hk0 : kS true p0 = 10) (h : f_X10_white p0 T = some q) : Cr 3 yX10_white cX10_white 1 none [.ref (ad p0)] ad true U T eV q := by
  refine cr_of (by decide) (Nat.le_of_ble_eq_true rfl) fun x S0 hn9 C M => ?_
  have C : CB x RX10 cX10_white := C
  refine Jr.eq (lv' := [(0, .ref (ad p0))]) (st' := []) rfl rfl ?_
  unfold f_X10_white at h
  refine r_aload_n C dX10_white_0 rfl 0 rfl ?_
  refine r_iconst (v := 1) C dX10_white_1 (by decide) ?_
  refine r_iconst (v := 1) C dX10_white_2 (by decide) ?_
  refine r_callVN C M h [.int 1, .int 1] [] mlX10_39 mcX10_size (fun q9 e9 => s_X10_size p0 1 1 hk0 e9) hk0 rfl (by decide) (by decide) rfl rfl (Nat.le_of_ble_eq_true rfl) dX10_white_3 (fun _ T1 h => ?_)
  refine r_aload_n C dX10_white_6 rfl 0 rfl ?_
  show Jr _ _ _ _ _ _ 7 _
  refine r_iconst (v := 0) C dX10_white_7 (by decide) ?_
  refine r_iconst (v := 0) C dX10_white_8 (by decide) ?_
  refine r_callVN C M h [.int 0, .int 0] [] mlX10_43 mcX10_setRow (fun q9 e9 => s_X10_setRow p0 0 0 hk0 e9) hk0 rfl (by decide) (by decide) rfl rfl (Nat.le_of_ble_eq_true rfl) dX10_white_9 (fun _ T2 h => ?_)
  refine r_aload_n C dX10_white_12 rfl 0 rfl ?_
  refine r_iconst (v := 1) C dX10_white_13 (by decide) ?_
  refine r_putz (f := 1002) C flX10_20 (by decide) rfl rfl (by decide) dX10_white_14 hk0 rfl h (fun T3 h => ?_)
  show Jr _ _ _ _ _ _ 17 _
  exact r_vret C M dX10_white_17 h
noncomputable def f_X10_shade_b18 (k8 : Nat → Int32 → Int32 → Mm → Option (Unit × Mm)) (k18 : Nat → Int32 → Int32 → Int32 → Int32 → Mm → Option (Unit × Mm)) (a0 : Nat) (a1 : Int32) (a2 : Int32) (a3 : Int32) (a4 : Int32) (T : Mm) : Option (Unit × Mm) :=
  if 4 ≤ a4 then (bd (f_X10_setRow a0 a2 a3 T) fun _ T1 =>
  k8 a0 a1 (a2 + 1) T1)
  else (ix (((4 : Int32) * a2) + a4) 16 fun j2 =>
  if ((16 : Int32) * a1) ≤ ((100 : Int32) * (st_SHADES.getD j2 0)) then (lb (((a3 <<< ((1 : Int32) &&& 31)) ||| 0)) fun v4 =>
  k18 a0 a1 a2 v4 (a4 + 1) T)
  else (lb (((a3 <<< ((1 : Int32) &&& 31)) ||| 1)) fun v5 =>
  k18 a0 a1 a2 v5 (a4 + 1) T))
set_option maxRecDepth 100000 in
set_option maxHeartbeats 4000000 in
theorem s_X10_shade_b18 {x : JX} {ad : Nat → Nat} {U : Mm} {S0 : Hp} {q : Unit × Mm}  {k8 : Nat → Int32 → Int32 → Mm → Option (Unit × Mm)} {k18 : Nat → Int32 → Int32 → Int32 → Int32 → Mm → Option (Unit × Mm)} (hn9 : x_n x = 6) (C : CB x RX10 cX10_shade) (M : CMr x 3 none S0 ad true U eV q) (hk8 : ∀ (a0 : Nat) (a1 : Int32) (a2 : Int32) (T : Mm) (_ : kS true a0 = 10), k8 a0 a1 a2 T = some q → Jr x ad true U T [(0, .ref (ad a0)), (1, .int a1), (2, .int a2)] 8 []) (hk18 : ∀ (a0 : Nat) (a1 : Int32) (a2 : Int32) (a3 : Int32) (a4 : Int32) (T : Mm) (_ : kS true a0 = 10), k18 a0 a1 a2 a3 a4 T = some q → Jr x ad true U T [(0, .ref (ad a0)), (1, .int a1), (2, .int a2), (3, .int a3), (4, .int a4)] 18 []) (a0 : Nat) (a1 : Int32) (a2 : Int32) (a3 : Int32) (a4 : Int32) (T : Mm) (ha0 : kS true a0 = 10) (h : f_X10_shade_b18 k8 k18 a0 a1 a2 a3 a4 T = some q) : Jr x ad true U T [(0, .ref (ad a0)), (1, .int a1), (2, .int a2), (3, .int a3), (4, .int a4)] 18 [] := by
  unfold f_X10_shade_b18 at h
  refine r_iload C dX10_shade_18 4 rfl ?_
  refine r_iconst (v := 4) C dX10_shade_20 (by decide) ?_
  refine r_ic_ge (tgt := 64) C dX10_shade_21 (by decide) h (fun h => ?_) (fun h => ?_)
  · refine r_aload_n C dX10_shade_64 rfl 0 rfl ?_
    refine r_iload_n C dX10_shade_65 rfl 2 rfl ?_
    refine r_iload_n C dX10_shade_66 rfl 3 rfl ?_
    refine r_callVN C M h [.int a2, .int a3] [] mlX10_43 mcX10_setRow (fun q9 e9 => s_X10_setRow a0 a2 a3 ha0 e9) ha0 rfl (by decide) (by decide) rfl rfl (Nat.le_of_ble_eq_true rfl) dX10_shade_67 (fun _ T1 h => ?_)
    refine r_iinc (q := 2) (v := (a2 + 1)) (lv' := [(2, .int (a2 + 1)), (0, .ref (ad a0)), (1, .int a1), (3, .int a3), (4, .int a4)]) C dX10_shade_70 rfl (by rw [show Int32.ofInt (1) = 1 by decide]) (by rw [hn9]; decide) rfl ?_
    show Jr _ _ _ _ _ _ 73 _
    refine r_goto (tgt := 8) C dX10_shade_73 (by decide) ?_
    refine Jr.sub [1, 2, 0] (lv' := [(0, .ref (ad a0)), (1, .int a1), (2, .int (a2 + 1))]) rfl ?_
    exact hk8 a0 a1 (a2 + 1) T1 ha0 h
  · refine r_bipush (v := 100) C dX10_shade_24 (by decide) ?_
    refine r_gets C 6 rfl (Or.inl gsX10_46) dX10_shade_26 ?_
    refine r_iconst (v := 4) C dX10_shade_29 (by decide) ?_
    refine r_iload_n C dX10_shade_30 rfl 2 rfl ?_
    refine r_imul C dX10_shade_31 rfl ?_
    show Jr _ _ _ _ _ _ 32 _
    refine r_iload C dX10_shade_32 4 rfl ?_
    refine r_iadd C dX10_shade_34 rfl ?_
    refine r_stld C 6 rfl (n := 16) rfl dX10_shade_35 h (fun j2 hj3 h => ?_)
    refine r_imul C dX10_shade_36 rfl ?_
    refine r_bipush (v := 16) C dX10_shade_37 (by decide) ?_
    refine r_iload_n C dX10_shade_39 rfl 1 rfl ?_
    show Jr _ _ _ _ _ _ 40 _
    refine r_imul C dX10_shade_40 rfl ?_
    refine r_ic_ge (tgt := 48) C dX10_shade_41 (by decide) h (fun h => ?_) (fun h => ?_)
    · refine r_iconst (v := 0) C dX10_shade_48 (by decide) ?_
      refine r_istore (lv' := [(5, .int 0), (0, .ref (ad a0)), (1, .int a1), (2, .int a2), (3, .int a3), (4, .int a4)]) C dX10_shade_49 (by rw [hn9]; decide) rfl ?_
      refine r_iload_n C dX10_shade_51 rfl 4 rfl ?_
      refine r_iconst (v := 1) C dX10_shade_52 (by decide) ?_
      refine r_ishl C dX10_shade_53 rfl ?_
      show Jr _ _ _ _ _ _ 54 _
      refine r_iload C dX10_shade_54 0 rfl ?_
      refine r_ior C dX10_shade_56 rfl ?_
      refine r_lbI h (fun v4 h => ?_)
      refine r_istore_n (lv' := [(3, .int v4), (5, .int 0), (0, .ref (ad a0)), (1, .int a1), (2, .int a2), (4, .int a4)]) C dX10_shade_57 rfl (by rw [hn9]; decide) rfl ?_
      refine r_iinc (q := 5) (v := (a4 + 1)) (lv' := [(4, .int (a4 + 1)), (3, .int v4), (5, .int 0), (0, .ref (ad a0)), (1, .int a1), (2, .int a2)]) C dX10_shade_58 rfl (by rw [show Int32.ofInt (1) = 1 by decide]) (by rw [hn9]; decide) rfl ?_
      refine r_goto (tgt := 18) C dX10_shade_61 (by decide) ?_
      refine Jr.sub [3, 4, 5, 1, 0] (lv' := [(0, .ref (ad a0)), (1, .int a1), (2, .int a2), (3, .int v4), (4, .int (a4 + 1))]) rfl ?_
      exact hk18 a0 a1 a2 v4 (a4 + 1) T ha0 h
    · refine r_iconst (v := 1) C dX10_shade_44 (by decide) ?_
      refine r_goto (tgt := 49) C dX10_shade_45 (by decide) ?_
      refine r_istore (lv' := [(5, .int 1), (0, .ref (ad a0)), (1, .int a1), (2, .int a2), (3, .int a3), (4, .int a4)]) C dX10_shade_49 (by rw [hn9]; decide) rfl ?_
      refine r_iload_n C dX10_shade_51 rfl 4 rfl ?_
      refine r_iconst (v := 1) C dX10_shade_52 (by decide) ?_
      show Jr _ _ _ _ _ _ 53 _
      refine r_ishl C dX10_shade_53 rfl ?_
      refine r_iload C dX10_shade_54 0 rfl ?_
      refine r_ior C dX10_shade_56 rfl ?_
      refine r_lbI h (fun v5 h => ?_)
      refine r_istore_n (lv' := [(3, .int v5), (5, .int 1), (0, .ref (ad a0)), (1, .int a1), (2, .int a2), (4, .int a4)]) C dX10_shade_57 rfl (by rw [hn9]; decide) rfl ?_
      refine r_iinc (q := 5) (v := (a4 + 1)) (lv' := [(4, .int (a4 + 1)), (3, .int v5), (5, .int 1), (0, .ref (ad a0)), (1, .int a1), (2, .int a2)]) C dX10_shade_58 rfl (by rw [show Int32.ofInt (1) = 1 by decide]) (by rw [hn9]; decide) rfl ?_
      refine r_goto (tgt := 18) C dX10_shade_61 (by decide) ?_
      refine Jr.sub [3, 4, 5, 1, 0] (lv' := [(0, .ref (ad a0)), (1, .int a1), (2, .int a2), (3, .int v5), (4, .int (a4 + 1))]) rfl ?_
      exact hk18 a0 a1 a2 v5 (a4 + 1) T ha0 h
noncomputable def f_X10_shade_l18 (k8 : Nat → Int32 → Int32 → Mm → Option (Unit × Mm)) (n : Nat) : Nat → Int32 → Int32 → Int32 → Int32 → Mm → Option (Unit × Mm) := Nat.rec (fun _ _ _ _ _ _ => none) (fun _ ih => f_X10_shade_b18 k8 ih) n
theorem s_X10_shade_l18 {x : JX} {ad : Nat → Nat} {U : Mm} {S0 : Hp} {q : Unit × Mm}  {k8 : Nat → Int32 → Int32 → Mm → Option (Unit × Mm)} (hn9 : x_n x = 6) (C : CB x RX10 cX10_shade) (M : CMr x 3 none S0 ad true U eV q) (hk8 : ∀ (a0 : Nat) (a1 : Int32) (a2 : Int32) (T : Mm) (_ : kS true a0 = 10), k8 a0 a1 a2 T = some q → Jr x ad true U T [(0, .ref (ad a0)), (1, .int a1), (2, .int a2)] 8 []) : ∀ (n : Nat), ∀ (a0 : Nat) (a1 : Int32) (a2 : Int32) (a3 : Int32) (a4 : Int32) (T : Mm) (_ : kS true a0 = 10), f_X10_shade_l18 k8 n a0 a1 a2 a3 a4 T = some q → Jr x ad true U T [(0, .ref (ad a0)), (1, .int a1), (2, .int a2), (3, .int a3), (4, .int a4)] 18 [] := by
  intro n
  induction n with
  | zero => intro a0 a1 a2 a3 a4 T _ h; exact absurd h (by intro h; cases h)
  | succ n ih => exact fun a0 a1 a2 a3 a4 T ha0 h => s_X10_shade_b18 hn9 C M hk8 (ih) a0 a1 a2 a3 a4 T ha0 h
noncomputable def f_X10_shade_b8 (k8 : Nat → Int32 → Int32 → Mm → Option (Unit × Mm)) (a0 : Nat) (a1 : Int32) (a2 : Int32) (T : Mm) : Option (Unit × Mm) :=
  if 4 ≤ a2 then (some ((), T))
  else (f_X10_shade_l18 k8 FU a0 a1 a2 0 0 T)
set_option maxRecDepth 100000 in
set_option maxHeartbeats 4000000 in
theorem s_X10_shade_b8 {x : JX} {ad : Nat → Nat} {U : Mm} {S0 : Hp} {q : Unit × Mm}  {k8 : Nat → Int32 → Int32 → Mm → Option (Unit × Mm)} (hn9 : x_n x = 6) (C : CB x RX10 cX10_shade) (M : CMr x 3 none S0 ad true U eV q) (hk8 : ∀ (a0 : Nat) (a1 : Int32) (a2 : Int32) (T : Mm) (_ : kS true a0 = 10), k8 a0 a1 a2 T = some q → Jr x ad true U T [(0, .ref (ad a0)), (1, .int a1), (2, .int a2)] 8 []) (a0 : Nat) (a1 : Int32) (a2 : Int32) (T : Mm) (ha0 : kS true a0 = 10) (h : f_X10_shade_b8 k8 a0 a1 a2 T = some q) : Jr x ad true U T [(0, .ref (ad a0)), (1, .int a1), (2, .int a2)] 8 [] := by
  unfold f_X10_shade_b8 at h
  refine r_iload_n C dX10_shade_8 rfl 2 rfl ?_
  refine r_iconst (v := 4) C dX10_shade_9 (by decide) ?_
  refine r_ic_ge (tgt := 76) C dX10_shade_10 (by decide) h (fun h => ?_) (fun h => ?_)
  · exact r_vret C M dX10_shade_76 h
  · refine r_iconst (v := 0) C dX10_shade_13 (by decide) ?_
    refine r_istore_n (lv' := [(3, .int 0), (0, .ref (ad a0)), (1, .int a1), (2, .int a2)]) C dX10_shade_14 rfl (by rw [hn9]; decide) rfl ?_
    refine r_iconst (v := 0) C dX10_shade_15 (by decide) ?_
    refine r_istore (lv' := [(4, .int 0), (3, .int 0), (0, .ref (ad a0)), (1, .int a1), (2, .int a2)]) C dX10_shade_16 (by rw [hn9]; decide) rfl ?_
    refine Jr.sub [2, 3, 4, 1, 0] (lv' := [(0, .ref (ad a0)), (1, .int a1), (2, .int a2), (3, .int 0), (4, .int 0)]) rfl ?_
    exact s_X10_shade_l18 hn9 C M hk8 FU a0 a1 a2 0 0 T ha0 h
noncomputable def f_X10_shade_l8 (n : Nat) : Nat → Int32 → Int32 → Mm → Option (Unit × Mm) := Nat.rec (fun _ _ _ _ => none) (fun _ ih => f_X10_shade_b8 ih) n
theorem s_X10_shade_l8 {x : JX} {ad : Nat → Nat} {U : Mm} {S0 : Hp} {q : Unit × Mm}  (hn9 : x_n x = 6) (C : CB x RX10 cX10_shade) (M : CMr x 3 none S0 ad true U eV q) : ∀ (n : Nat), ∀ (a0 : Nat) (a1 : Int32) (a2 : Int32) (T : Mm) (_ : kS true a0 = 10), f_X10_shade_l8  n a0 a1 a2 T = some q → Jr x ad true U T [(0, .ref (ad a0)), (1, .int a1), (2, .int a2)] 8 [] := by
  intro n
  induction n with
  | zero => intro a0 a1 a2 T _ h; exact absurd h (by intro h; cases h)
  | succ n ih => exact fun a0 a1 a2 T ha0 h => s_X10_shade_b8 hn9 C M (ih) a0 a1 a2 T ha0 h
noncomputable def f_X10_shade (p0 : Nat) (p1 : Int32) (T : Mm) : Option (Unit × Mm) :=
  bd (f_X10_size p0 4 4 T) fun _ T1 =>
  f_X10_shade_l8 FU p0 p1 0 T1
set_option maxRecDepth 100000 in
set_option maxHeartbeats 4000000 in
theorem s_X10_shade {ad : Nat → Nat} {U T : Mm} {q : Unit × Mm}  (p0 : Nat) (p1 : Int32) (hk0 : kS true p0 = 10) (h : f_X10_shade p0 p1 T = some q) : Cr 3 yX10_shade cX10_shade 6 none [.ref (ad p0), .int p1] ad true U T eV q := by
  refine cr_of (by decide) (Nat.le_of_ble_eq_true rfl) fun x S0 hn9 C M => ?_
  have C : CB x RX10 cX10_shade := C
  refine Jr.eq (lv' := [(0, .ref (ad p0)), (1, .int p1)]) (st' := []) rfl rfl ?_
  unfold f_X10_shade at h
  refine r_aload_n C dX10_shade_0 rfl 0 rfl ?_
  refine r_iconst (v := 4) C dX10_shade_1 (by decide) ?_
  refine r_iconst (v := 4) C dX10_shade_2 (by decide) ?_
  refine r_callVN C M h [.int 4, .int 4] [] mlX10_39 mcX10_size (fun q9 e9 => s_X10_size p0 4 4 hk0 e9) hk0 rfl (by decide) (by decide) rfl rfl (Nat.le_of_ble_eq_true rfl) dX10_shade_3 (fun _ T1 h => ?_)
  refine r_iconst (v := 0) C dX10_shade_6 (by decide) ?_
  show Jr _ _ _ _ _ _ 7 _
  refine r_istore_n (lv' := [(2, .int 0), (0, .ref (ad p0)), (1, .int p1)]) C dX10_shade_7 rfl (by rw [hn9]; decide) rfl ?_
  refine Jr.sub [1, 2, 0] (lv' := [(0, .ref (ad p0)), (1, .int p1), (2, .int 0)]) rfl ?_
  exact s_X10_shade_l8 hn9 C M  FU p0 p1 0 T1 hk0 h
theorem dX10_isHatched_0 : decode cX10_isHatched 0 = .ok (.iload_n 1, 1) := by decide +kernel
theorem dX10_isHatched_1 : decode cX10_isHatched 1 = .ok (.iload_n 2, 1) := by decide +kernel
theorem dX10_isHatched_2 : decode cX10_isHatched 2 = .ok (.iadd, 1) := by decide +kernel
theorem dX10_isHatched_3 : decode cX10_isHatched 3 = .ok (.bipush 7, 2) := by decide +kernel
theorem dX10_isHatched_5 : decode cX10_isHatched 5 = .ok (.iand, 1) := by decide +kernel
theorem dX10_isHatched_6 : decode cX10_isHatched 6 = .ok (.ifCond .ne 7, 3) := by decide +kernel
theorem dX10_isHatched_9 : decode cX10_isHatched 9 = .ok (.iconst 1, 1) := by decide +kernel
theorem dX10_isHatched_10 : decode cX10_isHatched 10 = .ok (.goto 4, 3) := by decide +kernel
theorem dX10_isHatched_13 : decode cX10_isHatched 13 = .ok (.iconst 0, 1) := by decide +kernel
theorem dX10_isHatched_14 : decode cX10_isHatched 14 = .ok (.istore_n 3, 1) := by decide +kernel
theorem dX10_isHatched_15 : decode cX10_isHatched 15 = .ok (.iload_n 1, 1) := by decide +kernel
theorem dX10_isHatched_16 : decode cX10_isHatched 16 = .ok (.iload_n 2, 1) := by decide +kernel
theorem dX10_isHatched_17 : decode cX10_isHatched 17 = .ok (.isub, 1) := by decide +kernel
theorem dX10_isHatched_18 : decode cX10_isHatched 18 = .ok (.bipush 7, 2) := by decide +kernel
theorem dX10_isHatched_20 : decode cX10_isHatched 20 = .ok (.iand, 1) := by decide +kernel
theorem dX10_isHatched_21 : decode cX10_isHatched 21 = .ok (.ifCond .ne 7, 3) := by decide +kernel
theorem dX10_isHatched_24 : decode cX10_isHatched 24 = .ok (.iconst 1, 1) := by decide +kernel
theorem dX10_isHatched_25 : decode cX10_isHatched 25 = .ok (.goto 4, 3) := by decide +kernel
theorem dX10_isHatched_28 : decode cX10_isHatched 28 = .ok (.iconst 0, 1) := by decide +kernel
theorem dX10_isHatched_29 : decode cX10_isHatched 29 = .ok (.istore 4, 2) := by decide +kernel
theorem dX10_isHatched_31 : decode cX10_isHatched 31 = .ok (.iload_n 0, 1) := by decide +kernel
theorem dX10_isHatched_32 : decode cX10_isHatched 32 = .ok (.tableswitch 75 1 5 #[36, 46, 56, 58, 61], 36) := by decide +kernel
theorem dX10_isHatched_68 : decode cX10_isHatched 68 = .ok (.iload_n 2, 1) := by decide +kernel
theorem dX10_isHatched_69 : decode cX10_isHatched 69 = .ok (.ifCond .ne 7, 3) := by decide +kernel
theorem dX10_isHatched_72 : decode cX10_isHatched 72 = .ok (.iconst 1, 1) := by decide +kernel
theorem dX10_isHatched_73 : decode cX10_isHatched 73 = .ok (.goto 4, 3) := by decide +kernel
theorem dX10_isHatched_76 : decode cX10_isHatched 76 = .ok (.iconst 0, 1) := by decide +kernel
theorem dX10_isHatched_77 : decode cX10_isHatched 77 = .ok (.ireturn, 1) := by decide +kernel
theorem dX10_isHatched_78 : decode cX10_isHatched 78 = .ok (.iload_n 1, 1) := by decide +kernel
theorem dX10_isHatched_79 : decode cX10_isHatched 79 = .ok (.ifCond .ne 7, 3) := by decide +kernel
theorem dX10_isHatched_82 : decode cX10_isHatched 82 = .ok (.iconst 1, 1) := by decide +kernel
theorem dX10_isHatched_83 : decode cX10_isHatched 83 = .ok (.goto 4, 3) := by decide +kernel
theorem dX10_isHatched_86 : decode cX10_isHatched 86 = .ok (.iconst 0, 1) := by decide +kernel
theorem dX10_isHatched_87 : decode cX10_isHatched 87 = .ok (.ireturn, 1) := by decide +kernel
theorem dX10_isHatched_88 : decode cX10_isHatched 88 = .ok (.iload_n 3, 1) := by decide +kernel
theorem dX10_isHatched_89 : decode cX10_isHatched 89 = .ok (.ireturn, 1) := by decide +kernel
theorem dX10_isHatched_90 : decode cX10_isHatched 90 = .ok (.iload 4, 2) := by decide +kernel
theorem dX10_isHatched_92 : decode cX10_isHatched 92 = .ok (.ireturn, 1) := by decide +kernel
theorem dX10_isHatched_93 : decode cX10_isHatched 93 = .ok (.iload_n 1, 1) := by decide +kernel
theorem dX10_isHatched_94 : decode cX10_isHatched 94 = .ok (.ifCond .eq 7, 3) := by decide +kernel
theorem dX10_isHatched_97 : decode cX10_isHatched 97 = .ok (.iload_n 2, 1) := by decide +kernel
theorem dX10_isHatched_98 : decode cX10_isHatched 98 = .ok (.ifCond .ne 7, 3) := by decide +kernel
theorem dX10_isHatched_101 : decode cX10_isHatched 101 = .ok (.iconst 1, 1) := by decide +kernel
theorem dX10_isHatched_102 : decode cX10_isHatched 102 = .ok (.goto 4, 3) := by decide +kernel
theorem dX10_isHatched_105 : decode cX10_isHatched 105 = .ok (.iconst 0, 1) := by decide +kernel
theorem dX10_isHatched_106 : decode cX10_isHatched 106 = .ok (.ireturn, 1) := by decide +kernel
theorem dX10_isHatched_107 : decode cX10_isHatched 107 = .ok (.iload_n 3, 1) := by decide +kernel
theorem dX10_isHatched_108 : decode cX10_isHatched 108 = .ok (.ifCond .ne 8, 3) := by decide +kernel
theorem dX10_isHatched_111 : decode cX10_isHatched 111 = .ok (.iload 4, 2) := by decide +kernel
theorem dX10_isHatched_113 : decode cX10_isHatched 113 = .ok (.ifCond .eq 7, 3) := by decide +kernel
theorem dX10_isHatched_116 : decode cX10_isHatched 116 = .ok (.iconst 1, 1) := by decide +kernel
theorem dX10_isHatched_117 : decode cX10_isHatched 117 = .ok (.goto 4, 3) := by decide +kernel
theorem dX10_isHatched_120 : decode cX10_isHatched 120 = .ok (.iconst 0, 1) := by decide +kernel
theorem dX10_isHatched_121 : decode cX10_isHatched 121 = .ok (.ireturn, 1) := by decide +kernel
noncomputable def f_X10_isHatched_29 (a0 : Int32) (a1 : Int32) (a2 : Int32) (a3 : Int32) (b0 : Int32) (T : Mm) : Option (Int32 × Mm) :=
  if a0 = 1 then (if a2 = 0 then (some (1, T))
  else (some (0, T)))
  else if a0 = 2 then (if a1 = 0 then (some (1, T))
  else (some (0, T)))
  else if a0 = 3 then (gd (a3 = 0 ∨ a3 = 1) <|
  some (a3, T))
  else if a0 = 4 then (gd (b0 = 0 ∨ b0 = 1) <|
  some (b0, T))
  else if a0 = 5 then (if a1 = 0 then (some (1, T))
  else (if a2 = 0 then (some (1, T))
  else (some (0, T))))
  else (if a3 = 0 then (if b0 = 0 then (some (0, T))
  else (some (1, T)))
  else (some (1, T)))
set_option maxRecDepth 100000 in
set_option maxHeartbeats 4000000 in
theorem s_X10_isHatched_29 {x : JX} {ad : Nat → Nat} {U : Mm} {S0 : Hp} {q : Int32 × Mm}  (hn9 : x_n x = 5) (C : CB x RX10 cX10_isHatched) (M : CMr x 1 (some .boolean) S0 ad true U eI q) (a0 : Int32) (a1 : Int32) (a2 : Int32) (a3 : Int32) (b0 : Int32) (T : Mm) (h : f_X10_isHatched_29  a0 a1 a2 a3 b0 T = some q) : Jr x ad true U T [(0, .int a0), (1, .int a1), (2, .int a2), (3, .int a3)] 29 [.int b0] := by
  unfold f_X10_isHatched_29 at h
  refine r_istore (lv' := [(4, .int b0), (0, .int a0), (1, .int a1), (2, .int a2), (3, .int a3)]) C dX10_isHatched_29 (by rw [hn9]; decide) rfl ?_
  refine r_iload_n C dX10_isHatched_31 rfl 1 rfl ?_
  by_cases hs1 : a0 = 1
  · rw [if_pos hs1] at h
    refine r_top hs1 ?_
    refine r_tabIn (off := 36) (tgt := 68) C dX10_isHatched_32 (by decide) (by decide) (by decide) (by decide) ?_
    refine r_iload_n C dX10_isHatched_68 rfl 3 rfl ?_
    refine r_if_ne (tgt := 76) C dX10_isHatched_69 (by decide) h (fun h => ?_) (fun h => ?_)
    · refine r_iconst (v := 0) C dX10_isHatched_76 (by decide) ?_
      exact r_zret C M dX10_isHatched_77 (by decide) h
    · refine r_iconst (v := 1) C dX10_isHatched_72 (by decide) ?_
      refine r_goto (tgt := 77) C dX10_isHatched_73 (by decide) ?_
      exact r_zret C M dX10_isHatched_77 (by decide) h
  rw [if_neg hs1] at h
  by_cases hs2 : a0 = 2
  · rw [if_pos hs2] at h
    refine r_top hs2 ?_
    refine r_tabIn (off := 46) (tgt := 78) C dX10_isHatched_32 (by decide) (by decide) (by decide) (by decide) ?_
    refine r_iload_n C dX10_isHatched_78 rfl 2 rfl ?_
    refine r_if_ne (tgt := 86) C dX10_isHatched_79 (by decide) h (fun h => ?_) (fun h => ?_)
    · refine r_iconst (v := 0) C dX10_isHatched_86 (by decide) ?_
      exact r_zret C M dX10_isHatched_87 (by decide) h
    · refine r_iconst (v := 1) C dX10_isHatched_82 (by decide) ?_
      refine r_goto (tgt := 87) C dX10_isHatched_83 (by decide) ?_
      exact r_zret C M dX10_isHatched_87 (by decide) h
  rw [if_neg hs2] at h
  by_cases hs3 : a0 = 3
  · rw [if_pos hs3] at h
    refine r_top hs3 ?_
    refine r_tabIn (off := 56) (tgt := 88) C dX10_isHatched_32 (by decide) (by decide) (by decide) (by decide) ?_
    refine r_iload_n C dX10_isHatched_88 rfl 4 rfl ?_
    refine r_gd h (fun hz4 h => ?_)
    exact r_zret C M dX10_isHatched_89 hz4 h
  rw [if_neg hs3] at h
  by_cases hs5 : a0 = 4
  · rw [if_pos hs5] at h
    refine r_top hs5 ?_
    refine r_tabIn (off := 58) (tgt := 90) C dX10_isHatched_32 (by decide) (by decide) (by decide) (by decide) ?_
    refine r_iload C dX10_isHatched_90 0 rfl ?_
    refine r_gd h (fun hz6 h => ?_)
    exact r_zret C M dX10_isHatched_92 hz6 h
  rw [if_neg hs5] at h
  by_cases hs7 : a0 = 5
  · rw [if_pos hs7] at h
    refine r_top hs7 ?_
    refine r_tabIn (off := 61) (tgt := 93) C dX10_isHatched_32 (by decide) (by decide) (by decide) (by decide) ?_
    refine r_iload_n C dX10_isHatched_93 rfl 2 rfl ?_
    refine r_if_eq (tgt := 101) C dX10_isHatched_94 (by decide) h (fun h => ?_) (fun h => ?_)
    · refine r_iconst (v := 1) C dX10_isHatched_101 (by decide) ?_
      refine r_goto (tgt := 106) C dX10_isHatched_102 (by decide) ?_
      exact r_zret C M dX10_isHatched_106 (by decide) h
    · refine r_iload_n C dX10_isHatched_97 rfl 3 rfl ?_
      refine r_if_ne (tgt := 105) C dX10_isHatched_98 (by decide) h (fun h => ?_) (fun h => ?_)
      · refine r_iconst (v := 0) C dX10_isHatched_105 (by decide) ?_
        exact r_zret C M dX10_isHatched_106 (by decide) h
      · refine r_iconst (v := 1) C dX10_isHatched_101 (by decide) ?_
        refine r_goto (tgt := 106) C dX10_isHatched_102 (by decide) ?_
        exact r_zret C M dX10_isHatched_106 (by decide) h
  rw [if_neg hs7] at h
  refine r_tabOut (tgt := 107) C dX10_isHatched_32 (by have t09 : (a0).toInt ≠ 1 := ne_toInt hs1 (by decide); have t19 : (a0).toInt ≠ 2 := ne_toInt hs2 (by decide); have t29 : (a0).toInt ≠ 3 := ne_toInt hs3 (by decide); have t39 : (a0).toInt ≠ 4 := ne_toInt hs5 (by decide); have t49 : (a0).toInt ≠ 5 := ne_toInt hs7 (by decide); omega) (by decide) ?_
  refine r_iload_n C dX10_isHatched_107 rfl 4 rfl ?_
  refine r_if_ne (tgt := 116) C dX10_isHatched_108 (by decide) h (fun h => ?_) (fun h => ?_)
  · refine r_iconst (v := 1) C dX10_isHatched_116 (by decide) ?_
    refine r_goto (tgt := 121) C dX10_isHatched_117 (by decide) ?_
    exact r_zret C M dX10_isHatched_121 (by decide) h
  · refine r_iload C dX10_isHatched_111 0 rfl ?_
    refine r_if_eq (tgt := 120) C dX10_isHatched_113 (by decide) h (fun h => ?_) (fun h => ?_)
    · refine r_iconst (v := 0) C dX10_isHatched_120 (by decide) ?_
      exact r_zret C M dX10_isHatched_121 (by decide) h
    · refine r_iconst (v := 1) C dX10_isHatched_116 (by decide) ?_
      refine r_goto (tgt := 121) C dX10_isHatched_117 (by decide) ?_
      exact r_zret C M dX10_isHatched_121 (by decide) h
noncomputable def f_X10_isHatched_14 (a0 : Int32) (a1 : Int32) (a2 : Int32) (b0 : Int32) (T : Mm) : Option (Int32 × Mm) :=
  if ((a1 - a2) &&& 7) = 0 then (f_X10_isHatched_29 a0 a1 a2 b0 1 T)
  else (f_X10_isHatched_29 a0 a1 a2 b0 0 T)
set_option maxRecDepth 100000 in
set_option maxHeartbeats 4000000 in
theorem s_X10_isHatched_14 {x : JX} {ad : Nat → Nat} {U : Mm} {S0 : Hp} {q : Int32 × Mm}  (hn9 : x_n x = 5) (C : CB x RX10 cX10_isHatched) (M : CMr x 1 (some .boolean) S0 ad true U eI q) (a0 : Int32) (a1 : Int32) (a2 : Int32) (b0 : Int32) (T : Mm) (h : f_X10_isHatched_14  a0 a1 a2 b0 T = some q) : Jr x ad true U T [(0, .int a0), (1, .int a1), (2, .int a2)] 14 [.int b0] := by
  unfold f_X10_isHatched_14 at h
  refine r_istore_n (lv' := [(3, .int b0), (0, .int a0), (1, .int a1), (2, .int a2)]) C dX10_isHatched_14 rfl (by rw [hn9]; decide) rfl ?_
  refine r_iload_n C dX10_isHatched_15 rfl 2 rfl ?_
  refine r_iload_n C dX10_isHatched_16 rfl 3 rfl ?_
  refine r_isub C dX10_isHatched_17 rfl ?_
  refine r_bipush (v := 7) C dX10_isHatched_18 (by decide) ?_
  show Jr _ _ _ _ _ _ 20 _
  refine r_iand C dX10_isHatched_20 rfl ?_
  refine r_if_ne (tgt := 28) C dX10_isHatched_21 (by decide) h (fun h => ?_) (fun h => ?_)
  · refine r_iconst (v := 0) C dX10_isHatched_28 (by decide) ?_
    refine Jr.sub [1, 2, 3, 0] (lv' := [(0, .int a0), (1, .int a1), (2, .int a2), (3, .int b0)]) rfl ?_
    exact s_X10_isHatched_29 hn9 C M  a0 a1 a2 b0 0 T h
  · refine r_iconst (v := 1) C dX10_isHatched_24 (by decide) ?_
    refine r_goto (tgt := 29) C dX10_isHatched_25 (by decide) ?_
    refine Jr.sub [1, 2, 3, 0] (lv' := [(0, .int a0), (1, .int a1), (2, .int a2), (3, .int b0)]) rfl ?_
    exact s_X10_isHatched_29 hn9 C M  a0 a1 a2 b0 1 T h
noncomputable def f_X10_isHatched (p0 : Int32) (p1 : Int32) (p2 : Int32) (T : Mm) : Option (Int32 × Mm) :=
  if ((p1 + p2) &&& 7) = 0 then (f_X10_isHatched_14 p0 p1 p2 1 T)
  else (f_X10_isHatched_14 p0 p1 p2 0 T)
set_option maxRecDepth 100000 in
set_option maxHeartbeats 4000000 in
theorem s_X10_isHatched {ad : Nat → Nat} {U T : Mm} {q : Int32 × Mm}  (p0 : Int32) (p1 : Int32) (p2 : Int32) (h : f_X10_isHatched p0 p1 p2 T = some q) : Cr 1 yX10_isHatched cX10_isHatched 5 (some .boolean) [.int p0, .int p1, .int p2] ad true U T eI q := by
  refine cr_of (by decide) (Nat.le_of_ble_eq_true rfl) fun x S0 hn9 C M => ?_
  have C : CB x RX10 cX10_isHatched := C
  refine Jr.eq (lv' := [(0, .int p0), (1, .int p1), (2, .int p2)]) (st' := []) rfl rfl ?_
  unfold f_X10_isHatched at h
  refine r_iload_n C dX10_isHatched_0 rfl 1 rfl ?_
  refine r_iload_n C dX10_isHatched_1 rfl 2 rfl ?_
  refine r_iadd C dX10_isHatched_2 rfl ?_
  refine r_bipush (v := 7) C dX10_isHatched_3 (by decide) ?_
  refine r_iand C dX10_isHatched_5 rfl ?_
  show Jr _ _ _ _ _ _ 6 _
  refine r_if_ne (tgt := 13) C dX10_isHatched_6 (by decide) h (fun h => ?_) (fun h => ?_)
  · refine r_iconst (v := 0) C dX10_isHatched_13 (by decide) ?_
    exact s_X10_isHatched_14 hn9 C M  p0 p1 p2 0 T h
  · refine r_iconst (v := 1) C dX10_isHatched_9 (by decide) ?_
    refine r_goto (tgt := 14) C dX10_isHatched_10 (by decide) ?_
    exact s_X10_isHatched_14 hn9 C M  p0 p1 p2 1 T h
theorem dX10_hatch_0 : decode cX10_hatch 0 = .ok (.aload_n 0, 1) := by decide +kernel
theorem dX10_hatch_1 : decode cX10_hatch 1 = .ok (.bipush 8, 2) := by decide +kernel
theorem dX10_hatch_3 : decode cX10_hatch 3 = .ok (.bipush 8, 2) := by decide +kernel
theorem dX10_hatch_5 : decode cX10_hatch 5 = .ok (.invokevirtual 39, 3) := by decide +kernel
theorem dX10_hatch_8 : decode cX10_hatch 8 = .ok (.iconst 0, 1) := by decide +kernel
theorem dX10_hatch_9 : decode cX10_hatch 9 = .ok (.istore_n 2, 1) := by decide +kernel
theorem dX10_hatch_10 : decode cX10_hatch 10 = .ok (.iload_n 2, 1) := by decide +kernel
theorem dX10_hatch_11 : decode cX10_hatch 11 = .ok (.bipush 8, 2) := by decide +kernel
theorem dX10_hatch_13 : decode cX10_hatch 13 = .ok (.if_icmp .ge 53, 3) := by decide +kernel
theorem dX10_hatch_16 : decode cX10_hatch 16 = .ok (.iconst 0, 1) := by decide +kernel
theorem dX10_hatch_17 : decode cX10_hatch 17 = .ok (.istore_n 3, 1) := by decide +kernel
theorem dX10_hatch_18 : decode cX10_hatch 18 = .ok (.iconst 0, 1) := by decide +kernel
theorem dX10_hatch_19 : decode cX10_hatch 19 = .ok (.istore 4, 2) := by decide +kernel
theorem dX10_hatch_21 : decode cX10_hatch 21 = .ok (.iload 4, 2) := by decide +kernel
theorem dX10_hatch_23 : decode cX10_hatch 23 = .ok (.bipush 8, 2) := by decide +kernel
theorem dX10_hatch_25 : decode cX10_hatch 25 = .ok (.if_icmp .ge 29, 3) := by decide +kernel
theorem dX10_hatch_28 : decode cX10_hatch 28 = .ok (.iload_n 3, 1) := by decide +kernel
theorem dX10_hatch_29 : decode cX10_hatch 29 = .ok (.iconst 1, 1) := by decide +kernel
theorem dX10_hatch_30 : decode cX10_hatch 30 = .ok (.ishl, 1) := by decide +kernel
theorem dX10_hatch_31 : decode cX10_hatch 31 = .ok (.iload_n 1, 1) := by decide +kernel
theorem dX10_hatch_32 : decode cX10_hatch 32 = .ok (.iload 4, 2) := by decide +kernel
theorem dX10_hatch_34 : decode cX10_hatch 34 = .ok (.iload_n 2, 1) := by decide +kernel
theorem dX10_hatch_35 : decode cX10_hatch 35 = .ok (.invokestatic 50, 3) := by decide +kernel
theorem dX10_hatch_38 : decode cX10_hatch 38 = .ok (.ifCond .eq 7, 3) := by decide +kernel
theorem dX10_hatch_41 : decode cX10_hatch 41 = .ok (.iconst 1, 1) := by decide +kernel
theorem dX10_hatch_42 : decode cX10_hatch 42 = .ok (.goto 4, 3) := by decide +kernel
theorem dX10_hatch_45 : decode cX10_hatch 45 = .ok (.iconst 0, 1) := by decide +kernel
theorem dX10_hatch_46 : decode cX10_hatch 46 = .ok (.ior, 1) := by decide +kernel
theorem dX10_hatch_47 : decode cX10_hatch 47 = .ok (.istore_n 3, 1) := by decide +kernel
theorem dX10_hatch_48 : decode cX10_hatch 48 = .ok (.iinc 4 1, 3) := by decide +kernel
theorem dX10_hatch_51 : decode cX10_hatch 51 = .ok (.goto (-30), 3) := by decide +kernel
theorem dX10_hatch_54 : decode cX10_hatch 54 = .ok (.aload_n 0, 1) := by decide +kernel
theorem dX10_hatch_55 : decode cX10_hatch 55 = .ok (.iload_n 2, 1) := by decide +kernel
theorem dX10_hatch_56 : decode cX10_hatch 56 = .ok (.iload_n 3, 1) := by decide +kernel
theorem dX10_hatch_57 : decode cX10_hatch 57 = .ok (.invokevirtual 43, 3) := by decide +kernel
theorem dX10_hatch_60 : decode cX10_hatch 60 = .ok (.iinc 2 1, 3) := by decide +kernel
theorem dX10_hatch_63 : decode cX10_hatch 63 = .ok (.goto (-53), 3) := by decide +kernel
theorem dX10_hatch_66 : decode cX10_hatch 66 = .ok (.return_, 1) := by decide +kernel
noncomputable def f_X10_hatch_b21 (k10 : Nat → Int32 → Int32 → Mm → Option (Unit × Mm)) (k21 : Nat → Int32 → Int32 → Int32 → Int32 → Mm → Option (Unit × Mm)) (a0 : Nat) (a1 : Int32) (a2 : Int32) (a3 : Int32) (a4 : Int32) (T : Mm) : Option (Unit × Mm) :=
  if 8 ≤ a4 then (bd (f_X10_setRow a0 a2 a3 T) fun _ T1 =>
  k10 a0 a1 (a2 + 1) T1)
  else (bd (f_X10_isHatched a1 a4 a2 T) fun v2 T3 =>
  if v2 = 0 then (lb (((a3 <<< ((1 : Int32) &&& 31)) ||| 0)) fun v4 =>
  k21 a0 a1 a2 v4 (a4 + 1) T3)
  else (lb (((a3 <<< ((1 : Int32) &&& 31)) ||| 1)) fun v5 =>
  k21 a0 a1 a2 v5 (a4 + 1) T3))
set_option maxRecDepth 100000 in
set_option maxHeartbeats 4000000 in
theorem s_X10_hatch_b21 {x : JX} {ad : Nat → Nat} {U : Mm} {S0 : Hp} {q : Unit × Mm}  {k10 : Nat → Int32 → Int32 → Mm → Option (Unit × Mm)} {k21 : Nat → Int32 → Int32 → Int32 → Int32 → Mm → Option (Unit × Mm)} (hn9 : x_n x = 5) (C : CB x RX10 cX10_hatch) (M : CMr x 3 none S0 ad true U eV q) (hk10 : ∀ (a0 : Nat) (a1 : Int32) (a2 : Int32) (T : Mm) (_ : kS true a0 = 10), k10 a0 a1 a2 T = some q → Jr x ad true U T [(0, .ref (ad a0)), (1, .int a1), (2, .int a2)] 10 []) (hk21 : ∀ (a0 : Nat) (a1 : Int32) (a2 : Int32) (a3 : Int32) (a4 : Int32) (T : Mm) (_ : kS true a0 = 10), k21 a0 a1 a2 a3 a4 T = some q → Jr x ad true U T [(0, .ref (ad a0)), (1, .int a1), (2, .int a2), (3, .int a3), (4, .int a4)] 21 []) (a0 : Nat) (a1 : Int32) (a2 : Int32) (a3 : Int32) (a4 : Int32) (T : Mm) (ha0 : kS true a0 = 10) (h : f_X10_hatch_b21 k10 k21 a0 a1 a2 a3 a4 T = some q) : Jr x ad true U T [(0, .ref (ad a0)), (1, .int a1), (2, .int a2), (3, .int a3), (4, .int a4)] 21 [] := by
  unfold f_X10_hatch_b21 at h
  refine r_iload C dX10_hatch_21 4 rfl ?_
  refine r_bipush (v := 8) C dX10_hatch_23 (by decide) ?_
  refine r_ic_ge (tgt := 54) C dX10_hatch_25 (by decide) h (fun h => ?_) (fun h => ?_)
  · refine r_aload_n C dX10_hatch_54 rfl 0 rfl ?_
    refine r_iload_n C dX10_hatch_55 rfl 2 rfl ?_
    refine r_iload_n C dX10_hatch_56 rfl 3 rfl ?_
    refine r_callVN C M h [.int a2, .int a3] [] mlX10_43 mcX10_setRow (fun q9 e9 => s_X10_setRow a0 a2 a3 ha0 e9) ha0 rfl (by decide) (by decide) rfl rfl (Nat.le_of_ble_eq_true rfl) dX10_hatch_57 (fun _ T1 h => ?_)
    refine r_iinc (q := 2) (v := (a2 + 1)) (lv' := [(2, .int (a2 + 1)), (0, .ref (ad a0)), (1, .int a1), (3, .int a3), (4, .int a4)]) C dX10_hatch_60 rfl (by rw [show Int32.ofInt (1) = 1 by decide]) (by rw [hn9]; decide) rfl ?_
    show Jr _ _ _ _ _ _ 63 _
    refine r_goto (tgt := 10) C dX10_hatch_63 (by decide) ?_
    refine Jr.sub [1, 2, 0] (lv' := [(0, .ref (ad a0)), (1, .int a1), (2, .int (a2 + 1))]) rfl ?_
    exact hk10 a0 a1 (a2 + 1) T1 ha0 h
  · refine r_iload_n C dX10_hatch_28 rfl 3 rfl ?_
    refine r_iconst (v := 1) C dX10_hatch_29 (by decide) ?_
    refine r_ishl C dX10_hatch_30 rfl ?_
    refine r_iload_n C dX10_hatch_31 rfl 1 rfl ?_
    refine r_iload C dX10_hatch_32 4 rfl ?_
    show Jr _ _ _ _ _ _ 34 _
    refine r_iload_n C dX10_hatch_34 rfl 2 rfl ?_
    refine r_callSI C M h [.int a1, .int a4, .int a2] [.int (a3 <<< ((1 : Int32) &&& 31))] mlX10_50 mcX10_isHatched (fun q9 e9 => s_X10_isHatched a1 a4 a2  e9) (by decide) (by decide) rfl rfl (Nat.le_of_ble_eq_true rfl) dX10_hatch_35 (fun v2 T3 h => ?_)
    refine r_if_eq (tgt := 45) C dX10_hatch_38 (by decide) h (fun h => ?_) (fun h => ?_)
    · refine r_iconst (v := 0) C dX10_hatch_45 (by decide) ?_
      refine r_ior C dX10_hatch_46 rfl ?_
      refine r_lbI h (fun v4 h => ?_)
      refine r_istore_n (lv' := [(3, .int v4), (0, .ref (ad a0)), (1, .int a1), (2, .int a2), (4, .int a4)]) C dX10_hatch_47 rfl (by rw [hn9]; decide) rfl ?_
      refine r_iinc (q := 4) (v := (a4 + 1)) (lv' := [(4, .int (a4 + 1)), (3, .int v4), (0, .ref (ad a0)), (1, .int a1), (2, .int a2)]) C dX10_hatch_48 rfl (by rw [show Int32.ofInt (1) = 1 by decide]) (by rw [hn9]; decide) rfl ?_
      refine r_goto (tgt := 21) C dX10_hatch_51 (by decide) ?_
      refine Jr.sub [2, 3, 4, 1, 0] (lv' := [(0, .ref (ad a0)), (1, .int a1), (2, .int a2), (3, .int v4), (4, .int (a4 + 1))]) rfl ?_
      exact hk21 a0 a1 a2 v4 (a4 + 1) T3 ha0 h
    · refine r_iconst (v := 1) C dX10_hatch_41 (by decide) ?_
      refine r_goto (tgt := 46) C dX10_hatch_42 (by decide) ?_
      refine r_ior C dX10_hatch_46 rfl ?_
      refine r_lbI h (fun v5 h => ?_)
      refine r_istore_n (lv' := [(3, .int v5), (0, .ref (ad a0)), (1, .int a1), (2, .int a2), (4, .int a4)]) C dX10_hatch_47 rfl (by rw [hn9]; decide) rfl ?_
      refine r_iinc (q := 4) (v := (a4 + 1)) (lv' := [(4, .int (a4 + 1)), (3, .int v5), (0, .ref (ad a0)), (1, .int a1), (2, .int a2)]) C dX10_hatch_48 rfl (by rw [show Int32.ofInt (1) = 1 by decide]) (by rw [hn9]; decide) rfl ?_
      show Jr _ _ _ _ _ _ 51 _
      refine r_goto (tgt := 21) C dX10_hatch_51 (by decide) ?_
      refine Jr.sub [2, 3, 4, 1, 0] (lv' := [(0, .ref (ad a0)), (1, .int a1), (2, .int a2), (3, .int v5), (4, .int (a4 + 1))]) rfl ?_
      exact hk21 a0 a1 a2 v5 (a4 + 1) T3 ha0 h
noncomputable def f_X10_hatch_l21 (k10 : Nat → Int32 → Int32 → Mm → Option (Unit × Mm)) (n : Nat) : Nat → Int32 → Int32 → Int32 → Int32 → Mm → Option (Unit × Mm) := Nat.rec (fun _ _ _ _ _ _ => none) (fun _ ih => f_X10_hatch_b21 k10 ih) n
theorem s_X10_hatch_l21 {x : JX} {ad : Nat → Nat} {U : Mm} {S0 : Hp} {q : Unit × Mm}  {k10 : Nat → Int32 → Int32 → Mm → Option (Unit × Mm)} (hn9 : x_n x = 5) (C : CB x RX10 cX10_hatch) (M : CMr x 3 none S0 ad true U eV q) (hk10 : ∀ (a0 : Nat) (a1 : Int32) (a2 : Int32) (T : Mm) (_ : kS true a0 = 10), k10 a0 a1 a2 T = some q → Jr x ad true U T [(0, .ref (ad a0)), (1, .int a1), (2, .int a2)] 10 []) : ∀ (n : Nat), ∀ (a0 : Nat) (a1 : Int32) (a2 : Int32) (a3 : Int32) (a4 : Int32) (T : Mm) (_ : kS true a0 = 10), f_X10_hatch_l21 k10 n a0 a1 a2 a3 a4 T = some q → Jr x ad true U T [(0, .ref (ad a0)), (1, .int a1), (2, .int a2), (3, .int a3), (4, .int a4)] 21 [] := by
  intro n
  induction n with
  | zero => intro a0 a1 a2 a3 a4 T _ h; exact absurd h (by intro h; cases h)
  | succ n ih => exact fun a0 a1 a2 a3 a4 T ha0 h => s_X10_hatch_b21 hn9 C M hk10 (ih) a0 a1 a2 a3 a4 T ha0 h
noncomputable def f_X10_hatch_b10 (k10 : Nat → Int32 → Int32 → Mm → Option (Unit × Mm)) (a0 : Nat) (a1 : Int32) (a2 : Int32) (T : Mm) : Option (Unit × Mm) :=
  if 8 ≤ a2 then (some ((), T))
  else (f_X10_hatch_l21 k10 FU a0 a1 a2 0 0 T)
set_option maxRecDepth 100000 in
set_option maxHeartbeats 4000000 in
theorem s_X10_hatch_b10 {x : JX} {ad : Nat → Nat} {U : Mm} {S0 : Hp} {q : Unit × Mm}  {k10 : Nat → Int32 → Int32 → Mm → Option (Unit × Mm)} (hn9 : x_n x = 5) (C : CB x RX10 cX10_hatch) (M : CMr x 3 none S0 ad true U eV q) (hk10 : ∀ (a0 : Nat) (a1 : Int32) (a2 : Int32) (T : Mm) (_ : kS true a0 = 10), k10 a0 a1 a2 T = some q → Jr x ad true U T [(0, .ref (ad a0)), (1, .int a1), (2, .int a2)] 10 []) (a0 : Nat) (a1 : Int32) (a2 : Int32) (T : Mm) (ha0 : kS true a0 = 10) (h : f_X10_hatch_b10 k10 a0 a1 a2 T = some q) : Jr x ad true U T [(0, .ref (ad a0)), (1, .int a1), (2, .int a2)] 10 [] := by
  unfold f_X10_hatch_b10 at h
  refine r_iload_n C dX10_hatch_10 rfl 2 rfl ?_
  refine r_bipush (v := 8) C dX10_hatch_11 (by decide) ?_
  refine r_ic_ge (tgt := 66) C dX10_hatch_13 (by decide) h (fun h => ?_) (fun h => ?_)
  · exact r_vret C M dX10_hatch_66 h
  · refine r_iconst (v := 0) C dX10_hatch_16 (by decide) ?_
    refine r_istore_n (lv' := [(3, .int 0), (0, .ref (ad a0)), (1, .int a1), (2, .int a2)]) C dX10_hatch_17 rfl (by rw [hn9]; decide) rfl ?_
    refine r_iconst (v := 0) C dX10_hatch_18 (by decide) ?_
    refine r_istore (lv' := [(4, .int 0), (3, .int 0), (0, .ref (ad a0)), (1, .int a1), (2, .int a2)]) C dX10_hatch_19 (by rw [hn9]; decide) rfl ?_
    refine Jr.sub [2, 3, 4, 1, 0] (lv' := [(0, .ref (ad a0)), (1, .int a1), (2, .int a2), (3, .int 0), (4, .int 0)]) rfl ?_
    exact s_X10_hatch_l21 hn9 C M hk10 FU a0 a1 a2 0 0 T ha0 h
noncomputable def f_X10_hatch_l10 (n : Nat) : Nat → Int32 → Int32 → Mm → Option (Unit × Mm) := Nat.rec (fun _ _ _ _ => none) (fun _ ih => f_X10_hatch_b10 ih) n
theorem s_X10_hatch_l10 {x : JX} {ad : Nat → Nat} {U : Mm} {S0 : Hp} {q : Unit × Mm}  (hn9 : x_n x = 5) (C : CB x RX10 cX10_hatch) (M : CMr x 3 none S0 ad true U eV q) : ∀ (n : Nat), ∀ (a0 : Nat) (a1 : Int32) (a2 : Int32) (T : Mm) (_ : kS true a0 = 10), f_X10_hatch_l10  n a0 a1 a2 T = some q → Jr x ad true U T [(0, .ref (ad a0)), (1, .int a1), (2, .int a2)] 10 [] := by
  intro n
  induction n with
  | zero => intro a0 a1 a2 T _ h; exact absurd h (by intro h; cases h)
  | succ n ih => exact fun a0 a1 a2 T ha0 h => s_X10_hatch_b10 hn9 C M (ih) a0 a1 a2 T ha0 h
noncomputable def f_X10_hatch (p0 : Nat) (p1 : Int32) (T : Mm) : Option (Unit × Mm) :=
  bd (f_X10_size p0 8 8 T) fun _ T1 =>
  f_X10_hatch_l10 FU p0 p1 0 T1
set_option maxRecDepth 100000 in
set_option maxHeartbeats 4000000 in
theorem s_X10_hatch {ad : Nat → Nat} {U T : Mm} {q : Unit × Mm}  (p0 : Nat) (p1 : Int32) (hk0 : kS true p0 = 10) (h : f_X10_hatch p0 p1 T = some q) : Cr 3 yX10_hatch cX10_hatch 5 none [.ref (ad p0), .int p1] ad true U T eV q := by
  refine cr_of (by decide) (Nat.le_of_ble_eq_true rfl) fun x S0 hn9 C M => ?_
  have C : CB x RX10 cX10_hatch := C
  refine Jr.eq (lv' := [(0, .ref (ad p0)), (1, .int p1)]) (st' := []) rfl rfl ?_
  unfold f_X10_hatch at h
  refine r_aload_n C dX10_hatch_0 rfl 0 rfl ?_
  refine r_bipush (v := 8) C dX10_hatch_1 (by decide) ?_
  refine r_bipush (v := 8) C dX10_hatch_3 (by decide) ?_
  refine r_callVN C M h [.int 8, .int 8] [] mlX10_39 mcX10_size (fun q9 e9 => s_X10_size p0 8 8 hk0 e9) hk0 rfl (by decide) (by decide) rfl rfl (Nat.le_of_ble_eq_true rfl) dX10_hatch_5 (fun _ T1 h => ?_)
  refine r_iconst (v := 0) C dX10_hatch_8 (by decide) ?_
  show Jr _ _ _ _ _ _ 9 _
  refine r_istore_n (lv' := [(2, .int 0), (0, .ref (ad p0)), (1, .int p1)]) C dX10_hatch_9 rfl (by rw [hn9]; decide) rfl ?_
  refine Jr.sub [1, 2, 0] (lv' := [(0, .ref (ad p0)), (1, .int p1), (2, .int 0)]) rfl ?_
  exact s_X10_hatch_l10 hn9 C M  FU p0 p1 0 T1 hk0 h
theorem dX9_setTile_0 : decode cX9_setTile 0 = .ok (.aload_n 0, 1) := by decide +kernel
theorem dX9_setTile_1 : decode cX9_setTile 1 = .ok (.getfield 57, 3) := by decide +kernel
theorem dX9_setTile_4 : decode cX9_setTile 4 = .ok (.getfield 587, 3) := by decide +kernel
theorem dX9_setTile_7 : decode cX9_setTile 7 = .ok (.istore_n 3, 1) := by decide +kernel
theorem dX9_setTile_8 : decode cX9_setTile 8 = .ok (.iload_n 2, 1) := by decide +kernel
theorem dX9_setTile_9 : decode cX9_setTile 9 = .ok (.tableswitch 130 0 4 #[35, 41, 47, 67, 87], 35) := by decide +kernel
theorem dX9_setTile_44 : decode cX9_setTile 44 = .ok (.aload_n 1, 1) := by decide +kernel
theorem dX9_setTile_45 : decode cX9_setTile 45 = .ok (.invokevirtual 631, 3) := by decide +kernel
theorem dX9_setTile_48 : decode cX9_setTile 48 = .ok (.iconst 1, 1) := by decide +kernel
theorem dX9_setTile_49 : decode cX9_setTile 49 = .ok (.ireturn, 1) := by decide +kernel
theorem dX9_setTile_50 : decode cX9_setTile 50 = .ok (.aload_n 1, 1) := by decide +kernel
theorem dX9_setTile_51 : decode cX9_setTile 51 = .ok (.invokevirtual 634, 3) := by decide +kernel
theorem dX9_setTile_54 : decode cX9_setTile 54 = .ok (.iconst 1, 1) := by decide +kernel
theorem dX9_setTile_55 : decode cX9_setTile 55 = .ok (.ireturn, 1) := by decide +kernel
theorem dX9_setTile_56 : decode cX9_setTile 56 = .ok (.iload_n 3, 1) := by decide +kernel
theorem dX9_setTile_57 : decode cX9_setTile 57 = .ok (.iconst 1, 1) := by decide +kernel
theorem dX9_setTile_58 : decode cX9_setTile 58 = .ok (.if_icmp .lt 16, 3) := by decide +kernel
theorem dX9_setTile_61 : decode cX9_setTile 61 = .ok (.iload_n 3, 1) := by decide +kernel
theorem dX9_setTile_62 : decode cX9_setTile 62 = .ok (.bipush 100, 2) := by decide +kernel
theorem dX9_setTile_64 : decode cX9_setTile 64 = .ok (.if_icmp .gt 10, 3) := by decide +kernel
theorem dX9_setTile_67 : decode cX9_setTile 67 = .ok (.aload_n 1, 1) := by decide +kernel
theorem dX9_setTile_68 : decode cX9_setTile 68 = .ok (.iload_n 3, 1) := by decide +kernel
theorem dX9_setTile_69 : decode cX9_setTile 69 = .ok (.invokevirtual 637, 3) := by decide +kernel
theorem dX9_setTile_72 : decode cX9_setTile 72 = .ok (.iconst 1, 1) := by decide +kernel
theorem dX9_setTile_73 : decode cX9_setTile 73 = .ok (.ireturn, 1) := by decide +kernel
theorem dX9_setTile_74 : decode cX9_setTile 74 = .ok (.iconst 0, 1) := by decide +kernel
theorem dX9_setTile_75 : decode cX9_setTile 75 = .ok (.ireturn, 1) := by decide +kernel
theorem dX9_setTile_76 : decode cX9_setTile 76 = .ok (.iload_n 3, 1) := by decide +kernel
theorem dX9_setTile_77 : decode cX9_setTile 77 = .ok (.iconst 1, 1) := by decide +kernel
theorem dX9_setTile_78 : decode cX9_setTile 78 = .ok (.if_icmp .lt 16, 3) := by decide +kernel
theorem dX9_setTile_81 : decode cX9_setTile 81 = .ok (.iload_n 3, 1) := by decide +kernel
theorem dX9_setTile_82 : decode cX9_setTile 82 = .ok (.bipush 6, 2) := by decide +kernel
theorem dX9_setTile_84 : decode cX9_setTile 84 = .ok (.if_icmp .gt 10, 3) := by decide +kernel
theorem dX9_setTile_87 : decode cX9_setTile 87 = .ok (.aload_n 1, 1) := by decide +kernel
theorem dX9_setTile_88 : decode cX9_setTile 88 = .ok (.iload_n 3, 1) := by decide +kernel
theorem dX9_setTile_89 : decode cX9_setTile 89 = .ok (.invokevirtual 640, 3) := by decide +kernel
theorem dX9_setTile_92 : decode cX9_setTile 92 = .ok (.iconst 1, 1) := by decide +kernel
theorem dX9_setTile_93 : decode cX9_setTile 93 = .ok (.ireturn, 1) := by decide +kernel
theorem dX9_setTile_94 : decode cX9_setTile 94 = .ok (.iconst 0, 1) := by decide +kernel
theorem dX9_setTile_95 : decode cX9_setTile 95 = .ok (.ireturn, 1) := by decide +kernel
theorem dX9_setTile_96 : decode cX9_setTile 96 = .ok (.aload_n 0, 1) := by decide +kernel
theorem dX9_setTile_97 : decode cX9_setTile 97 = .ok (.getfield 28, 3) := by decide +kernel
theorem dX9_setTile_100 : decode cX9_setTile 100 = .ok (.iload_n 3, 1) := by decide +kernel
theorem dX9_setTile_101 : decode cX9_setTile 101 = .ok (.invokevirtual 192, 3) := by decide +kernel
theorem dX9_setTile_104 : decode cX9_setTile 104 = .ok (.ifCond .eq 33, 3) := by decide +kernel
theorem dX9_setTile_107 : decode cX9_setTile 107 = .ok (.iload_n 3, 1) := by decide +kernel
theorem dX9_setTile_108 : decode cX9_setTile 108 = .ok (.aload_n 0, 1) := by decide +kernel
theorem dX9_setTile_109 : decode cX9_setTile 109 = .ok (.getfield 34, 3) := by decide +kernel
theorem dX9_setTile_112 : decode cX9_setTile 112 = .ok (.arraylength, 1) := by decide +kernel
theorem dX9_setTile_113 : decode cX9_setTile 113 = .ok (.if_icmp .ge 24, 3) := by decide +kernel
theorem dX9_setTile_116 : decode cX9_setTile 116 = .ok (.aload_n 0, 1) := by decide +kernel
theorem dX9_setTile_117 : decode cX9_setTile 117 = .ok (.getfield 34, 3) := by decide +kernel
theorem dX9_setTile_120 : decode cX9_setTile 120 = .ok (.iload_n 3, 1) := by decide +kernel
theorem dX9_setTile_121 : decode cX9_setTile 121 = .ok (.aaload, 1) := by decide +kernel
theorem dX9_setTile_122 : decode cX9_setTile 122 = .ok (.ifnull 15, 3) := by decide +kernel
theorem dX9_setTile_125 : decode cX9_setTile 125 = .ok (.aload_n 1, 1) := by decide +kernel
theorem dX9_setTile_126 : decode cX9_setTile 126 = .ok (.aload_n 0, 1) := by decide +kernel
theorem dX9_setTile_127 : decode cX9_setTile 127 = .ok (.getfield 34, 3) := by decide +kernel
theorem dX9_setTile_130 : decode cX9_setTile 130 = .ok (.iload_n 3, 1) := by decide +kernel
theorem dX9_setTile_131 : decode cX9_setTile 131 = .ok (.aaload, 1) := by decide +kernel
theorem dX9_setTile_132 : decode cX9_setTile 132 = .ok (.invokevirtual 643, 3) := by decide +kernel
theorem dX9_setTile_135 : decode cX9_setTile 135 = .ok (.iconst 1, 1) := by decide +kernel
theorem dX9_setTile_136 : decode cX9_setTile 136 = .ok (.ireturn, 1) := by decide +kernel
theorem dX9_setTile_137 : decode cX9_setTile 137 = .ok (.iconst 0, 1) := by decide +kernel
theorem dX9_setTile_138 : decode cX9_setTile 138 = .ok (.ireturn, 1) := by decide +kernel
theorem dX9_setTile_139 : decode cX9_setTile 139 = .ok (.iconst 0, 1) := by decide +kernel
theorem dX9_setTile_140 : decode cX9_setTile 140 = .ok (.ireturn, 1) := by decide +kernel
noncomputable def f_X9_setTile (p1 : Nat) (p2 : Int32) (T : Mm) : Option (Int32 × Mm) :=
  lb ((gI T 118 45)) fun v1 =>
  if p2 = 0 then (bd (f_X10_solid p1 T) fun _ T3 =>
  some (1, T3))
  else if p2 = 1 then (bd (f_X10_white p1 T) fun _ T5 =>
  some (1, T5))
  else if p2 = 2 then (if v1 < 1 then (some (0, T))
  else (if 100 < v1 then (some (0, T))
  else (bd (f_X10_shade p1 v1 T) fun _ T7 =>
  some (1, T7))))
  else if p2 = 3 then (if v1 < 1 then (some (0, T))
  else (if 6 < v1 then (some (0, T))
  else (bd (f_X10_hatch p1 v1 T) fun _ T9 =>
  some (1, T9))))
  else if p2 = 4 then (bd (f_X8_has 36 v1 T) fun v11 T12 =>
  if v11 = 0 then (some (0, T12))
  else (if 16 ≤ v1 then (some (0, T12))
  else (ix v1 16 fun j13 =>
  ix v1 16 fun j15 =>
  bd (f_X10_copy p1 (66 + 2 * j15) T12) fun _ T17 =>
  some (1, T17))))
  else (some (0, T))
set_option maxRecDepth 100000 in
set_option maxHeartbeats 4000000 in
theorem s_X9_setTile {ad : Nat → Nat} {U T : Mm} {q : Int32 × Mm}  (p1 : Nat) (p2 : Int32) (hk1 : kS true p1 = 10) (h : f_X9_setTile p1 p2 T = some q) : Cr 4 yX9_setTile cX9_setTile 4 (some .boolean) [.ref (ad 23), .ref (ad p1), .int p2] ad true U T eI q := by
  refine cr_of (by decide) (Nat.le_of_ble_eq_true rfl) fun x S0 hn9 C M => ?_
  have C : CB x RX9 cX9_setTile := C
  refine Jr.eq (lv' := [(0, .ref (ad 23)), (1, .ref (ad p1)), (2, .int p2)]) (st' := []) rfl rfl ?_
  unfold f_X9_setTile at h
  refine r_aload_n C dX9_setTile_0 rfl 0 rfl ?_
  refine r_getp (f := 909) (j := 45) C flX9_57 dX9_setTile_1 kq_23 (by decide) rfl (fun W => pt_909 kq_23 W) ?_
  refine r_geti (f := 118) C flX9_587 dX9_setTile_4 kq_45 (by decide) (by decide) rfl ?_
  refine r_lbI h (fun v1 h => ?_)
  refine r_istore_n (lv' := [(3, .int v1), (0, .ref (ad 23)), (1, .ref (ad p1)), (2, .int p2)]) C dX9_setTile_7 rfl (by rw [hn9]; decide) rfl ?_
  refine r_iload_n C dX9_setTile_8 rfl 3 rfl ?_
  show Jr _ _ _ _ _ _ 9 _
  by_cases hs2 : p2 = 0
  · rw [if_pos hs2] at h
    refine r_top hs2 ?_
    refine r_tabIn (off := 35) (tgt := 44) C dX9_setTile_9 (by decide) (by decide) (by decide) (by decide) ?_
    refine r_aload_n C dX9_setTile_44 rfl 2 rfl ?_
    refine r_callVN C M h [] [] mlX9_631 mcX10_solid (fun q9 e9 => s_X10_solid p1 hk1 e9) hk1 rfl (by decide) (by decide) rfl rfl (Nat.le_of_ble_eq_true rfl) dX9_setTile_45 (fun _ T3 h => ?_)
    refine r_iconst (v := 1) C dX9_setTile_48 (by decide) ?_
    exact r_zret C M dX9_setTile_49 (by decide) h
  rw [if_neg hs2] at h
  by_cases hs4 : p2 = 1
  · rw [if_pos hs4] at h
    refine r_top hs4 ?_
    refine r_tabIn (off := 41) (tgt := 50) C dX9_setTile_9 (by decide) (by decide) (by decide) (by decide) ?_
    refine r_aload_n C dX9_setTile_50 rfl 2 rfl ?_
    refine r_callVN C M h [] [] mlX9_634 mcX10_white (fun q9 e9 => s_X10_white p1 hk1 e9) hk1 rfl (by decide) (by decide) rfl rfl (Nat.le_of_ble_eq_true rfl) dX9_setTile_51 (fun _ T5 h => ?_)
    refine r_iconst (v := 1) C dX9_setTile_54 (by decide) ?_
    exact r_zret C M dX9_setTile_55 (by decide) h
  rw [if_neg hs4] at h
  by_cases hs6 : p2 = 2
  · rw [if_pos hs6] at h
    refine r_top hs6 ?_
    refine r_tabIn (off := 47) (tgt := 56) C dX9_setTile_9 (by decide) (by decide) (by decide) (by decide) ?_
    refine r_iload_n C dX9_setTile_56 rfl 0 rfl ?_
    refine r_iconst (v := 1) C dX9_setTile_57 (by decide) ?_
    refine r_ic_lt (tgt := 74) C dX9_setTile_58 (by decide) h (fun h => ?_) (fun h => ?_)
    · refine r_iconst (v := 0) C dX9_setTile_74 (by decide) ?_
      exact r_zret C M dX9_setTile_75 (by decide) h
    · refine r_iload_n C dX9_setTile_61 rfl 0 rfl ?_
      refine r_bipush (v := 100) C dX9_setTile_62 (by decide) ?_
      refine r_ic_gt (tgt := 74) C dX9_setTile_64 (by decide) h (fun h => ?_) (fun h => ?_)
      · refine r_iconst (v := 0) C dX9_setTile_74 (by decide) ?_
        exact r_zret C M dX9_setTile_75 (by decide) h
      · refine r_aload_n C dX9_setTile_67 rfl 2 rfl ?_
        refine r_iload_n C dX9_setTile_68 rfl 0 rfl ?_
        refine r_callVN C M h [.int v1] [] mlX9_637 mcX10_shade (fun q9 e9 => s_X10_shade p1 v1 hk1 e9) hk1 rfl (by decide) (by decide) rfl rfl (Nat.le_of_ble_eq_true rfl) dX9_setTile_69 (fun _ T7 h => ?_)
        refine r_iconst (v := 1) C dX9_setTile_72 (by decide) ?_
        exact r_zret C M dX9_setTile_73 (by decide) h
  rw [if_neg hs6] at h
  by_cases hs8 : p2 = 3
  · rw [if_pos hs8] at h
    refine r_top hs8 ?_
    refine r_tabIn (off := 67) (tgt := 76) C dX9_setTile_9 (by decide) (by decide) (by decide) (by decide) ?_
    refine r_iload_n C dX9_setTile_76 rfl 0 rfl ?_
    refine r_iconst (v := 1) C dX9_setTile_77 (by decide) ?_
    refine r_ic_lt (tgt := 94) C dX9_setTile_78 (by decide) h (fun h => ?_) (fun h => ?_)
    · refine r_iconst (v := 0) C dX9_setTile_94 (by decide) ?_
      exact r_zret C M dX9_setTile_95 (by decide) h
    · refine r_iload_n C dX9_setTile_81 rfl 0 rfl ?_
      refine r_bipush (v := 6) C dX9_setTile_82 (by decide) ?_
      refine r_ic_gt (tgt := 94) C dX9_setTile_84 (by decide) h (fun h => ?_) (fun h => ?_)
      · refine r_iconst (v := 0) C dX9_setTile_94 (by decide) ?_
        exact r_zret C M dX9_setTile_95 (by decide) h
      · refine r_aload_n C dX9_setTile_87 rfl 2 rfl ?_
        refine r_iload_n C dX9_setTile_88 rfl 0 rfl ?_
        refine r_callVN C M h [.int v1] [] mlX9_640 mcX10_hatch (fun q9 e9 => s_X10_hatch p1 v1 hk1 e9) hk1 rfl (by decide) (by decide) rfl rfl (Nat.le_of_ble_eq_true rfl) dX9_setTile_89 (fun _ T9 h => ?_)
        refine r_iconst (v := 1) C dX9_setTile_92 (by decide) ?_
        exact r_zret C M dX9_setTile_93 (by decide) h
  rw [if_neg hs8] at h
  by_cases hs10 : p2 = 4
  · rw [if_pos hs10] at h
    refine r_top hs10 ?_
    refine r_tabIn (off := 87) (tgt := 96) C dX9_setTile_9 (by decide) (by decide) (by decide) (by decide) ?_
    refine r_aload_n C dX9_setTile_96 rfl 1 rfl ?_
    refine r_getp (f := 903) (j := 36) C flX9_28 dX9_setTile_97 kq_23 (by decide) rfl (fun W => pt_903 kq_23 W) ?_
    refine r_iload_n C dX9_setTile_100 rfl 0 rfl ?_
    refine r_callVI C M h [.int v1] [] mlX9_192 mcX8_has (fun q9 e9 => s_X8_has 36 v1 kq_36 e9) kq_36 rfl (by decide) (by decide) rfl rfl (Nat.le_of_ble_eq_true rfl) dX9_setTile_101 (fun v11 T12 h => ?_)
    refine r_if_eq (tgt := 137) C dX9_setTile_104 (by decide) h (fun h => ?_) (fun h => ?_)
    · refine r_iconst (v := 0) C dX9_setTile_137 (by decide) ?_
      exact r_zret C M dX9_setTile_138 (by decide) h
    · refine r_iload_n C dX9_setTile_107 rfl 0 rfl ?_
      refine r_aload_n C dX9_setTile_108 rfl 1 rfl ?_
      refine r_getp (f := 904) (j := 38) C flX9_34 dX9_setTile_109 kq_23 (by decide) rfl (fun W => pt_904 kq_23 W) ?_
      refine r_alen (n := 0) (v := 16) C dX9_setTile_112 kq_38 (by decide) (by decide) (congrArg Int32.ofNat lq_38) ?_
      refine r_ic_ge (tgt := 137) C dX9_setTile_113 (by decide) h (fun h => ?_) (fun h => ?_)
      · refine r_iconst (v := 0) C dX9_setTile_137 (by decide) ?_
        exact r_zret C M dX9_setTile_138 (by decide) h
      · refine r_aload_n C dX9_setTile_116 rfl 1 rfl ?_
        refine r_getp (f := 904) (j := 38) C flX9_34 dX9_setTile_117 kq_23 (by decide) rfl (fun W => pt_904 kq_23 W) ?_
        refine r_iload_n C dX9_setTile_120 rfl 0 rfl ?_
        refine r_aald (n := 16) (t := fun j9 => (66 + 2 * j9)) C 20 (by decide) rfl dX9_setTile_121 kq_38 lq_38 (fun hj W => pe_38 hj W) h (fun j13 hj14 h => ?_)
        refine Jr.eq (lv' := [(3, .int v1), (0, .ref (ad 23)), (1, .ref (ad p1)), (2, .int p2)]) (st' := [.ref (ad (66 + 2 * j13))]) rfl rfl ?_
        refine r_ifnull C dX9_setTile_122 ?_
        show Jr _ _ _ _ _ _ 125 _
        refine r_aload_n C dX9_setTile_125 rfl 2 rfl ?_
        refine r_aload_n C dX9_setTile_126 rfl 1 rfl ?_
        refine r_getp (f := 904) (j := 38) C flX9_34 dX9_setTile_127 kq_23 (by decide) rfl (fun W => pt_904 kq_23 W) ?_
        refine r_iload_n C dX9_setTile_130 rfl 0 rfl ?_
        refine r_aald (n := 16) (t := fun j9 => (66 + 2 * j9)) C 20 (by decide) rfl dX9_setTile_131 kq_38 lq_38 (fun hj W => pe_38 hj W) h (fun j15 hj16 h => ?_)
        refine Jr.eq (lv' := [(3, .int v1), (0, .ref (ad 23)), (1, .ref (ad p1)), (2, .int p2)]) (st' := [.ref (ad (66 + 2 * j15)), .ref (ad p1)]) rfl rfl ?_
        refine r_callVN C M h [.ref (ad (66 + 2 * j15))] [] mlX9_643 mcX10_copy (fun q9 e9 => s_X10_copy p1 (66 + 2 * j15) hk1 (pek_38 hj16) e9) hk1 rfl (by decide) (by decide) rfl rfl (Nat.le_of_ble_eq_true rfl) dX9_setTile_132 (fun _ T17 h => ?_)
        show Jr _ _ _ _ _ _ 135 _
        refine r_iconst (v := 1) C dX9_setTile_135 (by decide) ?_
        exact r_zret C M dX9_setTile_136 (by decide) h
  rw [if_neg hs10] at h
  refine r_tabOut (tgt := 139) C dX9_setTile_9 (by have t09 : (p2).toInt ≠ 0 := ne_toInt hs2 (by decide); have t19 : (p2).toInt ≠ 1 := ne_toInt hs4 (by decide); have t29 : (p2).toInt ≠ 2 := ne_toInt hs6 (by decide); have t39 : (p2).toInt ≠ 3 := ne_toInt hs8 (by decide); have t49 : (p2).toInt ≠ 4 := ne_toInt hs10 (by decide); omega) (by decide) ?_
  refine r_iconst (v := 0) C dX9_setTile_139 (by decide) ?_
  exact r_zret C M dX9_setTile_140 (by decide) h
theorem dX0_layBlack_0 : decode cX0_layBlack 0 = .ok (.aload_n 0, 1) := by decide +kernel
theorem dX0_layBlack_1 : decode cX0_layBlack 1 = .ok (.getfield 15, 3) := by decide +kernel
theorem dX0_layBlack_4 : decode cX0_layBlack 4 = .ok (.iconst (-1), 1) := by decide +kernel
theorem dX0_layBlack_5 : decode cX0_layBlack 5 = .ok (.invokestatic 42, 3) := by decide +kernel
theorem dX0_layBlack_8 : decode cX0_layBlack 8 = .ok (.return_, 1) := by decide +kernel
noncomputable def f_X0_layBlack (T : Mm) : Option (Unit × Mm) :=
  bd (f_J7_fill_53178 26 (-1) T) fun _ T1 =>
  some ((), T1)
set_option maxRecDepth 100000 in
set_option maxHeartbeats 4000000 in
theorem s_X0_layBlack {ad : Nat → Nat} {U T : Mm} {q : Unit × Mm}  (h : f_X0_layBlack  T = some q) : Cr 2 yX0_layBlack cX0_layBlack 1 none [.ref (ad 24)] ad true U T eV q := by
  refine cr_of (by decide) (Nat.le_of_ble_eq_true rfl) fun x S0 hn9 C M => ?_
  have C : CB x RX0 cX0_layBlack := C
  refine Jr.eq (lv' := [(0, .ref (ad 24))]) (st' := []) rfl rfl ?_
  unfold f_X0_layBlack at h
  refine r_aload_n C dX0_layBlack_0 rfl 0 rfl ?_
  refine r_getp (f := 1) (j := 26) C flX0_15 dX0_layBlack_1 kq_24 (by decide) rfl (fun W => pt_1 kq_24 W) ?_
  refine r_iconst (v := (-1)) C dX0_layBlack_4 (by decide) ?_
  refine r_callSN C M h [.ref (ad 26), .int (-1)] [] mlX0_42 mcJ7_fill_53178 (fun q9 e9 => s_J7_fill_53178 26 (-1) kq_26 e9) (by decide) (by decide) rfl rfl (Nat.le_of_ble_eq_true rfl) dX0_layBlack_5 (fun _ T1 h => ?_)
  exact r_vret C M dX0_layBlack_8 h
theorem dX9_markBox_0 : decode cX9_markBox 0 = .ok (.aload_n 0, 1) := by decide +kernel
theorem dX9_markBox_1 : decode cX9_markBox 1 = .ok (.getfield 12, 3) := by decide +kernel
theorem dX9_markBox_4 : decode cX9_markBox 4 = .ok (.aload 5, 2) := by decide +kernel
theorem dX9_markBox_6 : decode cX9_markBox 6 = .ok (.aload_n 0, 1) := by decide +kernel
theorem dX9_markBox_7 : decode cX9_markBox 7 = .ok (.getfield 57, 3) := by decide +kernel
theorem dX9_markBox_10 : decode cX9_markBox 10 = .ok (.invokevirtual 542, 3) := by decide +kernel
theorem dX9_markBox_13 : decode cX9_markBox 13 = .ok (.aload_n 0, 1) := by decide +kernel
theorem dX9_markBox_14 : decode cX9_markBox 14 = .ok (.invokevirtual 118, 3) := by decide +kernel
theorem dX9_markBox_17 : decode cX9_markBox 17 = .ok (.ifCond .ne 61, 3) := by decide +kernel
theorem dX9_markBox_20 : decode cX9_markBox 20 = .ok (.aload_n 0, 1) := by decide +kernel
theorem dX9_markBox_21 : decode cX9_markBox 21 = .ok (.getfield 12, 3) := by decide +kernel
theorem dX9_markBox_24 : decode cX9_markBox 24 = .ok (.aload_n 0, 1) := by decide +kernel
theorem dX9_markBox_25 : decode cX9_markBox 25 = .ok (.getfield 57, 3) := by decide +kernel
theorem dX9_markBox_28 : decode cX9_markBox 28 = .ok (.getfield 129, 3) := by decide +kernel
theorem dX9_markBox_31 : decode cX9_markBox 31 = .ok (.iload_n 1, 1) := by decide +kernel
theorem dX9_markBox_32 : decode cX9_markBox 32 = .ok (.iload_n 2, 1) := by decide +kernel
theorem dX9_markBox_33 : decode cX9_markBox 33 = .ok (.iload_n 3, 1) := by decide +kernel
theorem dX9_markBox_34 : decode cX9_markBox 34 = .ok (.iload 4, 2) := by decide +kernel
theorem dX9_markBox_36 : decode cX9_markBox 36 = .ok (.invokevirtual 546, 3) := by decide +kernel
theorem dX9_markBox_39 : decode cX9_markBox 39 = .ok (.ifCond .eq 39, 3) := by decide +kernel
theorem dX9_markBox_42 : decode cX9_markBox 42 = .ok (.aload_n 0, 1) := by decide +kernel
theorem dX9_markBox_43 : decode cX9_markBox 43 = .ok (.getfield 12, 3) := by decide +kernel
theorem dX9_markBox_46 : decode cX9_markBox 46 = .ok (.getfield 549, 3) := by decide +kernel
theorem dX9_markBox_49 : decode cX9_markBox 49 = .ok (.istore 6, 2) := by decide +kernel
theorem dX9_markBox_51 : decode cX9_markBox 51 = .ok (.iload 6, 2) := by decide +kernel
theorem dX9_markBox_53 : decode cX9_markBox 53 = .ok (.aload_n 0, 1) := by decide +kernel
theorem dX9_markBox_54 : decode cX9_markBox 54 = .ok (.getfield 12, 3) := by decide +kernel
theorem dX9_markBox_57 : decode cX9_markBox 57 = .ok (.getfield 552, 3) := by decide +kernel
theorem dX9_markBox_60 : decode cX9_markBox 60 = .ok (.if_icmp .ge 18, 3) := by decide +kernel
theorem dX9_markBox_63 : decode cX9_markBox 63 = .ok (.aload_n 0, 1) := by decide +kernel
theorem dX9_markBox_64 : decode cX9_markBox 64 = .ok (.getfield 12, 3) := by decide +kernel
theorem dX9_markBox_67 : decode cX9_markBox 67 = .ok (.iload 6, 2) := by decide +kernel
theorem dX9_markBox_69 : decode cX9_markBox 69 = .ok (.invokevirtual 561, 3) := by decide +kernel
theorem dX9_markBox_72 : decode cX9_markBox 72 = .ok (.iinc 6 1, 3) := by decide +kernel
theorem dX9_markBox_75 : decode cX9_markBox 75 = .ok (.goto (-24), 3) := by decide +kernel
theorem dX9_markBox_78 : decode cX9_markBox 78 = .ok (.return_, 1) := by decide +kernel
noncomputable def f_X9_markBox_b51 (k51 : Int32 → Mm → Option (Unit × Mm)) (a6 : Int32) (T : Mm) : Option (Unit × Mm) :=
  if (gI T 9 24) ≤ a6 then (some ((), T))
  else (bd (f_X0_paintRow a6 T) fun _ T1 =>
  k51 (a6 + 1) T1)
set_option maxRecDepth 100000 in
set_option maxHeartbeats 4000000 in
theorem s_X9_markBox_b51 {x : JX} {ad : Nat → Nat} {U : Mm} {S0 : Hp} {q : Unit × Mm}  {k51 : Int32 → Mm → Option (Unit × Mm)} (hn9 : x_n x = 7) (C : CB x RX9 cX9_markBox) (M : CMr x 4 none S0 ad true U eV q) (hk51 : ∀ (a6 : Int32) (T : Mm), k51 a6 T = some q → Jr x ad true U T [(0, .ref (ad 23)), (6, .int a6)] 51 []) (a6 : Int32) (T : Mm) (h : f_X9_markBox_b51 k51 a6 T = some q) : Jr x ad true U T [(0, .ref (ad 23)), (6, .int a6)] 51 [] := by
  unfold f_X9_markBox_b51 at h
  refine r_iload C dX9_markBox_51 1 rfl ?_
  refine r_aload_n C dX9_markBox_53 rfl 0 rfl ?_
  refine r_getp (f := 901) (j := 24) C flX9_12 dX9_markBox_54 kq_23 (by decide) rfl (fun W => pt_901 kq_23 W) ?_
  refine r_geti (f := 9) C flX9_552 dX9_markBox_57 kq_24 (by decide) (by decide) rfl ?_
  refine r_ic_ge (tgt := 78) C dX9_markBox_60 (by decide) h (fun h => ?_) (fun h => ?_)
  · exact r_vret C M dX9_markBox_78 h
  · refine r_aload_n C dX9_markBox_63 rfl 0 rfl ?_
    refine r_getp (f := 901) (j := 24) C flX9_12 dX9_markBox_64 kq_23 (by decide) rfl (fun W => pt_901 kq_23 W) ?_
    refine r_iload C dX9_markBox_67 1 rfl ?_
    refine r_callVN C M h [.int a6] [] mlX9_561 mcX0_paintRow (fun q9 e9 => s_X0_paintRow a6  e9) kq_24 rfl (by decide) (by decide) rfl rfl (Nat.le_of_ble_eq_true rfl) dX9_markBox_69 (fun _ T1 h => ?_)
    refine r_iinc (q := 1) (v := (a6 + 1)) (lv' := [(6, .int (a6 + 1)), (0, .ref (ad 23))]) C dX9_markBox_72 rfl (by rw [show Int32.ofInt (1) = 1 by decide]) (by rw [hn9]; decide) rfl ?_
    show Jr _ _ _ _ _ _ 75 _
    refine r_goto (tgt := 51) C dX9_markBox_75 (by decide) ?_
    refine Jr.sub [1, 0] (lv' := [(0, .ref (ad 23)), (6, .int (a6 + 1))]) rfl ?_
    exact hk51 (a6 + 1) T1 h
noncomputable def f_X9_markBox_l51 (n : Nat) : Int32 → Mm → Option (Unit × Mm) := Nat.rec (fun _ _ => none) (fun _ ih => f_X9_markBox_b51 ih) n
theorem s_X9_markBox_l51 {x : JX} {ad : Nat → Nat} {U : Mm} {S0 : Hp} {q : Unit × Mm}  (hn9 : x_n x = 7) (C : CB x RX9 cX9_markBox) (M : CMr x 4 none S0 ad true U eV q) : ∀ (n : Nat), ∀ (a6 : Int32) (T : Mm), f_X9_markBox_l51  n a6 T = some q → Jr x ad true U T [(0, .ref (ad 23)), (6, .int a6)] 51 [] := by
  intro n
  induction n with
  | zero => intro a6 T  h; exact absurd h (by intro h; cases h)
  | succ n ih => exact fun a6 T  h => s_X9_markBox_b51 hn9 C M (ih) a6 T  h
noncomputable def f_X9_markBox (p1 : Int32) (p2 : Int32) (p3 : Int32) (p4 : Int32) (p5 : Nat) (T : Mm) : Option (Unit × Mm) :=
  bd (f_X0_ink p5 45 T) fun _ T1 =>
  bd (f_X9_isMuch T1) fun v2 T3 =>
  if v2 = 0 then (bd (f_X0_mark 46 p1 p2 p3 p4 T3) fun v4 T5 =>
  if v4 = 0 then (some ((), T5))
  else (lb ((gI T5 8 24)) fun v6 =>
  f_X9_markBox_l51 FU v6 T5))
  else (some ((), T3))
set_option maxRecDepth 100000 in
set_option maxHeartbeats 4000000 in
theorem s_X9_markBox {ad : Nat → Nat} {U T : Mm} {q : Unit × Mm}  (p1 : Int32) (p2 : Int32) (p3 : Int32) (p4 : Int32) (p5 : Nat) (hk5 : kS true p5 = 10) (h : f_X9_markBox p1 p2 p3 p4 p5 T = some q) : Cr 4 yX9_markBox cX9_markBox 7 none [.ref (ad 23), .int p1, .int p2, .int p3, .int p4, .ref (ad p5)] ad true U T eV q := by
  refine cr_of (by decide) (Nat.le_of_ble_eq_true rfl) fun x S0 hn9 C M => ?_
  have C : CB x RX9 cX9_markBox := C
  refine Jr.eq (lv' := [(0, .ref (ad 23)), (1, .int p1), (2, .int p2), (3, .int p3), (4, .int p4), (5, .ref (ad p5))]) (st' := []) rfl rfl ?_
  unfold f_X9_markBox at h
  refine r_aload_n C dX9_markBox_0 rfl 0 rfl ?_
  refine r_getp (f := 901) (j := 24) C flX9_12 dX9_markBox_1 kq_23 (by decide) rfl (fun W => pt_901 kq_23 W) ?_
  refine r_aload C dX9_markBox_4 5 rfl ?_
  refine r_aload_n C dX9_markBox_6 rfl 0 rfl ?_
  refine r_getp (f := 909) (j := 45) C flX9_57 dX9_markBox_7 kq_23 (by decide) rfl (fun W => pt_909 kq_23 W) ?_
  show Jr _ _ _ _ _ _ 10 _
  refine r_callVN C M h [.ref (ad p5), .ref (ad 45)] [] mlX9_542 mcX0_ink (fun q9 e9 => s_X0_ink p5 45 hk5 kq_45 e9) kq_24 rfl (by decide) (by decide) rfl rfl (Nat.le_of_ble_eq_true rfl) dX9_markBox_10 (fun _ T1 h => ?_)
  refine r_aload_n C dX9_markBox_13 rfl 0 rfl ?_
  refine r_callVI C M h [] [] mlX9_118 mcX9_isMuch (fun q9 e9 => s_X9_isMuch   e9) kq_23 rfl (by decide) (by decide) rfl rfl (Nat.le_of_ble_eq_true rfl) dX9_markBox_14 (fun v2 T3 h => ?_)
  refine r_if_ne (tgt := 78) C dX9_markBox_17 (by decide) h (fun h => ?_) (fun h => ?_)
  · exact r_vret C M dX9_markBox_78 h
  · refine r_aload_n C dX9_markBox_20 rfl 0 rfl ?_
    refine r_getp (f := 901) (j := 24) C flX9_12 dX9_markBox_21 kq_23 (by decide) rfl (fun W => pt_901 kq_23 W) ?_
    refine r_aload_n C dX9_markBox_24 rfl 0 rfl ?_
    refine r_getp (f := 909) (j := 45) C flX9_57 dX9_markBox_25 kq_23 (by decide) rfl (fun W => pt_909 kq_23 W) ?_
    refine r_getp (f := 100) (j := 46) C flX9_129 dX9_markBox_28 kq_45 (by decide) rfl (fun W => pt_100 kq_45 W) ?_
    show Jr _ _ _ _ _ _ 31 _
    refine r_iload_n C dX9_markBox_31 rfl 1 rfl ?_
    refine r_iload_n C dX9_markBox_32 rfl 2 rfl ?_
    refine r_iload_n C dX9_markBox_33 rfl 3 rfl ?_
    refine r_iload C dX9_markBox_34 4 rfl ?_
    refine r_callVI C M h [.ref (ad 46), .int p1, .int p2, .int p3, .int p4] [] mlX9_546 mcX0_mark (fun q9 e9 => s_X0_mark 46 p1 p2 p3 p4 kq_46 e9) kq_24 rfl (by decide) (by decide) rfl rfl (Nat.le_of_ble_eq_true rfl) dX9_markBox_36 (fun v4 T5 h => ?_)
    refine r_if_eq (tgt := 78) C dX9_markBox_39 (by decide) h (fun h => ?_) (fun h => ?_)
    · exact r_vret C M dX9_markBox_78 h
    · refine r_aload_n C dX9_markBox_42 rfl 0 rfl ?_
      refine r_getp (f := 901) (j := 24) C flX9_12 dX9_markBox_43 kq_23 (by decide) rfl (fun W => pt_901 kq_23 W) ?_
      refine r_geti (f := 8) C flX9_549 dX9_markBox_46 kq_24 (by decide) (by decide) rfl ?_
      refine r_lbI h (fun v6 h => ?_)
      refine r_istore (lv' := [(6, .int v6), (0, .ref (ad 23)), (1, .int p1), (2, .int p2), (3, .int p3), (4, .int p4), (5, .ref (ad p5))]) C dX9_markBox_49 (by rw [hn9]; decide) rfl ?_
      refine Jr.sub [1, 0] (lv' := [(0, .ref (ad 23)), (6, .int v6)]) rfl ?_
      exact s_X9_markBox_l51 hn9 C M  FU v6 T5 h
theorem dX9_box_0 : decode cX9_box 0 = .ok (.iload_n 1, 1) := by decide +kernel
theorem dX9_box_1 : decode cX9_box 1 = .ok (.iconst 5, 1) := by decide +kernel
theorem dX9_box_2 : decode cX9_box 2 = .ok (.if_icmp .eq 15, 3) := by decide +kernel
theorem dX9_box_5 : decode cX9_box 5 = .ok (.aload_n 0, 1) := by decide +kernel
theorem dX9_box_6 : decode cX9_box 6 = .ok (.aload_n 0, 1) := by decide +kernel
theorem dX9_box_7 : decode cX9_box 7 = .ok (.getfield 39, 3) := by decide +kernel
theorem dX9_box_10 : decode cX9_box 10 = .ok (.iload_n 1, 1) := by decide +kernel
theorem dX9_box_11 : decode cX9_box 11 = .ok (.invokevirtual 610, 3) := by decide +kernel
theorem dX9_box_14 : decode cX9_box 14 = .ok (.ifCond .eq 7, 3) := by decide +kernel
theorem dX9_box_17 : decode cX9_box 17 = .ok (.iconst 1, 1) := by decide +kernel
theorem dX9_box_18 : decode cX9_box 18 = .ok (.goto 4, 3) := by decide +kernel
theorem dX9_box_21 : decode cX9_box 21 = .ok (.iconst 0, 1) := by decide +kernel
theorem dX9_box_22 : decode cX9_box 22 = .ok (.istore_n 2, 1) := by decide +kernel
theorem dX9_box_23 : decode cX9_box 23 = .ok (.iload_n 2, 1) := by decide +kernel
theorem dX9_box_24 : decode cX9_box 24 = .ok (.ifCond .eq 99, 3) := by decide +kernel
theorem dX9_box_27 : decode cX9_box 27 = .ok (.aload_n 0, 1) := by decide +kernel
theorem dX9_box_28 : decode cX9_box 28 = .ok (.getfield 57, 3) := by decide +kernel
theorem dX9_box_31 : decode cX9_box 31 = .ok (.getfield 596, 3) := by decide +kernel
theorem dX9_box_34 : decode cX9_box 34 = .ok (.ifCond .le 89, 3) := by decide +kernel
theorem dX9_box_37 : decode cX9_box 37 = .ok (.aload_n 0, 1) := by decide +kernel
theorem dX9_box_38 : decode cX9_box 38 = .ok (.getfield 57, 3) := by decide +kernel
theorem dX9_box_41 : decode cX9_box 41 = .ok (.getfield 599, 3) := by decide +kernel
theorem dX9_box_44 : decode cX9_box 44 = .ok (.ifCond .le 79, 3) := by decide +kernel
theorem dX9_box_47 : decode cX9_box 47 = .ok (.aload_n 0, 1) := by decide +kernel
theorem dX9_box_48 : decode cX9_box 48 = .ok (.getfield 12, 3) := by decide +kernel
theorem dX9_box_51 : decode cX9_box 51 = .ok (.invokevirtual 614, 3) := by decide +kernel
theorem dX9_box_54 : decode cX9_box 54 = .ok (.aload_n 0, 1) := by decide +kernel
theorem dX9_box_55 : decode cX9_box 55 = .ok (.getfield 57, 3) := by decide +kernel
theorem dX9_box_58 : decode cX9_box 58 = .ok (.getfield 129, 3) := by decide +kernel
theorem dX9_box_61 : decode cX9_box 61 = .ok (.getfield 133, 3) := by decide +kernel
theorem dX9_box_64 : decode cX9_box 64 = .ok (.bipush 96, 2) := by decide +kernel
theorem dX9_box_66 : decode cX9_box 66 = .ok (.idiv, 1) := by decide +kernel
theorem dX9_box_67 : decode cX9_box 67 = .ok (.istore_n 3, 1) := by decide +kernel
theorem dX9_box_68 : decode cX9_box 68 = .ok (.aload_n 0, 1) := by decide +kernel
theorem dX9_box_69 : decode cX9_box 69 = .ok (.getfield 57, 3) := by decide +kernel
theorem dX9_box_72 : decode cX9_box 72 = .ok (.getfield 129, 3) := by decide +kernel
theorem dX9_box_75 : decode cX9_box 75 = .ok (.getfield 138, 3) := by decide +kernel
theorem dX9_box_78 : decode cX9_box 78 = .ok (.bipush 96, 2) := by decide +kernel
theorem dX9_box_80 : decode cX9_box 80 = .ok (.idiv, 1) := by decide +kernel
theorem dX9_box_81 : decode cX9_box 81 = .ok (.istore 4, 2) := by decide +kernel
theorem dX9_box_83 : decode cX9_box 83 = .ok (.aload_n 0, 1) := by decide +kernel
theorem dX9_box_84 : decode cX9_box 84 = .ok (.iload_n 3, 1) := by decide +kernel
theorem dX9_box_85 : decode cX9_box 85 = .ok (.iload 4, 2) := by decide +kernel
theorem dX9_box_87 : decode cX9_box 87 = .ok (.aload_n 0, 1) := by decide +kernel
theorem dX9_box_88 : decode cX9_box 88 = .ok (.getfield 57, 3) := by decide +kernel
theorem dX9_box_91 : decode cX9_box 91 = .ok (.getfield 596, 3) := by decide +kernel
theorem dX9_box_94 : decode cX9_box 94 = .ok (.aload_n 0, 1) := by decide +kernel
theorem dX9_box_95 : decode cX9_box 95 = .ok (.getfield 57, 3) := by decide +kernel
theorem dX9_box_98 : decode cX9_box 98 = .ok (.getfield 599, 3) := by decide +kernel
theorem dX9_box_101 : decode cX9_box 101 = .ok (.iload_n 1, 1) := by decide +kernel
theorem dX9_box_102 : decode cX9_box 102 = .ok (.iconst 5, 1) := by decide +kernel
theorem dX9_box_103 : decode cX9_box 103 = .ok (.if_icmp .ne 13, 3) := by decide +kernel
theorem dX9_box_106 : decode cX9_box 106 = .ok (.aload_n 0, 1) := by decide +kernel
theorem dX9_box_107 : decode cX9_box 107 = .ok (.getfield 57, 3) := by decide +kernel
theorem dX9_box_110 : decode cX9_box 110 = .ok (.getfield 539, 3) := by decide +kernel
theorem dX9_box_113 : decode cX9_box 113 = .ok (.goto 7, 3) := by decide +kernel
theorem dX9_box_116 : decode cX9_box 116 = .ok (.aload_n 0, 1) := by decide +kernel
theorem dX9_box_117 : decode cX9_box 117 = .ok (.getfield 39, 3) := by decide +kernel
theorem dX9_box_120 : decode cX9_box 120 = .ok (.invokevirtual 617, 3) := by decide +kernel
theorem dX9_box_123 : decode cX9_box 123 = .ok (.return_, 1) := by decide +kernel
noncomputable def f_X9_box_22 (a1 : Int32) (b0 : Int32) (T : Mm) : Option (Unit × Mm) :=
  if b0 = 0 then (some ((), T))
  else (if (gI T 114 45) ≤ 0 then (some ((), T))
  else (if (gI T 115 45) ≤ 0 then (some ((), T))
  else (bd (f_X0_layBlack T) fun _ T1 =>
  lb (((gI T1 706 46) / 96)) fun v2 =>
  lb (((gI T1 707 46) / 96)) fun v3 =>
  if a1 = 5 then (bd (f_X9_markBox v2 v3 (gI T1 114 45) (gI T1 115 45) 50 T1) fun _ T5 =>
  some ((), T5))
  else (bd (f_X9_markBox v2 v3 (gI T1 114 45) (gI T1 115 45) 39 T1) fun _ T4 =>
  some ((), T4)))))
set_option maxRecDepth 100000 in
set_option maxHeartbeats 4000000 in
theorem s_X9_box_22 {x : JX} {ad : Nat → Nat} {U : Mm} {S0 : Hp} {q : Unit × Mm}  (hn9 : x_n x = 5) (C : CB x RX9 cX9_box) (M : CMr x 5 none S0 ad true U eV q) (a1 : Int32) (b0 : Int32) (T : Mm) (h : f_X9_box_22  a1 b0 T = some q) : Jr x ad true U T [(0, .ref (ad 23)), (1, .int a1)] 22 [.int b0] := by
  unfold f_X9_box_22 at h
  refine r_istore_n (lv' := [(2, .int b0), (0, .ref (ad 23)), (1, .int a1)]) C dX9_box_22 rfl (by rw [hn9]; decide) rfl ?_
  refine r_iload_n C dX9_box_23 rfl 0 rfl ?_
  refine r_if_eq (tgt := 123) C dX9_box_24 (by decide) h (fun h => ?_) (fun h => ?_)
  · exact r_vret C M dX9_box_123 h
  · refine r_aload_n C dX9_box_27 rfl 1 rfl ?_
    refine r_getp (f := 909) (j := 45) C flX9_57 dX9_box_28 kq_23 (by decide) rfl (fun W => pt_909 kq_23 W) ?_
    refine r_geti (f := 114) C flX9_596 dX9_box_31 kq_45 (by decide) (by decide) rfl ?_
    refine r_if_le (tgt := 123) C dX9_box_34 (by decide) h (fun h => ?_) (fun h => ?_)
    · exact r_vret C M dX9_box_123 h
    · refine r_aload_n C dX9_box_37 rfl 1 rfl ?_
      refine r_getp (f := 909) (j := 45) C flX9_57 dX9_box_38 kq_23 (by decide) rfl (fun W => pt_909 kq_23 W) ?_
      refine r_geti (f := 115) C flX9_599 dX9_box_41 kq_45 (by decide) (by decide) rfl ?_
      refine r_if_le (tgt := 123) C dX9_box_44 (by decide) h (fun h => ?_) (fun h => ?_)
      · exact r_vret C M dX9_box_123 h
      · refine r_aload_n C dX9_box_47 rfl 1 rfl ?_
        refine r_getp (f := 901) (j := 24) C flX9_12 dX9_box_48 kq_23 (by decide) rfl (fun W => pt_901 kq_23 W) ?_
        refine r_callVN C M h [] [] mlX9_614 mcX0_layBlack (fun q9 e9 => s_X0_layBlack   e9) kq_24 rfl (by decide) (by decide) rfl rfl (Nat.le_of_ble_eq_true rfl) dX9_box_51 (fun _ T1 h => ?_)
        refine r_aload_n C dX9_box_54 rfl 1 rfl ?_
        refine r_getp (f := 909) (j := 45) C flX9_57 dX9_box_55 kq_23 (by decide) rfl (fun W => pt_909 kq_23 W) ?_
        show Jr _ _ _ _ _ _ 58 _
        refine r_getp (f := 100) (j := 46) C flX9_129 dX9_box_58 kq_45 (by decide) rfl (fun W => pt_100 kq_45 W) ?_
        refine r_geti (f := 706) C flX9_133 dX9_box_61 kq_46 (by decide) (by decide) rfl ?_
        refine r_bipush (v := 96) C dX9_box_64 (by decide) ?_
        refine r_idiv C dX9_box_66 (by decide) rfl ?_
        refine r_lbI h (fun v2 h => ?_)
        refine r_istore_n (lv' := [(3, .int v2), (2, .int b0), (0, .ref (ad 23)), (1, .int a1)]) C dX9_box_67 rfl (by rw [hn9]; decide) rfl ?_
        refine r_aload_n C dX9_box_68 rfl 2 rfl ?_
        show Jr _ _ _ _ _ _ 69 _
        refine r_getp (f := 909) (j := 45) C flX9_57 dX9_box_69 kq_23 (by decide) rfl (fun W => pt_909 kq_23 W) ?_
        refine r_getp (f := 100) (j := 46) C flX9_129 dX9_box_72 kq_45 (by decide) rfl (fun W => pt_100 kq_45 W) ?_
        refine r_geti (f := 707) C flX9_138 dX9_box_75 kq_46 (by decide) (by decide) rfl ?_
        refine r_bipush (v := 96) C dX9_box_78 (by decide) ?_
        refine r_idiv C dX9_box_80 (by decide) rfl ?_
        refine r_lbI h (fun v3 h => ?_)
        refine r_istore (lv' := [(4, .int v3), (3, .int v2), (2, .int b0), (0, .ref (ad 23)), (1, .int a1)]) C dX9_box_81 (by rw [hn9]; decide) rfl ?_
        show Jr _ _ _ _ _ _ 83 _
        refine r_aload_n C dX9_box_83 rfl 3 rfl ?_
        refine r_iload_n C dX9_box_84 rfl 1 rfl ?_
        refine r_iload C dX9_box_85 0 rfl ?_
        refine r_aload_n C dX9_box_87 rfl 3 rfl ?_
        refine r_getp (f := 909) (j := 45) C flX9_57 dX9_box_88 kq_23 (by decide) rfl (fun W => pt_909 kq_23 W) ?_
        refine r_geti (f := 114) C flX9_596 dX9_box_91 kq_45 (by decide) (by decide) rfl ?_
        show Jr _ _ _ _ _ _ 94 _
        refine r_aload_n C dX9_box_94 rfl 3 rfl ?_
        refine r_getp (f := 909) (j := 45) C flX9_57 dX9_box_95 kq_23 (by decide) rfl (fun W => pt_909 kq_23 W) ?_
        refine r_geti (f := 115) C flX9_599 dX9_box_98 kq_45 (by decide) (by decide) rfl ?_
        refine r_iload_n C dX9_box_101 rfl 4 rfl ?_
        refine r_iconst (v := 5) C dX9_box_102 (by decide) ?_
        refine r_ic_ne (tgt := 116) C dX9_box_103 (by decide) h (fun h => ?_) (fun h => ?_)
        · refine r_aload_n C dX9_box_116 rfl 3 rfl ?_
          refine r_getp (f := 905) (j := 39) C flX9_39 dX9_box_117 kq_23 (by decide) rfl (fun W => pt_905 kq_23 W) ?_
          refine r_callVN C M h [.int v2, .int v3, .int (gI T1 114 45), .int (gI T1 115 45), .ref (ad 39)] [] mlX9_617 mcX9_markBox (fun q9 e9 => s_X9_markBox v2 v3 (gI T1 114 45) (gI T1 115 45) 39 kq_39 e9) kq_23 rfl (by decide) (by decide) rfl rfl (Nat.le_of_ble_eq_true rfl) dX9_box_120 (fun _ T4 h => ?_)
          exact r_vret C M dX9_box_123 h
        · refine r_aload_n C dX9_box_106 rfl 3 rfl ?_
          refine r_getp (f := 909) (j := 45) C flX9_57 dX9_box_107 kq_23 (by decide) rfl (fun W => pt_909 kq_23 W) ?_
          refine r_getp (f := 102) (j := 50) C flX9_539 dX9_box_110 kq_45 (by decide) rfl (fun W => pt_102 kq_45 W) ?_
          refine r_goto (tgt := 120) C dX9_box_113 (by decide) ?_
          refine r_callVN C M h [.int v2, .int v3, .int (gI T1 114 45), .int (gI T1 115 45), .ref (ad 50)] [] mlX9_617 mcX9_markBox (fun q9 e9 => s_X9_markBox v2 v3 (gI T1 114 45) (gI T1 115 45) 50 kq_50 e9) kq_23 rfl (by decide) (by decide) rfl rfl (Nat.le_of_ble_eq_true rfl) dX9_box_120 (fun _ T5 h => ?_)
          show Jr _ _ _ _ _ _ 123 _
          exact r_vret C M dX9_box_123 h
noncomputable def f_X9_box (p1 : Int32) (T : Mm) : Option (Unit × Mm) :=
  if p1 = 5 then (f_X9_box_22 p1 1 T)
  else (bd (f_X9_setTile 39 p1 T) fun v1 T2 =>
  if v1 = 0 then (f_X9_box_22 p1 0 T2)
  else (f_X9_box_22 p1 1 T2))
set_option maxRecDepth 100000 in
set_option maxHeartbeats 4000000 in
theorem s_X9_box {ad : Nat → Nat} {U T : Mm} {q : Unit × Mm}  (p1 : Int32) (h : f_X9_box p1 T = some q) : Cr 5 yX9_box cX9_box 5 none [.ref (ad 23), .int p1] ad true U T eV q := by
  refine cr_of (by decide) (Nat.le_of_ble_eq_true rfl) fun x S0 hn9 C M => ?_
  have C : CB x RX9 cX9_box := C
  refine Jr.eq (lv' := [(0, .ref (ad 23)), (1, .int p1)]) (st' := []) rfl rfl ?_
  unfold f_X9_box at h
  refine r_iload_n C dX9_box_0 rfl 1 rfl ?_
  refine r_iconst (v := 5) C dX9_box_1 (by decide) ?_
  refine r_ic_eq (tgt := 17) C dX9_box_2 (by decide) h (fun h => ?_) (fun h => ?_)
  · refine r_iconst (v := 1) C dX9_box_17 (by decide) ?_
    refine r_goto (tgt := 22) C dX9_box_18 (by decide) ?_
    exact s_X9_box_22 hn9 C M  p1 1 T h
  · refine r_aload_n C dX9_box_5 rfl 0 rfl ?_
    refine r_aload_n C dX9_box_6 rfl 0 rfl ?_
    refine r_getp (f := 905) (j := 39) C flX9_39 dX9_box_7 kq_23 (by decide) rfl (fun W => pt_905 kq_23 W) ?_
    refine r_iload_n C dX9_box_10 rfl 1 rfl ?_
    refine r_callVI C M h [.ref (ad 39), .int p1] [] mlX9_610 mcX9_setTile (fun q9 e9 => s_X9_setTile 39 p1 kq_39 e9) kq_23 rfl (by decide) (by decide) rfl rfl (Nat.le_of_ble_eq_true rfl) dX9_box_11 (fun v1 T2 h => ?_)
    show Jr _ _ _ _ _ _ 14 _
    refine r_if_eq (tgt := 21) C dX9_box_14 (by decide) h (fun h => ?_) (fun h => ?_)
    · refine r_iconst (v := 0) C dX9_box_21 (by decide) ?_
      exact s_X9_box_22 hn9 C M  p1 0 T2 h
    · refine r_iconst (v := 1) C dX9_box_17 (by decide) ?_
      refine r_goto (tgt := 22) C dX9_box_18 (by decide) ?_
      exact s_X9_box_22 hn9 C M  p1 1 T2 h
theorem dX9_controlField_0 : decode cX9_controlField 0 = .ok (.aload_n 0, 1) := by decide +kernel
theorem dX9_controlField_1 : decode cX9_controlField 1 = .ok (.getfield 82, 3) := by decide +kernel
theorem dX9_controlField_4 : decode cX9_controlField 4 = .ok (.getfield 327, 3) := by decide +kernel
theorem dX9_controlField_7 : decode cX9_controlField 7 = .ok (.tableswitch 309 65 87 #[209, 234, 309, 105, 136, 168, 176, 259, 309, 309, 309, 309, 309, 309, 309, 301, 201, 309, 309, 309, 309, 280, 187], 105) := by decide +kernel
theorem dX9_controlField_112 : decode cX9_controlField 112 = .ok (.aload_n 0, 1) := by decide +kernel
theorem dX9_controlField_113 : decode cX9_controlField 113 = .ok (.getfield 57, 3) := by decide +kernel
theorem dX9_controlField_116 : decode cX9_controlField 116 = .ok (.iload_n 1, 1) := by decide +kernel
theorem dX9_controlField_117 : decode cX9_controlField 117 = .ok (.ifCond .lt 13, 3) := by decide +kernel
theorem dX9_controlField_120 : decode cX9_controlField 120 = .ok (.iload_n 1, 1) := by decide +kernel
theorem dX9_controlField_121 : decode cX9_controlField 121 = .ok (.bipush 16, 2) := by decide +kernel
theorem dX9_controlField_123 : decode cX9_controlField 123 = .ok (.if_icmp .ge 7, 3) := by decide +kernel
theorem dX9_controlField_126 : decode cX9_controlField 126 = .ok (.iload_n 1, 1) := by decide +kernel
theorem dX9_controlField_127 : decode cX9_controlField 127 = .ok (.goto 10, 3) := by decide +kernel
theorem dX9_controlField_130 : decode cX9_controlField 130 = .ok (.aload_n 0, 1) := by decide +kernel
theorem dX9_controlField_131 : decode cX9_controlField 131 = .ok (.getfield 57, 3) := by decide +kernel
theorem dX9_controlField_134 : decode cX9_controlField 134 = .ok (.getfield 399, 3) := by decide +kernel
theorem dX9_controlField_137 : decode cX9_controlField 137 = .ok (.putfield 399, 3) := by decide +kernel
theorem dX9_controlField_140 : decode cX9_controlField 140 = .ok (.goto 176, 3) := by decide +kernel
theorem dX9_controlField_143 : decode cX9_controlField 143 = .ok (.aload_n 0, 1) := by decide +kernel
theorem dX9_controlField_144 : decode cX9_controlField 144 = .ok (.getfield 57, 3) := by decide +kernel
theorem dX9_controlField_147 : decode cX9_controlField 147 = .ok (.iload_n 1, 1) := by decide +kernel
theorem dX9_controlField_148 : decode cX9_controlField 148 = .ok (.ifCond .lt 14, 3) := by decide +kernel
theorem dX9_controlField_151 : decode cX9_controlField 151 = .ok (.iload_n 1, 1) := by decide +kernel
theorem dX9_controlField_152 : decode cX9_controlField 152 = .ok (.sipush 256, 3) := by decide +kernel
theorem dX9_controlField_155 : decode cX9_controlField 155 = .ok (.if_icmp .ge 7, 3) := by decide +kernel
theorem dX9_controlField_158 : decode cX9_controlField 158 = .ok (.iload_n 1, 1) := by decide +kernel
theorem dX9_controlField_159 : decode cX9_controlField 159 = .ok (.goto 10, 3) := by decide +kernel
theorem dX9_controlField_162 : decode cX9_controlField 162 = .ok (.aload_n 0, 1) := by decide +kernel
theorem dX9_controlField_163 : decode cX9_controlField 163 = .ok (.getfield 57, 3) := by decide +kernel
theorem dX9_controlField_166 : decode cX9_controlField 166 = .ok (.getfield 402, 3) := by decide +kernel
theorem dX9_controlField_169 : decode cX9_controlField 169 = .ok (.putfield 402, 3) := by decide +kernel
theorem dX9_controlField_172 : decode cX9_controlField 172 = .ok (.goto 144, 3) := by decide +kernel
theorem dX9_controlField_175 : decode cX9_controlField 175 = .ok (.aload_n 0, 1) := by decide +kernel
theorem dX9_controlField_176 : decode cX9_controlField 176 = .ok (.iload_n 1, 1) := by decide +kernel
theorem dX9_controlField_177 : decode cX9_controlField 177 = .ok (.invokevirtual 584, 3) := by decide +kernel
theorem dX9_controlField_180 : decode cX9_controlField 180 = .ok (.goto 136, 3) := by decide +kernel
theorem dX9_controlField_183 : decode cX9_controlField 183 = .ok (.aload_n 0, 1) := by decide +kernel
theorem dX9_controlField_184 : decode cX9_controlField 184 = .ok (.getfield 57, 3) := by decide +kernel
theorem dX9_controlField_187 : decode cX9_controlField 187 = .ok (.iload_n 1, 1) := by decide +kernel
theorem dX9_controlField_188 : decode cX9_controlField 188 = .ok (.putfield 587, 3) := by decide +kernel
theorem dX9_controlField_191 : decode cX9_controlField 191 = .ok (.goto 125, 3) := by decide +kernel
theorem dX9_controlField_194 : decode cX9_controlField 194 = .ok (.aload_n 0, 1) := by decide +kernel
theorem dX9_controlField_195 : decode cX9_controlField 195 = .ok (.aload_n 0, 1) := by decide +kernel
theorem dX9_controlField_196 : decode cX9_controlField 196 = .ok (.getfield 57, 3) := by decide +kernel
theorem dX9_controlField_199 : decode cX9_controlField 199 = .ok (.getfield 587, 3) := by decide +kernel
theorem dX9_controlField_202 : decode cX9_controlField 202 = .ok (.invokevirtual 590, 3) := by decide +kernel
theorem dX9_controlField_205 : decode cX9_controlField 205 = .ok (.goto 111, 3) := by decide +kernel
theorem dX9_controlField_208 : decode cX9_controlField 208 = .ok (.aload_n 0, 1) := by decide +kernel
theorem dX9_controlField_209 : decode cX9_controlField 209 = .ok (.iload_n 1, 1) := by decide +kernel
theorem dX9_controlField_210 : decode cX9_controlField 210 = .ok (.invokevirtual 593, 3) := by decide +kernel
theorem dX9_controlField_213 : decode cX9_controlField 213 = .ok (.goto 103, 3) := by decide +kernel
theorem dX9_controlField_216 : decode cX9_controlField 216 = .ok (.aload_n 0, 1) := by decide +kernel
theorem dX9_controlField_217 : decode cX9_controlField 217 = .ok (.getfield 57, 3) := by decide +kernel
theorem dX9_controlField_220 : decode cX9_controlField 220 = .ok (.iload_n 1, 1) := by decide +kernel
theorem dX9_controlField_221 : decode cX9_controlField 221 = .ok (.ifCond .lt 7, 3) := by decide +kernel
theorem dX9_controlField_224 : decode cX9_controlField 224 = .ok (.iload_n 1, 1) := by decide +kernel
theorem dX9_controlField_225 : decode cX9_controlField 225 = .ok (.goto 10, 3) := by decide +kernel
theorem dX9_controlField_228 : decode cX9_controlField 228 = .ok (.aload_n 0, 1) := by decide +kernel
theorem dX9_controlField_229 : decode cX9_controlField 229 = .ok (.getfield 57, 3) := by decide +kernel
theorem dX9_controlField_232 : decode cX9_controlField 232 = .ok (.getfield 596, 3) := by decide +kernel
theorem dX9_controlField_235 : decode cX9_controlField 235 = .ok (.putfield 596, 3) := by decide +kernel
theorem dX9_controlField_238 : decode cX9_controlField 238 = .ok (.goto 78, 3) := by decide +kernel
theorem dX9_controlField_241 : decode cX9_controlField 241 = .ok (.aload_n 0, 1) := by decide +kernel
theorem dX9_controlField_242 : decode cX9_controlField 242 = .ok (.getfield 57, 3) := by decide +kernel
theorem dX9_controlField_245 : decode cX9_controlField 245 = .ok (.iload_n 1, 1) := by decide +kernel
theorem dX9_controlField_246 : decode cX9_controlField 246 = .ok (.ifCond .lt 7, 3) := by decide +kernel
theorem dX9_controlField_249 : decode cX9_controlField 249 = .ok (.iload_n 1, 1) := by decide +kernel
theorem dX9_controlField_250 : decode cX9_controlField 250 = .ok (.goto 10, 3) := by decide +kernel
theorem dX9_controlField_253 : decode cX9_controlField 253 = .ok (.aload_n 0, 1) := by decide +kernel
theorem dX9_controlField_254 : decode cX9_controlField 254 = .ok (.getfield 57, 3) := by decide +kernel
theorem dX9_controlField_257 : decode cX9_controlField 257 = .ok (.getfield 599, 3) := by decide +kernel
theorem dX9_controlField_260 : decode cX9_controlField 260 = .ok (.putfield 599, 3) := by decide +kernel
theorem dX9_controlField_263 : decode cX9_controlField 263 = .ok (.goto 53, 3) := by decide +kernel
theorem dX9_controlField_266 : decode cX9_controlField 266 = .ok (.aload_n 0, 1) := by decide +kernel
theorem dX9_controlField_267 : decode cX9_controlField 267 = .ok (.getfield 57, 3) := by decide +kernel
theorem dX9_controlField_270 : decode cX9_controlField 270 = .ok (.aload_n 0, 1) := by decide +kernel
theorem dX9_controlField_271 : decode cX9_controlField 271 = .ok (.aload_n 0, 1) := by decide +kernel
theorem dX9_controlField_272 : decode cX9_controlField 272 = .ok (.getfield 57, 3) := by decide +kernel
theorem dX9_controlField_275 : decode cX9_controlField 275 = .ok (.getfield 596, 3) := by decide +kernel
theorem dX9_controlField_278 : decode cX9_controlField 278 = .ok (.invokevirtual 602, 3) := by decide +kernel
theorem dX9_controlField_281 : decode cX9_controlField 281 = .ok (.putfield 596, 3) := by decide +kernel
theorem dX9_controlField_284 : decode cX9_controlField 284 = .ok (.goto 32, 3) := by decide +kernel
theorem dX9_controlField_287 : decode cX9_controlField 287 = .ok (.aload_n 0, 1) := by decide +kernel
theorem dX9_controlField_288 : decode cX9_controlField 288 = .ok (.getfield 57, 3) := by decide +kernel
theorem dX9_controlField_291 : decode cX9_controlField 291 = .ok (.aload_n 0, 1) := by decide +kernel
theorem dX9_controlField_292 : decode cX9_controlField 292 = .ok (.aload_n 0, 1) := by decide +kernel
theorem dX9_controlField_293 : decode cX9_controlField 293 = .ok (.getfield 57, 3) := by decide +kernel
theorem dX9_controlField_296 : decode cX9_controlField 296 = .ok (.getfield 599, 3) := by decide +kernel
theorem dX9_controlField_299 : decode cX9_controlField 299 = .ok (.invokevirtual 602, 3) := by decide +kernel
theorem dX9_controlField_302 : decode cX9_controlField 302 = .ok (.putfield 599, 3) := by decide +kernel
theorem dX9_controlField_305 : decode cX9_controlField 305 = .ok (.goto 11, 3) := by decide +kernel
theorem dX9_controlField_308 : decode cX9_controlField 308 = .ok (.aload_n 0, 1) := by decide +kernel
theorem dX9_controlField_309 : decode cX9_controlField 309 = .ok (.iload_n 1, 1) := by decide +kernel
theorem dX9_controlField_310 : decode cX9_controlField 310 = .ok (.invokevirtual 605, 3) := by decide +kernel
theorem dX9_controlField_313 : decode cX9_controlField 313 = .ok (.goto 3, 3) := by decide +kernel
theorem dX9_controlField_316 : decode cX9_controlField 316 = .ok (.return_, 1) := by decide +kernel
noncomputable def f_X9_controlField (p1 : Int32) (T : Mm) : Option (Unit × Mm) :=
  rf true (gR T 913 23) 5 fun j1 =>
  lb ((gI T 505 j1)) fun v3 =>
  if v3 = 65 then (if p1 < 0 then (lb (uI T 114 45 (gI T 114 45)) fun T5 =>
  some ((), T5))
  else (lb (uI T 114 45 p1) fun T6 =>
  some ((), T6)))
  else if v3 = 66 then (if p1 < 0 then (lb (uI T 115 45 (gI T 115 45)) fun T8 =>
  some ((), T8))
  else (lb (uI T 115 45 p1) fun T9 =>
  some ((), T9)))
  else if v3 = 67 then (some ((), T))
  else if v3 = 68 then (if p1 < 0 then (lb (uI T 116 45 (gI T 116 45)) fun T12 =>
  some ((), T12))
  else (if 16 ≤ p1 then (lb (uI T 116 45 (gI T 116 45)) fun T13 =>
  some ((), T13))
  else (lb (uI T 116 45 p1) fun T14 =>
  some ((), T14))))
  else if v3 = 69 then (if p1 < 0 then (lb (uI T 117 45 (gI T 117 45)) fun T16 =>
  some ((), T16))
  else (if 256 ≤ p1 then (lb (uI T 117 45 (gI T 117 45)) fun T17 =>
  some ((), T17))
  else (lb (uI T 117 45 p1) fun T18 =>
  some ((), T18))))
  else if v3 = 70 then (bd (f_X9_fontTask p1 T) fun _ T20 =>
  some ((), T20))
  else if v3 = 71 then (lb (uI T 118 45 p1) fun T22 =>
  some ((), T22))
  else if v3 = 72 then (bd (f_X9_boxSide (gI T 114 45) T) fun v24 T25 =>
  lb (uI T25 114 45 v24) fun T26 =>
  some ((), T26))
  else if v3 = 73 then (some ((), T))
  else if v3 = 74 then (some ((), T))
  else if v3 = 75 then (some ((), T))
  else if v3 = 76 then (some ((), T))
  else if v3 = 77 then (some ((), T))
  else if v3 = 78 then (some ((), T))
  else if v3 = 79 then (some ((), T))
  else if v3 = 80 then (bd (f_X9_box p1 T) fun _ T35 =>
  some ((), T35))
  else if v3 = 81 then (bd (f_X9_tileTask p1 T) fun _ T37 =>
  some ((), T37))
  else if v3 = 82 then (some ((), T))
  else if v3 = 83 then (some ((), T))
  else if v3 = 84 then (some ((), T))
  else if v3 = 85 then (some ((), T))
  else if v3 = 86 then (bd (f_X9_boxSide (gI T 115 45) T) fun v43 T44 =>
  lb (uI T44 115 45 v43) fun T45 =>
  some ((), T45))
  else if v3 = 87 then (bd (f_X9_tellTile (gI T 118 45) T) fun _ T47 =>
  some ((), T47))
  else (some ((), T))
set_option maxRecDepth 100000 in
set_option maxHeartbeats 4000000 in
theorem s_X9_controlField {ad : Nat → Nat} {U T : Mm} {q : Unit × Mm}  (p1 : Int32) (h : f_X9_controlField p1 T = some q) : Cr 6 yX9_controlField cX9_controlField 2 none [.ref (ad 23), .int p1] ad true U T eV q := by
  refine cr_of (by decide) (Nat.le_of_ble_eq_true rfl) fun x S0 hn9 C M => ?_
  have C : CB x RX9 cX9_controlField := C
  refine Jr.eq (lv' := [(0, .ref (ad 23)), (1, .int p1)]) (st' := []) rfl rfl ?_
  unfold f_X9_controlField at h
  refine r_aload_n C dX9_controlField_0 rfl 0 rfl ?_
  refine r_getr (f := 913) (c := 5) C flX9_82 dX9_controlField_1 kq_23 (by decide) rfl h (fun j1 hj2 h => ?_)
  refine r_geti (f := 505) C flX9_327 dX9_controlField_4 hj2 (by decide) (by decide) rfl ?_
  refine r_lbI h (fun v3 h => ?_)
  by_cases hs4 : v3 = 65
  · rw [if_pos hs4] at h
    refine r_top hs4 ?_
    refine r_tabIn (off := 209) (tgt := 216) C dX9_controlField_7 (by decide) (by decide) (by decide) (by decide) ?_
    refine r_aload_n C dX9_controlField_216 rfl 0 rfl ?_
    refine r_getp (f := 909) (j := 45) C flX9_57 dX9_controlField_217 kq_23 (by decide) rfl (fun W => pt_909 kq_23 W) ?_
    refine r_iload_n C dX9_controlField_220 rfl 1 rfl ?_
    refine r_if_lt (tgt := 228) C dX9_controlField_221 (by decide) h (fun h => ?_) (fun h => ?_)
    · refine r_aload_n C dX9_controlField_228 rfl 0 rfl ?_
      refine r_getp (f := 909) (j := 45) C flX9_57 dX9_controlField_229 kq_23 (by decide) rfl (fun W => pt_909 kq_23 W) ?_
      refine r_geti (f := 114) C flX9_596 dX9_controlField_232 kq_45 (by decide) (by decide) rfl ?_
      refine r_puti (f := 114) C flX9_596 (by decide) rfl rfl dX9_controlField_235 kq_45 rfl h (fun T5 h => ?_)
      refine r_goto (tgt := 316) C dX9_controlField_238 (by decide) ?_
      show Jr _ _ _ _ _ _ 316 _
      exact r_vret C M dX9_controlField_316 h
    · refine r_iload_n C dX9_controlField_224 rfl 1 rfl ?_
      refine r_goto (tgt := 235) C dX9_controlField_225 (by decide) ?_
      refine r_puti (f := 114) C flX9_596 (by decide) rfl rfl dX9_controlField_235 kq_45 rfl h (fun T6 h => ?_)
      refine r_goto (tgt := 316) C dX9_controlField_238 (by decide) ?_
      exact r_vret C M dX9_controlField_316 h
  rw [if_neg hs4] at h
  by_cases hs7 : v3 = 66
  · rw [if_pos hs7] at h
    refine r_top hs7 ?_
    refine r_tabIn (off := 234) (tgt := 241) C dX9_controlField_7 (by decide) (by decide) (by decide) (by decide) ?_
    refine r_aload_n C dX9_controlField_241 rfl 0 rfl ?_
    refine r_getp (f := 909) (j := 45) C flX9_57 dX9_controlField_242 kq_23 (by decide) rfl (fun W => pt_909 kq_23 W) ?_
    refine r_iload_n C dX9_controlField_245 rfl 1 rfl ?_
    refine r_if_lt (tgt := 253) C dX9_controlField_246 (by decide) h (fun h => ?_) (fun h => ?_)
    · refine r_aload_n C dX9_controlField_253 rfl 0 rfl ?_
      refine r_getp (f := 909) (j := 45) C flX9_57 dX9_controlField_254 kq_23 (by decide) rfl (fun W => pt_909 kq_23 W) ?_
      refine r_geti (f := 115) C flX9_599 dX9_controlField_257 kq_45 (by decide) (by decide) rfl ?_
      refine r_puti (f := 115) C flX9_599 (by decide) rfl rfl dX9_controlField_260 kq_45 rfl h (fun T8 h => ?_)
      refine r_goto (tgt := 316) C dX9_controlField_263 (by decide) ?_
      show Jr _ _ _ _ _ _ 316 _
      exact r_vret C M dX9_controlField_316 h
    · refine r_iload_n C dX9_controlField_249 rfl 1 rfl ?_
      refine r_goto (tgt := 260) C dX9_controlField_250 (by decide) ?_
      refine r_puti (f := 115) C flX9_599 (by decide) rfl rfl dX9_controlField_260 kq_45 rfl h (fun T9 h => ?_)
      refine r_goto (tgt := 316) C dX9_controlField_263 (by decide) ?_
      exact r_vret C M dX9_controlField_316 h
  rw [if_neg hs7] at h
  by_cases hs10 : v3 = 67
  · rw [if_pos hs10] at h
    refine r_top hs10 ?_
    refine r_tabIn (off := 309) (tgt := 316) C dX9_controlField_7 (by decide) (by decide) (by decide) (by decide) ?_
    exact r_vret C M dX9_controlField_316 h
  rw [if_neg hs10] at h
  by_cases hs11 : v3 = 68
  · rw [if_pos hs11] at h
    refine r_top hs11 ?_
    refine r_tabIn (off := 105) (tgt := 112) C dX9_controlField_7 (by decide) (by decide) (by decide) (by decide) ?_
    refine r_aload_n C dX9_controlField_112 rfl 0 rfl ?_
    refine r_getp (f := 909) (j := 45) C flX9_57 dX9_controlField_113 kq_23 (by decide) rfl (fun W => pt_909 kq_23 W) ?_
    refine r_iload_n C dX9_controlField_116 rfl 1 rfl ?_
    refine r_if_lt (tgt := 130) C dX9_controlField_117 (by decide) h (fun h => ?_) (fun h => ?_)
    · refine r_aload_n C dX9_controlField_130 rfl 0 rfl ?_
      refine r_getp (f := 909) (j := 45) C flX9_57 dX9_controlField_131 kq_23 (by decide) rfl (fun W => pt_909 kq_23 W) ?_
      refine r_geti (f := 116) C flX9_399 dX9_controlField_134 kq_45 (by decide) (by decide) rfl ?_
      refine r_puti (f := 116) C flX9_399 (by decide) rfl rfl dX9_controlField_137 kq_45 rfl h (fun T12 h => ?_)
      refine r_goto (tgt := 316) C dX9_controlField_140 (by decide) ?_
      show Jr _ _ _ _ _ _ 316 _
      exact r_vret C M dX9_controlField_316 h
    · refine r_iload_n C dX9_controlField_120 rfl 1 rfl ?_
      refine r_bipush (v := 16) C dX9_controlField_121 (by decide) ?_
      refine r_ic_ge (tgt := 130) C dX9_controlField_123 (by decide) h (fun h => ?_) (fun h => ?_)
      · refine r_aload_n C dX9_controlField_130 rfl 0 rfl ?_
        refine r_getp (f := 909) (j := 45) C flX9_57 dX9_controlField_131 kq_23 (by decide) rfl (fun W => pt_909 kq_23 W) ?_
        refine r_geti (f := 116) C flX9_399 dX9_controlField_134 kq_45 (by decide) (by decide) rfl ?_
        refine r_puti (f := 116) C flX9_399 (by decide) rfl rfl dX9_controlField_137 kq_45 rfl h (fun T13 h => ?_)
        refine r_goto (tgt := 316) C dX9_controlField_140 (by decide) ?_
        show Jr _ _ _ _ _ _ 316 _
        exact r_vret C M dX9_controlField_316 h
      · refine r_iload_n C dX9_controlField_126 rfl 1 rfl ?_
        refine r_goto (tgt := 137) C dX9_controlField_127 (by decide) ?_
        refine r_puti (f := 116) C flX9_399 (by decide) rfl rfl dX9_controlField_137 kq_45 rfl h (fun T14 h => ?_)
        refine r_goto (tgt := 316) C dX9_controlField_140 (by decide) ?_
        exact r_vret C M dX9_controlField_316 h
  rw [if_neg hs11] at h
  by_cases hs15 : v3 = 69
  · rw [if_pos hs15] at h
    refine r_top hs15 ?_
    refine r_tabIn (off := 136) (tgt := 143) C dX9_controlField_7 (by decide) (by decide) (by decide) (by decide) ?_
    refine r_aload_n C dX9_controlField_143 rfl 0 rfl ?_
    refine r_getp (f := 909) (j := 45) C flX9_57 dX9_controlField_144 kq_23 (by decide) rfl (fun W => pt_909 kq_23 W) ?_
    refine r_iload_n C dX9_controlField_147 rfl 1 rfl ?_
    refine r_if_lt (tgt := 162) C dX9_controlField_148 (by decide) h (fun h => ?_) (fun h => ?_)
    · refine r_aload_n C dX9_controlField_162 rfl 0 rfl ?_
      refine r_getp (f := 909) (j := 45) C flX9_57 dX9_controlField_163 kq_23 (by decide) rfl (fun W => pt_909 kq_23 W) ?_
      refine r_geti (f := 117) C flX9_402 dX9_controlField_166 kq_45 (by decide) (by decide) rfl ?_
      refine r_puti (f := 117) C flX9_402 (by decide) rfl rfl dX9_controlField_169 kq_45 rfl h (fun T16 h => ?_)
      refine r_goto (tgt := 316) C dX9_controlField_172 (by decide) ?_
      show Jr _ _ _ _ _ _ 316 _
      exact r_vret C M dX9_controlField_316 h
    · refine r_iload_n C dX9_controlField_151 rfl 1 rfl ?_
      refine r_sipush (v := 256) C dX9_controlField_152 (by decide) ?_
      refine r_ic_ge (tgt := 162) C dX9_controlField_155 (by decide) h (fun h => ?_) (fun h => ?_)
      · refine r_aload_n C dX9_controlField_162 rfl 0 rfl ?_
        refine r_getp (f := 909) (j := 45) C flX9_57 dX9_controlField_163 kq_23 (by decide) rfl (fun W => pt_909 kq_23 W) ?_
        refine r_geti (f := 117) C flX9_402 dX9_controlField_166 kq_45 (by decide) (by decide) rfl ?_
        refine r_puti (f := 117) C flX9_402 (by decide) rfl rfl dX9_controlField_169 kq_45 rfl h (fun T17 h => ?_)
        refine r_goto (tgt := 316) C dX9_controlField_172 (by decide) ?_
        show Jr _ _ _ _ _ _ 316 _
        exact r_vret C M dX9_controlField_316 h
      · refine r_iload_n C dX9_controlField_158 rfl 1 rfl ?_
        refine r_goto (tgt := 169) C dX9_controlField_159 (by decide) ?_
        refine r_puti (f := 117) C flX9_402 (by decide) rfl rfl dX9_controlField_169 kq_45 rfl h (fun T18 h => ?_)
        refine r_goto (tgt := 316) C dX9_controlField_172 (by decide) ?_
        exact r_vret C M dX9_controlField_316 h
  rw [if_neg hs15] at h
  by_cases hs19 : v3 = 70
  · rw [if_pos hs19] at h
    refine r_top hs19 ?_
    refine r_tabIn (off := 168) (tgt := 175) C dX9_controlField_7 (by decide) (by decide) (by decide) (by decide) ?_
    refine r_aload_n C dX9_controlField_175 rfl 0 rfl ?_
    refine r_iload_n C dX9_controlField_176 rfl 1 rfl ?_
    refine r_callVN C M h [.int p1] [] mlX9_584 mcX9_fontTask (fun q9 e9 => s_X9_fontTask p1  e9) kq_23 rfl (by decide) (by decide) rfl rfl (Nat.le_of_ble_eq_true rfl) dX9_controlField_177 (fun _ T20 h => ?_)
    refine r_goto (tgt := 316) C dX9_controlField_180 (by decide) ?_
    exact r_vret C M dX9_controlField_316 h
  rw [if_neg hs19] at h
  by_cases hs21 : v3 = 71
  · rw [if_pos hs21] at h
    refine r_top hs21 ?_
    refine r_tabIn (off := 176) (tgt := 183) C dX9_controlField_7 (by decide) (by decide) (by decide) (by decide) ?_
    refine r_aload_n C dX9_controlField_183 rfl 0 rfl ?_
    refine r_getp (f := 909) (j := 45) C flX9_57 dX9_controlField_184 kq_23 (by decide) rfl (fun W => pt_909 kq_23 W) ?_
    refine r_iload_n C dX9_controlField_187 rfl 1 rfl ?_
    refine r_puti (f := 118) C flX9_587 (by decide) rfl rfl dX9_controlField_188 kq_45 rfl h (fun T22 h => ?_)
    refine r_goto (tgt := 316) C dX9_controlField_191 (by decide) ?_
    show Jr _ _ _ _ _ _ 316 _
    exact r_vret C M dX9_controlField_316 h
  rw [if_neg hs21] at h
  by_cases hs23 : v3 = 72
  · rw [if_pos hs23] at h
    refine r_top hs23 ?_
    refine r_tabIn (off := 259) (tgt := 266) C dX9_controlField_7 (by decide) (by decide) (by decide) (by decide) ?_
    refine r_aload_n C dX9_controlField_266 rfl 0 rfl ?_
    refine r_getp (f := 909) (j := 45) C flX9_57 dX9_controlField_267 kq_23 (by decide) rfl (fun W => pt_909 kq_23 W) ?_
    refine r_aload_n C dX9_controlField_270 rfl 0 rfl ?_
    refine r_aload_n C dX9_controlField_271 rfl 0 rfl ?_
    refine r_getp (f := 909) (j := 45) C flX9_57 dX9_controlField_272 kq_23 (by decide) rfl (fun W => pt_909 kq_23 W) ?_
    show Jr _ _ _ _ _ _ 275 _
    refine r_geti (f := 114) C flX9_596 dX9_controlField_275 kq_45 (by decide) (by decide) rfl ?_
    refine r_callVI C M h [.int (gI T 114 45)] [.ref (ad 45)] mlX9_602 mcX9_boxSide (fun q9 e9 => s_X9_boxSide (gI T 114 45)  e9) kq_23 rfl (by decide) (by decide) rfl rfl (Nat.le_of_ble_eq_true rfl) dX9_controlField_278 (fun v24 T25 h => ?_)
    refine r_puti (f := 114) C flX9_596 (by decide) rfl rfl dX9_controlField_281 kq_45 rfl h (fun T26 h => ?_)
    refine r_goto (tgt := 316) C dX9_controlField_284 (by decide) ?_
    exact r_vret C M dX9_controlField_316 h
  rw [if_neg hs23] at h
  by_cases hs27 : v3 = 73
  · rw [if_pos hs27] at h
    refine r_top hs27 ?_
    refine r_tabIn (off := 309) (tgt := 316) C dX9_controlField_7 (by decide) (by decide) (by decide) (by decide) ?_
    exact r_vret C M dX9_controlField_316 h
  rw [if_neg hs27] at h
  by_cases hs28 : v3 = 74
  · rw [if_pos hs28] at h
    refine r_top hs28 ?_
    refine r_tabIn (off := 309) (tgt := 316) C dX9_controlField_7 (by decide) (by decide) (by decide) (by decide) ?_
    exact r_vret C M dX9_controlField_316 h
  rw [if_neg hs28] at h
  by_cases hs29 : v3 = 75
  · rw [if_pos hs29] at h
    refine r_top hs29 ?_
    refine r_tabIn (off := 309) (tgt := 316) C dX9_controlField_7 (by decide) (by decide) (by decide) (by decide) ?_
    exact r_vret C M dX9_controlField_316 h
  rw [if_neg hs29] at h
  by_cases hs30 : v3 = 76
  · rw [if_pos hs30] at h
    refine r_top hs30 ?_
    refine r_tabIn (off := 309) (tgt := 316) C dX9_controlField_7 (by decide) (by decide) (by decide) (by decide) ?_
    exact r_vret C M dX9_controlField_316 h
  rw [if_neg hs30] at h
  by_cases hs31 : v3 = 77
  · rw [if_pos hs31] at h
    refine r_top hs31 ?_
    refine r_tabIn (off := 309) (tgt := 316) C dX9_controlField_7 (by decide) (by decide) (by decide) (by decide) ?_
    exact r_vret C M dX9_controlField_316 h
  rw [if_neg hs31] at h
  by_cases hs32 : v3 = 78
  · rw [if_pos hs32] at h
    refine r_top hs32 ?_
    refine r_tabIn (off := 309) (tgt := 316) C dX9_controlField_7 (by decide) (by decide) (by decide) (by decide) ?_
    exact r_vret C M dX9_controlField_316 h
  rw [if_neg hs32] at h
  by_cases hs33 : v3 = 79
  · rw [if_pos hs33] at h
    refine r_top hs33 ?_
    refine r_tabIn (off := 309) (tgt := 316) C dX9_controlField_7 (by decide) (by decide) (by decide) (by decide) ?_
    exact r_vret C M dX9_controlField_316 h
  rw [if_neg hs33] at h
  by_cases hs34 : v3 = 80
  · rw [if_pos hs34] at h
    refine r_top hs34 ?_
    refine r_tabIn (off := 301) (tgt := 308) C dX9_controlField_7 (by decide) (by decide) (by decide) (by decide) ?_
    refine r_aload_n C dX9_controlField_308 rfl 0 rfl ?_
    refine r_iload_n C dX9_controlField_309 rfl 1 rfl ?_
    refine r_callVN C M h [.int p1] [] mlX9_605 mcX9_box (fun q9 e9 => s_X9_box p1  e9) kq_23 rfl (by decide) (by decide) rfl rfl (Nat.le_of_ble_eq_true rfl) dX9_controlField_310 (fun _ T35 h => ?_)
    refine r_goto (tgt := 316) C dX9_controlField_313 (by decide) ?_
    exact r_vret C M dX9_controlField_316 h
  rw [if_neg hs34] at h
  by_cases hs36 : v3 = 81
  · rw [if_pos hs36] at h
    refine r_top hs36 ?_
    refine r_tabIn (off := 201) (tgt := 208) C dX9_controlField_7 (by decide) (by decide) (by decide) (by decide) ?_
    refine r_aload_n C dX9_controlField_208 rfl 0 rfl ?_
    refine r_iload_n C dX9_controlField_209 rfl 1 rfl ?_
    refine r_callVN C M h [.int p1] [] mlX9_593 mcX9_tileTask (fun q9 e9 => s_X9_tileTask p1  e9) kq_23 rfl (by decide) (by decide) rfl rfl (Nat.le_of_ble_eq_true rfl) dX9_controlField_210 (fun _ T37 h => ?_)
    refine r_goto (tgt := 316) C dX9_controlField_213 (by decide) ?_
    exact r_vret C M dX9_controlField_316 h
  rw [if_neg hs36] at h
  by_cases hs38 : v3 = 82
  · rw [if_pos hs38] at h
    refine r_top hs38 ?_
    refine r_tabIn (off := 309) (tgt := 316) C dX9_controlField_7 (by decide) (by decide) (by decide) (by decide) ?_
    exact r_vret C M dX9_controlField_316 h
  rw [if_neg hs38] at h
  by_cases hs39 : v3 = 83
  · rw [if_pos hs39] at h
    refine r_top hs39 ?_
    refine r_tabIn (off := 309) (tgt := 316) C dX9_controlField_7 (by decide) (by decide) (by decide) (by decide) ?_
    exact r_vret C M dX9_controlField_316 h
  rw [if_neg hs39] at h
  by_cases hs40 : v3 = 84
  · rw [if_pos hs40] at h
    refine r_top hs40 ?_
    refine r_tabIn (off := 309) (tgt := 316) C dX9_controlField_7 (by decide) (by decide) (by decide) (by decide) ?_
    exact r_vret C M dX9_controlField_316 h
  rw [if_neg hs40] at h
  by_cases hs41 : v3 = 85
  · rw [if_pos hs41] at h
    refine r_top hs41 ?_
    refine r_tabIn (off := 309) (tgt := 316) C dX9_controlField_7 (by decide) (by decide) (by decide) (by decide) ?_
    exact r_vret C M dX9_controlField_316 h
  rw [if_neg hs41] at h
  by_cases hs42 : v3 = 86
  · rw [if_pos hs42] at h
    refine r_top hs42 ?_
    refine r_tabIn (off := 280) (tgt := 287) C dX9_controlField_7 (by decide) (by decide) (by decide) (by decide) ?_
    refine r_aload_n C dX9_controlField_287 rfl 0 rfl ?_
    refine r_getp (f := 909) (j := 45) C flX9_57 dX9_controlField_288 kq_23 (by decide) rfl (fun W => pt_909 kq_23 W) ?_
    refine r_aload_n C dX9_controlField_291 rfl 0 rfl ?_
    refine r_aload_n C dX9_controlField_292 rfl 0 rfl ?_
    refine r_getp (f := 909) (j := 45) C flX9_57 dX9_controlField_293 kq_23 (by decide) rfl (fun W => pt_909 kq_23 W) ?_
    show Jr _ _ _ _ _ _ 296 _
    refine r_geti (f := 115) C flX9_599 dX9_controlField_296 kq_45 (by decide) (by decide) rfl ?_
    refine r_callVI C M h [.int (gI T 115 45)] [.ref (ad 45)] mlX9_602 mcX9_boxSide (fun q9 e9 => s_X9_boxSide (gI T 115 45)  e9) kq_23 rfl (by decide) (by decide) rfl rfl (Nat.le_of_ble_eq_true rfl) dX9_controlField_299 (fun v43 T44 h => ?_)
    refine r_puti (f := 115) C flX9_599 (by decide) rfl rfl dX9_controlField_302 kq_45 rfl h (fun T45 h => ?_)
    refine r_goto (tgt := 316) C dX9_controlField_305 (by decide) ?_
    exact r_vret C M dX9_controlField_316 h
  rw [if_neg hs42] at h
  by_cases hs46 : v3 = 87
  · rw [if_pos hs46] at h
    refine r_top hs46 ?_
    refine r_tabIn (off := 187) (tgt := 194) C dX9_controlField_7 (by decide) (by decide) (by decide) (by decide) ?_
    refine r_aload_n C dX9_controlField_194 rfl 0 rfl ?_
    refine r_aload_n C dX9_controlField_195 rfl 0 rfl ?_
    refine r_getp (f := 909) (j := 45) C flX9_57 dX9_controlField_196 kq_23 (by decide) rfl (fun W => pt_909 kq_23 W) ?_
    refine r_geti (f := 118) C flX9_587 dX9_controlField_199 kq_45 (by decide) (by decide) rfl ?_
    refine r_callVN C M h [.int (gI T 118 45)] [] mlX9_590 mcX9_tellTile (fun q9 e9 => s_X9_tellTile (gI T 118 45)  e9) kq_23 rfl (by decide) (by decide) rfl rfl (Nat.le_of_ble_eq_true rfl) dX9_controlField_202 (fun _ T47 h => ?_)
    show Jr _ _ _ _ _ _ 205 _
    refine r_goto (tgt := 316) C dX9_controlField_205 (by decide) ?_
    exact r_vret C M dX9_controlField_316 h
  rw [if_neg hs46] at h
  refine r_tabOut (tgt := 316) C dX9_controlField_7 (by have t09 : (v3).toInt ≠ 65 := ne_toInt hs4 (by decide); have t19 : (v3).toInt ≠ 66 := ne_toInt hs7 (by decide); have t29 : (v3).toInt ≠ 67 := ne_toInt hs10 (by decide); have t39 : (v3).toInt ≠ 68 := ne_toInt hs11 (by decide); have t49 : (v3).toInt ≠ 69 := ne_toInt hs15 (by decide); have t59 : (v3).toInt ≠ 70 := ne_toInt hs19 (by decide); have t69 : (v3).toInt ≠ 71 := ne_toInt hs21 (by decide); have t79 : (v3).toInt ≠ 72 := ne_toInt hs23 (by decide); have t89 : (v3).toInt ≠ 73 := ne_toInt hs27 (by decide); have t99 : (v3).toInt ≠ 74 := ne_toInt hs28 (by decide); have t109 : (v3).toInt ≠ 75 := ne_toInt hs29 (by decide); have t119 : (v3).toInt ≠ 76 := ne_toInt hs30 (by decide); have t129 : (v3).toInt ≠ 77 := ne_toInt hs31 (by decide); have t139 : (v3).toInt ≠ 78 := ne_toInt hs32 (by decide); have t149 : (v3).toInt ≠ 79 := ne_toInt hs33 (by decide); have t159 : (v3).toInt ≠ 80 := ne_toInt hs34 (by decide); have t169 : (v3).toInt ≠ 81 := ne_toInt hs36 (by decide); have t179 : (v3).toInt ≠ 82 := ne_toInt hs38 (by decide); have t189 : (v3).toInt ≠ 83 := ne_toInt hs39 (by decide); have t199 : (v3).toInt ≠ 84 := ne_toInt hs40 (by decide); have t209 : (v3).toInt ≠ 85 := ne_toInt hs41 (by decide); have t219 : (v3).toInt ≠ 86 := ne_toInt hs42 (by decide); have t229 : (v3).toInt ≠ 87 := ne_toInt hs46 (by decide); omega) (by decide) ?_
  exact r_vret C M dX9_controlField_316 h
theorem dX9_inkField_0 : decode cX9_inkField 0 = .ok (.iload_n 1, 1) := by decide +kernel
theorem dX9_inkField_1 : decode cX9_inkField 1 = .ok (.ifCond .eq 8, 3) := by decide +kernel
theorem dX9_inkField_4 : decode cX9_inkField 4 = .ok (.iload_n 1, 1) := by decide +kernel
theorem dX9_inkField_5 : decode cX9_inkField 5 = .ok (.iconst 1, 1) := by decide +kernel
theorem dX9_inkField_6 : decode cX9_inkField 6 = .ok (.if_icmp .ne 7, 3) := by decide +kernel
theorem dX9_inkField_9 : decode cX9_inkField 9 = .ok (.iconst 1, 1) := by decide +kernel
theorem dX9_inkField_10 : decode cX9_inkField 10 = .ok (.goto 4, 3) := by decide +kernel
theorem dX9_inkField_13 : decode cX9_inkField 13 = .ok (.iconst 0, 1) := by decide +kernel
theorem dX9_inkField_14 : decode cX9_inkField 14 = .ok (.istore_n 2, 1) := by decide +kernel
theorem dX9_inkField_15 : decode cX9_inkField 15 = .ok (.aload_n 0, 1) := by decide +kernel
theorem dX9_inkField_16 : decode cX9_inkField 16 = .ok (.getfield 82, 3) := by decide +kernel
theorem dX9_inkField_19 : decode cX9_inkField 19 = .ok (.getfield 327, 3) := by decide +kernel
theorem dX9_inkField_22 : decode cX9_inkField 22 = .ok (.bipush 78, 2) := by decide +kernel
theorem dX9_inkField_24 : decode cX9_inkField 24 = .ok (.if_icmp .ne 27, 3) := by decide +kernel
theorem dX9_inkField_27 : decode cX9_inkField 27 = .ok (.iload_n 2, 1) := by decide +kernel
theorem dX9_inkField_28 : decode cX9_inkField 28 = .ok (.ifCond .eq 23, 3) := by decide +kernel
theorem dX9_inkField_31 : decode cX9_inkField 31 = .ok (.aload_n 0, 1) := by decide +kernel
theorem dX9_inkField_32 : decode cX9_inkField 32 = .ok (.getfield 57, 3) := by decide +kernel
theorem dX9_inkField_35 : decode cX9_inkField 35 = .ok (.iload_n 1, 1) := by decide +kernel
theorem dX9_inkField_36 : decode cX9_inkField 36 = .ok (.iconst 1, 1) := by decide +kernel
theorem dX9_inkField_37 : decode cX9_inkField 37 = .ok (.if_icmp .ne 7, 3) := by decide +kernel
theorem dX9_inkField_40 : decode cX9_inkField 40 = .ok (.iconst 1, 1) := by decide +kernel
theorem dX9_inkField_41 : decode cX9_inkField 41 = .ok (.goto 4, 3) := by decide +kernel
theorem dX9_inkField_44 : decode cX9_inkField 44 = .ok (.iconst 0, 1) := by decide +kernel
theorem dX9_inkField_45 : decode cX9_inkField 45 = .ok (.putfield 646, 3) := by decide +kernel
theorem dX9_inkField_48 : decode cX9_inkField 48 = .ok (.goto 64, 3) := by decide +kernel
theorem dX9_inkField_51 : decode cX9_inkField 51 = .ok (.aload_n 0, 1) := by decide +kernel
theorem dX9_inkField_52 : decode cX9_inkField 52 = .ok (.getfield 82, 3) := by decide +kernel
theorem dX9_inkField_55 : decode cX9_inkField 55 = .ok (.getfield 327, 3) := by decide +kernel
theorem dX9_inkField_58 : decode cX9_inkField 58 = .ok (.bipush 79, 2) := by decide +kernel
theorem dX9_inkField_60 : decode cX9_inkField 60 = .ok (.if_icmp .ne 27, 3) := by decide +kernel
theorem dX9_inkField_63 : decode cX9_inkField 63 = .ok (.iload_n 2, 1) := by decide +kernel
theorem dX9_inkField_64 : decode cX9_inkField 64 = .ok (.ifCond .eq 23, 3) := by decide +kernel
theorem dX9_inkField_67 : decode cX9_inkField 67 = .ok (.aload_n 0, 1) := by decide +kernel
theorem dX9_inkField_68 : decode cX9_inkField 68 = .ok (.getfield 57, 3) := by decide +kernel
theorem dX9_inkField_71 : decode cX9_inkField 71 = .ok (.iload_n 1, 1) := by decide +kernel
theorem dX9_inkField_72 : decode cX9_inkField 72 = .ok (.iconst 1, 1) := by decide +kernel
theorem dX9_inkField_73 : decode cX9_inkField 73 = .ok (.if_icmp .ne 7, 3) := by decide +kernel
theorem dX9_inkField_76 : decode cX9_inkField 76 = .ok (.iconst 1, 1) := by decide +kernel
theorem dX9_inkField_77 : decode cX9_inkField 77 = .ok (.goto 4, 3) := by decide +kernel
theorem dX9_inkField_80 : decode cX9_inkField 80 = .ok (.iconst 0, 1) := by decide +kernel
theorem dX9_inkField_81 : decode cX9_inkField 81 = .ok (.putfield 649, 3) := by decide +kernel
theorem dX9_inkField_84 : decode cX9_inkField 84 = .ok (.goto 28, 3) := by decide +kernel
theorem dX9_inkField_87 : decode cX9_inkField 87 = .ok (.aload_n 0, 1) := by decide +kernel
theorem dX9_inkField_88 : decode cX9_inkField 88 = .ok (.getfield 82, 3) := by decide +kernel
theorem dX9_inkField_91 : decode cX9_inkField 91 = .ok (.getfield 327, 3) := by decide +kernel
theorem dX9_inkField_94 : decode cX9_inkField 94 = .ok (.bipush 84, 2) := by decide +kernel
theorem dX9_inkField_96 : decode cX9_inkField 96 = .ok (.if_icmp .ne 16, 3) := by decide +kernel
theorem dX9_inkField_99 : decode cX9_inkField 99 = .ok (.aload_n 0, 1) := by decide +kernel
theorem dX9_inkField_100 : decode cX9_inkField 100 = .ok (.aload_n 0, 1) := by decide +kernel
theorem dX9_inkField_101 : decode cX9_inkField 101 = .ok (.getfield 57, 3) := by decide +kernel
theorem dX9_inkField_104 : decode cX9_inkField 104 = .ok (.getfield 539, 3) := by decide +kernel
theorem dX9_inkField_107 : decode cX9_inkField 107 = .ok (.iload_n 1, 1) := by decide +kernel
theorem dX9_inkField_108 : decode cX9_inkField 108 = .ok (.invokevirtual 610, 3) := by decide +kernel
theorem dX9_inkField_111 : decode cX9_inkField 111 = .ok (.pop, 1) := by decide +kernel
theorem dX9_inkField_112 : decode cX9_inkField 112 = .ok (.return_, 1) := by decide +kernel
noncomputable def f_X9_inkField_87 (a1 : Int32) (T : Mm) : Option (Unit × Mm) :=
  rf true (gR T 913 23) 5 fun j1 =>
  if (gI T 505 j1) = 84 then (bd (f_X9_setTile 50 a1 T) fun v3 T4 =>
  some ((), T4))
  else (some ((), T))
set_option maxRecDepth 100000 in
set_option maxHeartbeats 4000000 in
theorem s_X9_inkField_87 {x : JX} {ad : Nat → Nat} {U : Mm} {S0 : Hp} {q : Unit × Mm}  (hn9 : x_n x = 3) (C : CB x RX9 cX9_inkField) (M : CMr x 5 none S0 ad true U eV q) (a1 : Int32) (T : Mm) (h : f_X9_inkField_87  a1 T = some q) : Jr x ad true U T [(0, .ref (ad 23)), (1, .int a1)] 87 [] := by
  unfold f_X9_inkField_87 at h
  refine r_aload_n C dX9_inkField_87 rfl 0 rfl ?_
  refine r_getr (f := 913) (c := 5) C flX9_82 dX9_inkField_88 kq_23 (by decide) rfl h (fun j1 hj2 h => ?_)
  refine r_geti (f := 505) C flX9_327 dX9_inkField_91 hj2 (by decide) (by decide) rfl ?_
  refine r_bipush (v := 84) C dX9_inkField_94 (by decide) ?_
  refine r_ic_ne (tgt := 112) C dX9_inkField_96 (by decide) h (fun h => ?_) (fun h => ?_)
  · exact r_vret C M dX9_inkField_112 h
  · refine r_aload_n C dX9_inkField_99 rfl 0 rfl ?_
    refine r_aload_n C dX9_inkField_100 rfl 0 rfl ?_
    refine r_getp (f := 909) (j := 45) C flX9_57 dX9_inkField_101 kq_23 (by decide) rfl (fun W => pt_909 kq_23 W) ?_
    refine r_getp (f := 102) (j := 50) C flX9_539 dX9_inkField_104 kq_45 (by decide) rfl (fun W => pt_102 kq_45 W) ?_
    refine r_iload_n C dX9_inkField_107 rfl 1 rfl ?_
    show Jr _ _ _ _ _ _ 108 _
    refine r_callVI C M h [.ref (ad 50), .int a1] [] mlX9_610 mcX9_setTile (fun q9 e9 => s_X9_setTile 50 a1 kq_50 e9) kq_23 rfl (by decide) (by decide) rfl rfl (Nat.le_of_ble_eq_true rfl) dX9_inkField_108 (fun v3 T4 h => ?_)
    refine r_pop C dX9_inkField_111 rfl ?_
    exact r_vret C M dX9_inkField_112 h
noncomputable def f_X9_inkField_51 (a1 : Int32) (a2 : Int32) (T : Mm) : Option (Unit × Mm) :=
  rf true (gR T 913 23) 5 fun j1 =>
  if (gI T 505 j1) = 79 then (if a2 = 0 then (f_X9_inkField_87 a1 T)
  else (if a1 = 1 then (lb (uI T 111 45 1) fun T4 =>
  some ((), T4))
  else (lb (uI T 111 45 0) fun T3 =>
  some ((), T3))))
  else (f_X9_inkField_87 a1 T)
set_option maxRecDepth 100000 in
set_option maxHeartbeats 4000000 in
theorem s_X9_inkField_51 {x : JX} {ad : Nat → Nat} {U : Mm} {S0 : Hp} {q : Unit × Mm}  (hn9 : x_n x = 3) (C : CB x RX9 cX9_inkField) (M : CMr x 5 none S0 ad true U eV q) (a1 : Int32) (a2 : Int32) (T : Mm) (h : f_X9_inkField_51  a1 a2 T = some q) : Jr x ad true U T [(0, .ref (ad 23)), (1, .int a1), (2, .int a2)] 51 [] := by
  unfold f_X9_inkField_51 at h
  refine r_aload_n C dX9_inkField_51 rfl 0 rfl ?_
  refine r_getr (f := 913) (c := 5) C flX9_82 dX9_inkField_52 kq_23 (by decide) rfl h (fun j1 hj2 h => ?_)
  refine r_geti (f := 505) C flX9_327 dX9_inkField_55 hj2 (by decide) (by decide) rfl ?_
  refine r_bipush (v := 79) C dX9_inkField_58 (by decide) ?_
  refine r_ic_ne (tgt := 87) C dX9_inkField_60 (by decide) h (fun h => ?_) (fun h => ?_)
  · refine Jr.sub [0, 1] (lv' := [(0, .ref (ad 23)), (1, .int a1)]) rfl ?_
    exact s_X9_inkField_87 hn9 C M  a1 T h
  · refine r_iload_n C dX9_inkField_63 rfl 2 rfl ?_
    refine r_if_eq (tgt := 87) C dX9_inkField_64 (by decide) h (fun h => ?_) (fun h => ?_)
    · refine Jr.sub [0, 1] (lv' := [(0, .ref (ad 23)), (1, .int a1)]) rfl ?_
      exact s_X9_inkField_87 hn9 C M  a1 T h
    · refine r_aload_n C dX9_inkField_67 rfl 0 rfl ?_
      refine r_getp (f := 909) (j := 45) C flX9_57 dX9_inkField_68 kq_23 (by decide) rfl (fun W => pt_909 kq_23 W) ?_
      refine r_iload_n C dX9_inkField_71 rfl 1 rfl ?_
      refine r_iconst (v := 1) C dX9_inkField_72 (by decide) ?_
      refine r_ic_ne (tgt := 80) C dX9_inkField_73 (by decide) h (fun h => ?_) (fun h => ?_)
      · refine r_iconst (v := 0) C dX9_inkField_80 (by decide) ?_
        refine r_putz (f := 111) C flX9_649 (by decide) rfl rfl (by decide) dX9_inkField_81 kq_45 rfl h (fun T3 h => ?_)
        refine r_goto (tgt := 112) C dX9_inkField_84 (by decide) ?_
        exact r_vret C M dX9_inkField_112 h
      · refine r_iconst (v := 1) C dX9_inkField_76 (by decide) ?_
        refine r_goto (tgt := 81) C dX9_inkField_77 (by decide) ?_
        refine r_putz (f := 111) C flX9_649 (by decide) rfl rfl (by decide) dX9_inkField_81 kq_45 rfl h (fun T4 h => ?_)
        refine r_goto (tgt := 112) C dX9_inkField_84 (by decide) ?_
        exact r_vret C M dX9_inkField_112 h
noncomputable def f_X9_inkField_14 (a1 : Int32) (b0 : Int32) (T : Mm) : Option (Unit × Mm) :=
  rf true (gR T 913 23) 5 fun j1 =>
  if (gI T 505 j1) = 78 then (if b0 = 0 then (f_X9_inkField_51 a1 b0 T)
  else (if a1 = 1 then (lb (uI T 110 45 1) fun T4 =>
  some ((), T4))
  else (lb (uI T 110 45 0) fun T3 =>
  some ((), T3))))
  else (f_X9_inkField_51 a1 b0 T)
set_option maxRecDepth 100000 in
set_option maxHeartbeats 4000000 in
theorem s_X9_inkField_14 {x : JX} {ad : Nat → Nat} {U : Mm} {S0 : Hp} {q : Unit × Mm}  (hn9 : x_n x = 3) (C : CB x RX9 cX9_inkField) (M : CMr x 5 none S0 ad true U eV q) (a1 : Int32) (b0 : Int32) (T : Mm) (h : f_X9_inkField_14  a1 b0 T = some q) : Jr x ad true U T [(0, .ref (ad 23)), (1, .int a1)] 14 [.int b0] := by
  unfold f_X9_inkField_14 at h
  refine r_istore_n (lv' := [(2, .int b0), (0, .ref (ad 23)), (1, .int a1)]) C dX9_inkField_14 rfl (by rw [hn9]; decide) rfl ?_
  refine r_aload_n C dX9_inkField_15 rfl 1 rfl ?_
  refine r_getr (f := 913) (c := 5) C flX9_82 dX9_inkField_16 kq_23 (by decide) rfl h (fun j1 hj2 h => ?_)
  refine r_geti (f := 505) C flX9_327 dX9_inkField_19 hj2 (by decide) (by decide) rfl ?_
  refine r_bipush (v := 78) C dX9_inkField_22 (by decide) ?_
  show Jr _ _ _ _ _ _ 24 _
  refine r_ic_ne (tgt := 51) C dX9_inkField_24 (by decide) h (fun h => ?_) (fun h => ?_)
  · refine Jr.sub [1, 2, 0] (lv' := [(0, .ref (ad 23)), (1, .int a1), (2, .int b0)]) rfl ?_
    exact s_X9_inkField_51 hn9 C M  a1 b0 T h
  · refine r_iload_n C dX9_inkField_27 rfl 0 rfl ?_
    refine r_if_eq (tgt := 51) C dX9_inkField_28 (by decide) h (fun h => ?_) (fun h => ?_)
    · refine Jr.sub [1, 2, 0] (lv' := [(0, .ref (ad 23)), (1, .int a1), (2, .int b0)]) rfl ?_
      exact s_X9_inkField_51 hn9 C M  a1 b0 T h
    · refine r_aload_n C dX9_inkField_31 rfl 1 rfl ?_
      refine r_getp (f := 909) (j := 45) C flX9_57 dX9_inkField_32 kq_23 (by decide) rfl (fun W => pt_909 kq_23 W) ?_
      refine r_iload_n C dX9_inkField_35 rfl 2 rfl ?_
      refine r_iconst (v := 1) C dX9_inkField_36 (by decide) ?_
      refine r_ic_ne (tgt := 44) C dX9_inkField_37 (by decide) h (fun h => ?_) (fun h => ?_)
      · refine r_iconst (v := 0) C dX9_inkField_44 (by decide) ?_
        refine r_putz (f := 110) C flX9_646 (by decide) rfl rfl (by decide) dX9_inkField_45 kq_45 rfl h (fun T3 h => ?_)
        refine r_goto (tgt := 112) C dX9_inkField_48 (by decide) ?_
        exact r_vret C M dX9_inkField_112 h
      · refine r_iconst (v := 1) C dX9_inkField_40 (by decide) ?_
        refine r_goto (tgt := 45) C dX9_inkField_41 (by decide) ?_
        refine r_putz (f := 110) C flX9_646 (by decide) rfl rfl (by decide) dX9_inkField_45 kq_45 rfl h (fun T4 h => ?_)
        refine r_goto (tgt := 112) C dX9_inkField_48 (by decide) ?_
        exact r_vret C M dX9_inkField_112 h
noncomputable def f_X9_inkField (p1 : Int32) (T : Mm) : Option (Unit × Mm) :=
  if p1 = 0 then (f_X9_inkField_14 p1 1 T)
  else (if p1 = 1 then (f_X9_inkField_14 p1 1 T)
  else (f_X9_inkField_14 p1 0 T))
set_option maxRecDepth 100000 in
set_option maxHeartbeats 4000000 in
theorem s_X9_inkField {ad : Nat → Nat} {U T : Mm} {q : Unit × Mm}  (p1 : Int32) (h : f_X9_inkField p1 T = some q) : Cr 5 yX9_inkField cX9_inkField 3 none [.ref (ad 23), .int p1] ad true U T eV q := by
  refine cr_of (by decide) (Nat.le_of_ble_eq_true rfl) fun x S0 hn9 C M => ?_
  have C : CB x RX9 cX9_inkField := C
  refine Jr.eq (lv' := [(0, .ref (ad 23)), (1, .int p1)]) (st' := []) rfl rfl ?_
  unfold f_X9_inkField at h
  refine r_iload_n C dX9_inkField_0 rfl 1 rfl ?_
  refine r_if_eq (tgt := 9) C dX9_inkField_1 (by decide) h (fun h => ?_) (fun h => ?_)
  · refine r_iconst (v := 1) C dX9_inkField_9 (by decide) ?_
    refine r_goto (tgt := 14) C dX9_inkField_10 (by decide) ?_
    exact s_X9_inkField_14 hn9 C M  p1 1 T h
  · refine r_iload_n C dX9_inkField_4 rfl 1 rfl ?_
    refine r_iconst (v := 1) C dX9_inkField_5 (by decide) ?_
    refine r_ic_ne (tgt := 13) C dX9_inkField_6 (by decide) h (fun h => ?_) (fun h => ?_)
    · refine r_iconst (v := 0) C dX9_inkField_13 (by decide) ?_
      exact s_X9_inkField_14 hn9 C M  p1 0 T h
    · refine r_iconst (v := 1) C dX9_inkField_9 (by decide) ?_
      refine r_goto (tgt := 14) C dX9_inkField_10 (by decide) ?_
      exact s_X9_inkField_14 hn9 C M  p1 1 T h
theorem dX9_scaleField_0 : decode cX9_scaleField 0 = .ok (.aload_n 0, 1) := by decide +kernel
theorem dX9_scaleField_1 : decode cX9_scaleField 1 = .ok (.getfield 57, 3) := by decide +kernel
theorem dX9_scaleField_4 : decode cX9_scaleField 4 = .ok (.getfield 652, 3) := by decide +kernel
theorem dX9_scaleField_7 : decode cX9_scaleField 7 = .ok (.astore_n 2, 1) := by decide +kernel
theorem dX9_scaleField_8 : decode cX9_scaleField 8 = .ok (.aload_n 0, 1) := by decide +kernel
theorem dX9_scaleField_9 : decode cX9_scaleField 9 = .ok (.getfield 82, 3) := by decide +kernel
theorem dX9_scaleField_12 : decode cX9_scaleField 12 = .ok (.getfield 327, 3) := by decide +kernel
theorem dX9_scaleField_15 : decode cX9_scaleField 15 = .ok (.bipush 82, 2) := by decide +kernel
theorem dX9_scaleField_17 : decode cX9_scaleField 17 = .ok (.if_icmp .ne 10, 3) := by decide +kernel
theorem dX9_scaleField_20 : decode cX9_scaleField 20 = .ok (.aload_n 2, 1) := by decide +kernel
theorem dX9_scaleField_21 : decode cX9_scaleField 21 = .ok (.getfield 656, 3) := by decide +kernel
theorem dX9_scaleField_24 : decode cX9_scaleField 24 = .ok (.ifCond .eq 4, 3) := by decide +kernel
theorem dX9_scaleField_27 : decode cX9_scaleField 27 = .ok (.return_, 1) := by decide +kernel
theorem dX9_scaleField_28 : decode cX9_scaleField 28 = .ok (.iload_n 1, 1) := by decide +kernel
theorem dX9_scaleField_29 : decode cX9_scaleField 29 = .ok (.bipush 75, 2) := by decide +kernel
theorem dX9_scaleField_31 : decode cX9_scaleField 31 = .ok (.if_icmp .ne 11, 3) := by decide +kernel
theorem dX9_scaleField_34 : decode cX9_scaleField 34 = .ok (.aload_n 2, 1) := by decide +kernel
theorem dX9_scaleField_35 : decode cX9_scaleField 35 = .ok (.iconst 1, 1) := by decide +kernel
theorem dX9_scaleField_36 : decode cX9_scaleField 36 = .ok (.putfield 661, 3) := by decide +kernel
theorem dX9_scaleField_39 : decode cX9_scaleField 39 = .ok (.goto 42, 3) := by decide +kernel
theorem dX9_scaleField_42 : decode cX9_scaleField 42 = .ok (.iload_n 1, 1) := by decide +kernel
theorem dX9_scaleField_43 : decode cX9_scaleField 43 = .ok (.bipush 37, 2) := by decide +kernel
theorem dX9_scaleField_45 : decode cX9_scaleField 45 = .ok (.if_icmp .ne 11, 3) := by decide +kernel
theorem dX9_scaleField_48 : decode cX9_scaleField 48 = .ok (.aload_n 2, 1) := by decide +kernel
theorem dX9_scaleField_49 : decode cX9_scaleField 49 = .ok (.iconst 2, 1) := by decide +kernel
theorem dX9_scaleField_50 : decode cX9_scaleField 50 = .ok (.putfield 661, 3) := by decide +kernel
theorem dX9_scaleField_53 : decode cX9_scaleField 53 = .ok (.goto 28, 3) := by decide +kernel
theorem dX9_scaleField_56 : decode cX9_scaleField 56 = .ok (.iload_n 1, 1) := by decide +kernel
theorem dX9_scaleField_57 : decode cX9_scaleField 57 = .ok (.bipush 25, 2) := by decide +kernel
theorem dX9_scaleField_59 : decode cX9_scaleField 59 = .ok (.if_icmp .ne 11, 3) := by decide +kernel
theorem dX9_scaleField_62 : decode cX9_scaleField 62 = .ok (.aload_n 2, 1) := by decide +kernel
theorem dX9_scaleField_63 : decode cX9_scaleField 63 = .ok (.iconst 3, 1) := by decide +kernel
theorem dX9_scaleField_64 : decode cX9_scaleField 64 = .ok (.putfield 661, 3) := by decide +kernel
theorem dX9_scaleField_67 : decode cX9_scaleField 67 = .ok (.goto 14, 3) := by decide +kernel
theorem dX9_scaleField_70 : decode cX9_scaleField 70 = .ok (.iload_n 1, 1) := by decide +kernel
theorem dX9_scaleField_71 : decode cX9_scaleField 71 = .ok (.bipush 18, 2) := by decide +kernel
theorem dX9_scaleField_73 : decode cX9_scaleField 73 = .ok (.if_icmp .ne 8, 3) := by decide +kernel
theorem dX9_scaleField_76 : decode cX9_scaleField 76 = .ok (.aload_n 2, 1) := by decide +kernel
theorem dX9_scaleField_77 : decode cX9_scaleField 77 = .ok (.iconst 4, 1) := by decide +kernel
theorem dX9_scaleField_78 : decode cX9_scaleField 78 = .ok (.putfield 661, 3) := by decide +kernel
theorem dX9_scaleField_81 : decode cX9_scaleField 81 = .ok (.return_, 1) := by decide +kernel
noncomputable def f_X9_scaleField (p1 : Int32) (T : Mm) : Option (Unit × Mm) :=
  rf true (gR T 913 23) 5 fun j1 =>
  if (gI T 505 j1) = 82 then (if (gI T 404 48) = 0 then (if p1 = 75 then (lb (uI T 400 48 1) fun T6 =>
  some ((), T6))
  else (if p1 = 37 then (lb (uI T 400 48 2) fun T5 =>
  some ((), T5))
  else (if p1 = 25 then (lb (uI T 400 48 3) fun T4 =>
  some ((), T4))
  else (if p1 = 18 then (lb (uI T 400 48 4) fun T3 =>
  some ((), T3))
  else (some ((), T))))))
  else (some ((), T)))
  else (some ((), T))
set_option maxRecDepth 100000 in
set_option maxHeartbeats 4000000 in
theorem s_X9_scaleField {ad : Nat → Nat} {U T : Mm} {q : Unit × Mm}  (p1 : Int32) (h : f_X9_scaleField p1 T = some q) : Cr 1 yX9_scaleField cX9_scaleField 3 none [.ref (ad 23), .int p1] ad true U T eV q := by
  refine cr_of (by decide) (Nat.le_of_ble_eq_true rfl) fun x S0 hn9 C M => ?_
  have C : CB x RX9 cX9_scaleField := C
  refine Jr.eq (lv' := [(0, .ref (ad 23)), (1, .int p1)]) (st' := []) rfl rfl ?_
  unfold f_X9_scaleField at h
  refine r_aload_n C dX9_scaleField_0 rfl 0 rfl ?_
  refine r_getp (f := 909) (j := 45) C flX9_57 dX9_scaleField_1 kq_23 (by decide) rfl (fun W => pt_909 kq_23 W) ?_
  refine r_getp (f := 101) (j := 48) C flX9_652 dX9_scaleField_4 kq_45 (by decide) rfl (fun W => pt_101 kq_45 W) ?_
  refine r_astore_n (lv' := [(2, .ref (ad 48)), (0, .ref (ad 23)), (1, .int p1)]) C dX9_scaleField_7 rfl (by rw [hn9]; decide) rfl ?_
  refine r_aload_n C dX9_scaleField_8 rfl 1 rfl ?_
  show Jr _ _ _ _ _ _ 9 _
  refine r_getr (f := 913) (c := 5) C flX9_82 dX9_scaleField_9 kq_23 (by decide) rfl h (fun j1 hj2 h => ?_)
  refine r_geti (f := 505) C flX9_327 dX9_scaleField_12 hj2 (by decide) (by decide) rfl ?_
  refine r_bipush (v := 82) C dX9_scaleField_15 (by decide) ?_
  refine r_ic_ne (tgt := 27) C dX9_scaleField_17 (by decide) h (fun h => ?_) (fun h => ?_)
  · exact r_vret C M dX9_scaleField_27 h
  · refine r_aload_n C dX9_scaleField_20 rfl 0 rfl ?_
    refine r_geti (f := 404) C flX9_656 dX9_scaleField_21 kq_48 (by decide) (by decide) rfl ?_
    refine r_if_eq (tgt := 28) C dX9_scaleField_24 (by decide) h (fun h => ?_) (fun h => ?_)
    · refine r_iload_n C dX9_scaleField_28 rfl 2 rfl ?_
      refine r_bipush (v := 75) C dX9_scaleField_29 (by decide) ?_
      refine r_ic_ne (tgt := 42) C dX9_scaleField_31 (by decide) h (fun h => ?_) (fun h => ?_)
      · refine r_iload_n C dX9_scaleField_42 rfl 2 rfl ?_
        refine r_bipush (v := 37) C dX9_scaleField_43 (by decide) ?_
        refine r_ic_ne (tgt := 56) C dX9_scaleField_45 (by decide) h (fun h => ?_) (fun h => ?_)
        · refine r_iload_n C dX9_scaleField_56 rfl 2 rfl ?_
          refine r_bipush (v := 25) C dX9_scaleField_57 (by decide) ?_
          refine r_ic_ne (tgt := 70) C dX9_scaleField_59 (by decide) h (fun h => ?_) (fun h => ?_)
          · refine r_iload_n C dX9_scaleField_70 rfl 2 rfl ?_
            refine r_bipush (v := 18) C dX9_scaleField_71 (by decide) ?_
            refine r_ic_ne (tgt := 81) C dX9_scaleField_73 (by decide) h (fun h => ?_) (fun h => ?_)
            · exact r_vret C M dX9_scaleField_81 h
            · refine r_aload_n C dX9_scaleField_76 rfl 0 rfl ?_
              refine r_iconst (v := 4) C dX9_scaleField_77 (by decide) ?_
              refine r_puti (f := 400) C flX9_661 (by decide) rfl rfl dX9_scaleField_78 kq_48 rfl h (fun T3 h => ?_)
              exact r_vret C M dX9_scaleField_81 h
          · refine r_aload_n C dX9_scaleField_62 rfl 0 rfl ?_
            refine r_iconst (v := 3) C dX9_scaleField_63 (by decide) ?_
            refine r_puti (f := 400) C flX9_661 (by decide) rfl rfl dX9_scaleField_64 kq_48 rfl h (fun T4 h => ?_)
            refine r_goto (tgt := 81) C dX9_scaleField_67 (by decide) ?_
            exact r_vret C M dX9_scaleField_81 h
        · refine r_aload_n C dX9_scaleField_48 rfl 0 rfl ?_
          refine r_iconst (v := 2) C dX9_scaleField_49 (by decide) ?_
          refine r_puti (f := 400) C flX9_661 (by decide) rfl rfl dX9_scaleField_50 kq_48 rfl h (fun T5 h => ?_)
          refine r_goto (tgt := 81) C dX9_scaleField_53 (by decide) ?_
          exact r_vret C M dX9_scaleField_81 h
      · refine r_aload_n C dX9_scaleField_34 rfl 0 rfl ?_
        refine r_iconst (v := 1) C dX9_scaleField_35 (by decide) ?_
        refine r_puti (f := 400) C flX9_661 (by decide) rfl rfl dX9_scaleField_36 kq_48 rfl h (fun T6 h => ?_)
        refine r_goto (tgt := 81) C dX9_scaleField_39 (by decide) ?_
        exact r_vret C M dX9_scaleField_81 h
    · exact r_vret C M dX9_scaleField_27 h
theorem dX4_begin_0 : decode cX4_begin 0 = .ok (.aload_n 0, 1) := by decide +kernel
theorem dX4_begin_1 : decode cX4_begin 1 = .ok (.iconst 1, 1) := by decide +kernel
theorem dX4_begin_2 : decode cX4_begin 2 = .ok (.putfield 26, 3) := by decide +kernel
theorem dX4_begin_5 : decode cX4_begin 5 = .ok (.aload_n 0, 1) := by decide +kernel
theorem dX4_begin_6 : decode cX4_begin 6 = .ok (.iload_n 1, 1) := by decide +kernel
theorem dX4_begin_7 : decode cX4_begin 7 = .ok (.putfield 30, 3) := by decide +kernel
theorem dX4_begin_10 : decode cX4_begin 10 = .ok (.aload_n 0, 1) := by decide +kernel
theorem dX4_begin_11 : decode cX4_begin 11 = .ok (.iconst 0, 1) := by decide +kernel
theorem dX4_begin_12 : decode cX4_begin 12 = .ok (.putfield 33, 3) := by decide +kernel
theorem dX4_begin_15 : decode cX4_begin 15 = .ok (.aload_n 0, 1) := by decide +kernel
theorem dX4_begin_16 : decode cX4_begin 16 = .ok (.invokevirtual 42, 3) := by decide +kernel
theorem dX4_begin_19 : decode cX4_begin 19 = .ok (.return_, 1) := by decide +kernel
noncomputable def f_X4_begin (p0 : Nat) (p1 : Int32) (T : Mm) : Option (Unit × Mm) :=
  lb (uI T 404 p0 1) fun T1 =>
  lb (uI T1 405 p0 p1) fun T2 =>
  lb (uI T2 406 p0 0) fun T3 =>
  bd (f_X4_clearRow p0 T3) fun _ T4 =>
  some ((), T4)
set_option maxRecDepth 100000 in
set_option maxHeartbeats 4000000 in
theorem s_X4_begin {ad : Nat → Nat} {U T : Mm} {q : Unit × Mm}  (p0 : Nat) (p1 : Int32) (hk0 : kS true p0 = 4) (h : f_X4_begin p0 p1 T = some q) : Cr 3 yX4_begin cX4_begin 2 none [.ref (ad p0), .int p1] ad true U T eV q := by
  refine cr_of (by decide) (Nat.le_of_ble_eq_true rfl) fun x S0 hn9 C M => ?_
  have C : CB x RX4 cX4_begin := C
  refine Jr.eq (lv' := [(0, .ref (ad p0)), (1, .int p1)]) (st' := []) rfl rfl ?_
  unfold f_X4_begin at h
  refine r_aload_n C dX4_begin_0 rfl 0 rfl ?_
  refine r_iconst (v := 1) C dX4_begin_1 (by decide) ?_
  refine r_putz (f := 404) C flX4_26 (by decide) rfl rfl (by decide) dX4_begin_2 hk0 rfl h (fun T1 h => ?_)
  refine r_aload_n C dX4_begin_5 rfl 0 rfl ?_
  refine r_iload_n C dX4_begin_6 rfl 1 rfl ?_
  show Jr _ _ _ _ _ _ 7 _
  refine r_puti (f := 405) C flX4_30 (by decide) rfl rfl dX4_begin_7 hk0 rfl h (fun T2 h => ?_)
  refine r_aload_n C dX4_begin_10 rfl 0 rfl ?_
  refine r_iconst (v := 0) C dX4_begin_11 (by decide) ?_
  refine r_puti (f := 406) C flX4_33 (by decide) rfl rfl dX4_begin_12 hk0 rfl h (fun T3 h => ?_)
  refine r_aload_n C dX4_begin_15 rfl 0 rfl ?_
  refine r_callVN C M h [] [] mlX4_42 mcX4_clearRow (fun q9 e9 => s_X4_clearRow p0 hk0 e9) hk0 rfl (by decide) (by decide) rfl rfl (Nat.le_of_ble_eq_true rfl) dX4_begin_16 (fun _ T4 h => ?_)
  show Jr _ _ _ _ _ _ 19 _
  exact r_vret C M dX4_begin_19 h
theorem dX9_beginRaster_0 : decode cX9_beginRaster 0 = .ok (.iload_n 1, 1) := by decide +kernel
theorem dX9_beginRaster_1 : decode cX9_beginRaster 1 = .ok (.ifCond .ne 14, 3) := by decide +kernel
theorem dX9_beginRaster_4 : decode cX9_beginRaster 4 = .ok (.aload_n 0, 1) := by decide +kernel
theorem dX9_beginRaster_5 : decode cX9_beginRaster 5 = .ok (.getfield 57, 3) := by decide +kernel
theorem dX9_beginRaster_8 : decode cX9_beginRaster 8 = .ok (.getfield 129, 3) := by decide +kernel
theorem dX9_beginRaster_11 : decode cX9_beginRaster 11 = .ok (.lconst 0, 1) := by decide +kernel
theorem dX9_beginRaster_12 : decode cX9_beginRaster 12 = .ok (.invokevirtual 246, 3) := by decide +kernel
theorem dX9_beginRaster_15 : decode cX9_beginRaster 15 = .ok (.aload_n 0, 1) := by decide +kernel
theorem dX9_beginRaster_16 : decode cX9_beginRaster 16 = .ok (.getfield 57, 3) := by decide +kernel
theorem dX9_beginRaster_19 : decode cX9_beginRaster 19 = .ok (.getfield 652, 3) := by decide +kernel
theorem dX9_beginRaster_22 : decode cX9_beginRaster 22 = .ok (.aload_n 0, 1) := by decide +kernel
theorem dX9_beginRaster_23 : decode cX9_beginRaster 23 = .ok (.getfield 57, 3) := by decide +kernel
theorem dX9_beginRaster_26 : decode cX9_beginRaster 26 = .ok (.getfield 129, 3) := by decide +kernel
theorem dX9_beginRaster_29 : decode cX9_beginRaster 29 = .ok (.getfield 133, 3) := by decide +kernel
theorem dX9_beginRaster_32 : decode cX9_beginRaster 32 = .ok (.bipush 96, 2) := by decide +kernel
theorem dX9_beginRaster_34 : decode cX9_beginRaster 34 = .ok (.idiv, 1) := by decide +kernel
theorem dX9_beginRaster_35 : decode cX9_beginRaster 35 = .ok (.invokevirtual 675, 3) := by decide +kernel
theorem dX9_beginRaster_38 : decode cX9_beginRaster 38 = .ok (.return_, 1) := by decide +kernel
noncomputable def f_X9_beginRaster_15 (T : Mm) : Option (Unit × Mm) :=
  bd (f_X4_begin 48 ((gI T 706 46) / 96) T) fun _ T1 =>
  some ((), T1)
set_option maxRecDepth 100000 in
set_option maxHeartbeats 4000000 in
theorem s_X9_beginRaster_15 {x : JX} {ad : Nat → Nat} {U : Mm} {S0 : Hp} {q : Unit × Mm}  (hn9 : x_n x = 2) (C : CB x RX9 cX9_beginRaster) (M : CMr x 4 none S0 ad true U eV q) (T : Mm) (h : f_X9_beginRaster_15   T = some q) : Jr x ad true U T [(0, .ref (ad 23))] 15 [] := by
  unfold f_X9_beginRaster_15 at h
  refine r_aload_n C dX9_beginRaster_15 rfl 0 rfl ?_
  refine r_getp (f := 909) (j := 45) C flX9_57 dX9_beginRaster_16 kq_23 (by decide) rfl (fun W => pt_909 kq_23 W) ?_
  refine r_getp (f := 101) (j := 48) C flX9_652 dX9_beginRaster_19 kq_45 (by decide) rfl (fun W => pt_101 kq_45 W) ?_
  refine r_aload_n C dX9_beginRaster_22 rfl 0 rfl ?_
  refine r_getp (f := 909) (j := 45) C flX9_57 dX9_beginRaster_23 kq_23 (by decide) rfl (fun W => pt_909 kq_23 W) ?_
  show Jr _ _ _ _ _ _ 26 _
  refine r_getp (f := 100) (j := 46) C flX9_129 dX9_beginRaster_26 kq_45 (by decide) rfl (fun W => pt_100 kq_45 W) ?_
  refine r_geti (f := 706) C flX9_133 dX9_beginRaster_29 kq_46 (by decide) (by decide) rfl ?_
  refine r_bipush (v := 96) C dX9_beginRaster_32 (by decide) ?_
  refine r_idiv C dX9_beginRaster_34 (by decide) rfl ?_
  refine r_callVN C M h [.int ((gI T 706 46) / 96)] [] mlX9_675 mcX4_begin (fun q9 e9 => s_X4_begin 48 ((gI T 706 46) / 96) kq_48 e9) kq_48 rfl (by decide) (by decide) rfl rfl (Nat.le_of_ble_eq_true rfl) dX9_beginRaster_35 (fun _ T1 h => ?_)
  exact r_vret C M dX9_beginRaster_38 h
noncomputable def f_X9_beginRaster (p1 : Int32) (T : Mm) : Option (Unit × Mm) :=
  if p1 = 0 then (bd (f_X7_moveX 46 0 T) fun _ T1 =>
  f_X9_beginRaster_15 T1)
  else (f_X9_beginRaster_15 T)
set_option maxRecDepth 100000 in
set_option maxHeartbeats 4000000 in
theorem s_X9_beginRaster {ad : Nat → Nat} {U T : Mm} {q : Unit × Mm}  (p1 : Int32) (h : f_X9_beginRaster p1 T = some q) : Cr 4 yX9_beginRaster cX9_beginRaster 2 none [.ref (ad 23), .int p1] ad true U T eV q := by
  refine cr_of (by decide) (Nat.le_of_ble_eq_true rfl) fun x S0 hn9 C M => ?_
  have C : CB x RX9 cX9_beginRaster := C
  refine Jr.eq (lv' := [(0, .ref (ad 23)), (1, .int p1)]) (st' := []) rfl rfl ?_
  unfold f_X9_beginRaster at h
  refine r_iload_n C dX9_beginRaster_0 rfl 1 rfl ?_
  refine r_if_ne (tgt := 15) C dX9_beginRaster_1 (by decide) h (fun h => ?_) (fun h => ?_)
  · refine Jr.sub [0] (lv' := [(0, .ref (ad 23))]) rfl ?_
    exact s_X9_beginRaster_15 hn9 C M  T h
  · refine r_aload_n C dX9_beginRaster_4 rfl 0 rfl ?_
    refine r_getp (f := 909) (j := 45) C flX9_57 dX9_beginRaster_5 kq_23 (by decide) rfl (fun W => pt_909 kq_23 W) ?_
    refine r_getp (f := 100) (j := 46) C flX9_129 dX9_beginRaster_8 kq_45 (by decide) rfl (fun W => pt_100 kq_45 W) ?_
    refine r_lconst (v := 0) C dX9_beginRaster_11 (by decide) ?_
    refine r_callVN C M h [.long 0] [] mlX9_246 mcX7_moveX (fun q9 e9 => s_X7_moveX 46 0 kq_46 e9) kq_46 rfl (by decide) (by decide) rfl rfl (Nat.le_of_ble_eq_true rfl) dX9_beginRaster_12 (fun _ T1 h => ?_)
    refine Jr.sub [0] (lv' := [(0, .ref (ad 23))]) rfl ?_
    exact s_X9_beginRaster_15 hn9 C M  T1 h
theorem dX9_rasterField_0 : decode cX9_rasterField 0 = .ok (.aload_n 0, 1) := by decide +kernel
theorem dX9_rasterField_1 : decode cX9_rasterField 1 = .ok (.getfield 57, 3) := by decide +kernel
theorem dX9_rasterField_4 : decode cX9_rasterField 4 = .ok (.getfield 652, 3) := by decide +kernel
theorem dX9_rasterField_7 : decode cX9_rasterField 7 = .ok (.astore_n 2, 1) := by decide +kernel
theorem dX9_rasterField_8 : decode cX9_rasterField 8 = .ok (.aload_n 0, 1) := by decide +kernel
theorem dX9_rasterField_9 : decode cX9_rasterField 9 = .ok (.getfield 82, 3) := by decide +kernel
theorem dX9_rasterField_12 : decode cX9_rasterField 12 = .ok (.getfield 327, 3) := by decide +kernel
theorem dX9_rasterField_15 : decode cX9_rasterField 15 = .ok (.lookupswitch 142 #[(65, 49), (66, 66), (67, 66), (83, 90), (84, 116)], 49) := by decide +kernel
theorem dX9_rasterField_64 : decode cX9_rasterField 64 = .ok (.iload_n 1, 1) := by decide +kernel
theorem dX9_rasterField_65 : decode cX9_rasterField 65 = .ok (.ifCond .eq 8, 3) := by decide +kernel
theorem dX9_rasterField_68 : decode cX9_rasterField 68 = .ok (.iload_n 1, 1) := by decide +kernel
theorem dX9_rasterField_69 : decode cX9_rasterField 69 = .ok (.iconst 1, 1) := by decide +kernel
theorem dX9_rasterField_70 : decode cX9_rasterField 70 = .ok (.if_icmp .ne 87, 3) := by decide +kernel
theorem dX9_rasterField_73 : decode cX9_rasterField 73 = .ok (.aload_n 0, 1) := by decide +kernel
theorem dX9_rasterField_74 : decode cX9_rasterField 74 = .ok (.iload_n 1, 1) := by decide +kernel
theorem dX9_rasterField_75 : decode cX9_rasterField 75 = .ok (.invokevirtual 664, 3) := by decide +kernel
theorem dX9_rasterField_78 : decode cX9_rasterField 78 = .ok (.goto 79, 3) := by decide +kernel
theorem dX9_rasterField_81 : decode cX9_rasterField 81 = .ok (.aload_n 2, 1) := by decide +kernel
theorem dX9_rasterField_82 : decode cX9_rasterField 82 = .ok (.aload_n 0, 1) := by decide +kernel
theorem dX9_rasterField_83 : decode cX9_rasterField 83 = .ok (.getfield 82, 3) := by decide +kernel
theorem dX9_rasterField_86 : decode cX9_rasterField 86 = .ok (.getfield 327, 3) := by decide +kernel
theorem dX9_rasterField_89 : decode cX9_rasterField 89 = .ok (.bipush 67, 2) := by decide +kernel
theorem dX9_rasterField_91 : decode cX9_rasterField 91 = .ok (.if_icmp .ne 7, 3) := by decide +kernel
theorem dX9_rasterField_94 : decode cX9_rasterField 94 = .ok (.iconst 1, 1) := by decide +kernel
theorem dX9_rasterField_95 : decode cX9_rasterField 95 = .ok (.goto 4, 3) := by decide +kernel
theorem dX9_rasterField_98 : decode cX9_rasterField 98 = .ok (.iconst 0, 1) := by decide +kernel
theorem dX9_rasterField_99 : decode cX9_rasterField 99 = .ok (.invokevirtual 667, 3) := by decide +kernel
theorem dX9_rasterField_102 : decode cX9_rasterField 102 = .ok (.goto 55, 3) := by decide +kernel
theorem dX9_rasterField_105 : decode cX9_rasterField 105 = .ok (.aload_n 2, 1) := by decide +kernel
theorem dX9_rasterField_106 : decode cX9_rasterField 106 = .ok (.aload_n 2, 1) := by decide +kernel
theorem dX9_rasterField_107 : decode cX9_rasterField 107 = .ok (.getfield 656, 3) := by decide +kernel
theorem dX9_rasterField_110 : decode cX9_rasterField 110 = .ok (.ifCond .eq 10, 3) := by decide +kernel
theorem dX9_rasterField_113 : decode cX9_rasterField 113 = .ok (.aload_n 2, 1) := by decide +kernel
theorem dX9_rasterField_114 : decode cX9_rasterField 114 = .ok (.getfield 669, 3) := by decide +kernel
theorem dX9_rasterField_117 : decode cX9_rasterField 117 = .ok (.goto 8, 3) := by decide +kernel
theorem dX9_rasterField_120 : decode cX9_rasterField 120 = .ok (.iload_n 1, 1) := by decide +kernel
theorem dX9_rasterField_121 : decode cX9_rasterField 121 = .ok (.iconst 0, 1) := by decide +kernel
theorem dX9_rasterField_122 : decode cX9_rasterField 122 = .ok (.invokestatic 344, 3) := by decide +kernel
theorem dX9_rasterField_125 : decode cX9_rasterField 125 = .ok (.putfield 669, 3) := by decide +kernel
theorem dX9_rasterField_128 : decode cX9_rasterField 128 = .ok (.goto 29, 3) := by decide +kernel
theorem dX9_rasterField_131 : decode cX9_rasterField 131 = .ok (.aload_n 2, 1) := by decide +kernel
theorem dX9_rasterField_132 : decode cX9_rasterField 132 = .ok (.aload_n 2, 1) := by decide +kernel
theorem dX9_rasterField_133 : decode cX9_rasterField 133 = .ok (.getfield 656, 3) := by decide +kernel
theorem dX9_rasterField_136 : decode cX9_rasterField 136 = .ok (.ifCond .eq 10, 3) := by decide +kernel
theorem dX9_rasterField_139 : decode cX9_rasterField 139 = .ok (.aload_n 2, 1) := by decide +kernel
theorem dX9_rasterField_140 : decode cX9_rasterField 140 = .ok (.getfield 672, 3) := by decide +kernel
theorem dX9_rasterField_143 : decode cX9_rasterField 143 = .ok (.goto 8, 3) := by decide +kernel
theorem dX9_rasterField_146 : decode cX9_rasterField 146 = .ok (.iload_n 1, 1) := by decide +kernel
theorem dX9_rasterField_147 : decode cX9_rasterField 147 = .ok (.iconst 0, 1) := by decide +kernel
theorem dX9_rasterField_148 : decode cX9_rasterField 148 = .ok (.invokestatic 344, 3) := by decide +kernel
theorem dX9_rasterField_151 : decode cX9_rasterField 151 = .ok (.putfield 672, 3) := by decide +kernel
theorem dX9_rasterField_154 : decode cX9_rasterField 154 = .ok (.goto 3, 3) := by decide +kernel
theorem dX9_rasterField_157 : decode cX9_rasterField 157 = .ok (.return_, 1) := by decide +kernel
noncomputable def f_X9_rasterField (p1 : Int32) (T : Mm) : Option (Unit × Mm) :=
  rf true (gR T 913 23) 5 fun j1 =>
  lb ((gI T 505 j1)) fun v3 =>
  if v3 = 65 then (if p1 = 0 then (bd (f_X9_beginRaster p1 T) fun _ T5 =>
  some ((), T5))
  else (if p1 = 1 then (bd (f_X9_beginRaster p1 T) fun _ T6 =>
  some ((), T6))
  else (some ((), T))))
  else if v3 = 66 then (rf true (gR T 913 23) 5 fun j8 =>
  if (gI T 505 j8) = 67 then (bd (f_X4_end 48 1 T) fun _ T11 =>
  some ((), T11))
  else (bd (f_X4_end 48 0 T) fun _ T10 =>
  some ((), T10)))
  else if v3 = 67 then (rf true (gR T 913 23) 5 fun j13 =>
  if (gI T 505 j13) = 67 then (bd (f_X4_end 48 1 T) fun _ T16 =>
  some ((), T16))
  else (bd (f_X4_end 48 0 T) fun _ T15 =>
  some ((), T15)))
  else if v3 = 83 then (if (gI T 404 48) = 0 then (bd (f_J9_max_7cf53 p1 0 T) fun v18 T19 =>
  lb (uI T19 402 48 v18) fun T20 =>
  some ((), T20))
  else (lb (uI T 402 48 (gI T 402 48)) fun T21 =>
  some ((), T21)))
  else if v3 = 84 then (if (gI T 404 48) = 0 then (bd (f_J9_max_7cf53 p1 0 T) fun v23 T24 =>
  lb (uI T24 403 48 v23) fun T25 =>
  some ((), T25))
  else (lb (uI T 403 48 (gI T 403 48)) fun T26 =>
  some ((), T26)))
  else (some ((), T))
set_option maxRecDepth 100000 in
set_option maxHeartbeats 4000000 in
theorem s_X9_rasterField {ad : Nat → Nat} {U T : Mm} {q : Unit × Mm}  (p1 : Int32) (h : f_X9_rasterField p1 T = some q) : Cr 5 yX9_rasterField cX9_rasterField 3 none [.ref (ad 23), .int p1] ad true U T eV q := by
  refine cr_of (by decide) (Nat.le_of_ble_eq_true rfl) fun x S0 hn9 C M => ?_
  have C : CB x RX9 cX9_rasterField := C
  refine Jr.eq (lv' := [(0, .ref (ad 23)), (1, .int p1)]) (st' := []) rfl rfl ?_
  unfold f_X9_rasterField at h
  refine r_aload_n C dX9_rasterField_0 rfl 0 rfl ?_
  refine r_getp (f := 909) (j := 45) C flX9_57 dX9_rasterField_1 kq_23 (by decide) rfl (fun W => pt_909 kq_23 W) ?_
  refine r_getp (f := 101) (j := 48) C flX9_652 dX9_rasterField_4 kq_45 (by decide) rfl (fun W => pt_101 kq_45 W) ?_
  refine r_astore_n (lv' := [(2, .ref (ad 48)), (0, .ref (ad 23)), (1, .int p1)]) C dX9_rasterField_7 rfl (by rw [hn9]; decide) rfl ?_
  refine r_aload_n C dX9_rasterField_8 rfl 1 rfl ?_
  show Jr _ _ _ _ _ _ 9 _
  refine r_getr (f := 913) (c := 5) C flX9_82 dX9_rasterField_9 kq_23 (by decide) rfl h (fun j1 hj2 h => ?_)
  refine r_geti (f := 505) C flX9_327 dX9_rasterField_12 hj2 (by decide) (by decide) rfl ?_
  refine r_lbI h (fun v3 h => ?_)
  by_cases hs4 : v3 = 65
  · rw [if_pos hs4] at h
    refine r_top hs4 ?_
    refine r_look (off := 49) (tgt := 64) C dX9_rasterField_15 (by decide) (by decide) (by decide) ?_
    refine r_iload_n C dX9_rasterField_64 rfl 2 rfl ?_
    refine r_if_eq (tgt := 73) C dX9_rasterField_65 (by decide) h (fun h => ?_) (fun h => ?_)
    · refine r_aload_n C dX9_rasterField_73 rfl 1 rfl ?_
      refine r_iload_n C dX9_rasterField_74 rfl 2 rfl ?_
      refine r_callVN C M h [.int p1] [] mlX9_664 mcX9_beginRaster (fun q9 e9 => s_X9_beginRaster p1  e9) kq_23 rfl (by decide) (by decide) rfl rfl (Nat.le_of_ble_eq_true rfl) dX9_rasterField_75 (fun _ T5 h => ?_)
      refine r_goto (tgt := 157) C dX9_rasterField_78 (by decide) ?_
      exact r_vret C M dX9_rasterField_157 h
    · refine r_iload_n C dX9_rasterField_68 rfl 2 rfl ?_
      refine r_iconst (v := 1) C dX9_rasterField_69 (by decide) ?_
      refine r_ic_ne (tgt := 157) C dX9_rasterField_70 (by decide) h (fun h => ?_) (fun h => ?_)
      · exact r_vret C M dX9_rasterField_157 h
      · refine r_aload_n C dX9_rasterField_73 rfl 1 rfl ?_
        refine r_iload_n C dX9_rasterField_74 rfl 2 rfl ?_
        refine r_callVN C M h [.int p1] [] mlX9_664 mcX9_beginRaster (fun q9 e9 => s_X9_beginRaster p1  e9) kq_23 rfl (by decide) (by decide) rfl rfl (Nat.le_of_ble_eq_true rfl) dX9_rasterField_75 (fun _ T6 h => ?_)
        refine r_goto (tgt := 157) C dX9_rasterField_78 (by decide) ?_
        exact r_vret C M dX9_rasterField_157 h
  rw [if_neg hs4] at h
  by_cases hs7 : v3 = 66
  · rw [if_pos hs7] at h
    refine r_top hs7 ?_
    refine r_look (off := 66) (tgt := 81) C dX9_rasterField_15 (by decide) (by decide) (by decide) ?_
    refine r_aload_n C dX9_rasterField_81 rfl 0 rfl ?_
    refine r_aload_n C dX9_rasterField_82 rfl 1 rfl ?_
    refine r_getr (f := 913) (c := 5) C flX9_82 dX9_rasterField_83 kq_23 (by decide) rfl h (fun j8 hj9 h => ?_)
    refine r_geti (f := 505) C flX9_327 dX9_rasterField_86 hj9 (by decide) (by decide) rfl ?_
    refine r_bipush (v := 67) C dX9_rasterField_89 (by decide) ?_
    show Jr _ _ _ _ _ _ 91 _
    refine r_ic_ne (tgt := 98) C dX9_rasterField_91 (by decide) h (fun h => ?_) (fun h => ?_)
    · refine r_iconst (v := 0) C dX9_rasterField_98 (by decide) ?_
      refine r_callVN C M h [.int 0] [] mlX9_667 mcX4_end (fun q9 e9 => s_X4_end 48 0 kq_48 e9) kq_48 rfl (by decide) (by decide) rfl rfl (Nat.le_of_ble_eq_true rfl) dX9_rasterField_99 (fun _ T10 h => ?_)
      refine r_goto (tgt := 157) C dX9_rasterField_102 (by decide) ?_
      exact r_vret C M dX9_rasterField_157 h
    · refine r_iconst (v := 1) C dX9_rasterField_94 (by decide) ?_
      refine r_goto (tgt := 99) C dX9_rasterField_95 (by decide) ?_
      refine r_callVN C M h [.int 1] [] mlX9_667 mcX4_end (fun q9 e9 => s_X4_end 48 1 kq_48 e9) kq_48 rfl (by decide) (by decide) rfl rfl (Nat.le_of_ble_eq_true rfl) dX9_rasterField_99 (fun _ T11 h => ?_)
      refine r_goto (tgt := 157) C dX9_rasterField_102 (by decide) ?_
      exact r_vret C M dX9_rasterField_157 h
  rw [if_neg hs7] at h
  by_cases hs12 : v3 = 67
  · rw [if_pos hs12] at h
    refine r_top hs12 ?_
    refine r_look (off := 66) (tgt := 81) C dX9_rasterField_15 (by decide) (by decide) (by decide) ?_
    refine r_aload_n C dX9_rasterField_81 rfl 0 rfl ?_
    refine r_aload_n C dX9_rasterField_82 rfl 1 rfl ?_
    refine r_getr (f := 913) (c := 5) C flX9_82 dX9_rasterField_83 kq_23 (by decide) rfl h (fun j13 hj14 h => ?_)
    refine r_geti (f := 505) C flX9_327 dX9_rasterField_86 hj14 (by decide) (by decide) rfl ?_
    refine r_bipush (v := 67) C dX9_rasterField_89 (by decide) ?_
    show Jr _ _ _ _ _ _ 91 _
    refine r_ic_ne (tgt := 98) C dX9_rasterField_91 (by decide) h (fun h => ?_) (fun h => ?_)
    · refine r_iconst (v := 0) C dX9_rasterField_98 (by decide) ?_
      refine r_callVN C M h [.int 0] [] mlX9_667 mcX4_end (fun q9 e9 => s_X4_end 48 0 kq_48 e9) kq_48 rfl (by decide) (by decide) rfl rfl (Nat.le_of_ble_eq_true rfl) dX9_rasterField_99 (fun _ T15 h => ?_)
      refine r_goto (tgt := 157) C dX9_rasterField_102 (by decide) ?_
      exact r_vret C M dX9_rasterField_157 h
    · refine r_iconst (v := 1) C dX9_rasterField_94 (by decide) ?_
      refine r_goto (tgt := 99) C dX9_rasterField_95 (by decide) ?_
      refine r_callVN C M h [.int 1] [] mlX9_667 mcX4_end (fun q9 e9 => s_X4_end 48 1 kq_48 e9) kq_48 rfl (by decide) (by decide) rfl rfl (Nat.le_of_ble_eq_true rfl) dX9_rasterField_99 (fun _ T16 h => ?_)
      refine r_goto (tgt := 157) C dX9_rasterField_102 (by decide) ?_
      exact r_vret C M dX9_rasterField_157 h
  rw [if_neg hs12] at h
  by_cases hs17 : v3 = 83
  · rw [if_pos hs17] at h
    refine r_top hs17 ?_
    refine r_look (off := 90) (tgt := 105) C dX9_rasterField_15 (by decide) (by decide) (by decide) ?_
    refine r_aload_n C dX9_rasterField_105 rfl 0 rfl ?_
    refine r_aload_n C dX9_rasterField_106 rfl 0 rfl ?_
    refine r_geti (f := 404) C flX9_656 dX9_rasterField_107 kq_48 (by decide) (by decide) rfl ?_
    refine r_if_eq (tgt := 120) C dX9_rasterField_110 (by decide) h (fun h => ?_) (fun h => ?_)
    · refine r_iload_n C dX9_rasterField_120 rfl 2 rfl ?_
      refine r_iconst (v := 0) C dX9_rasterField_121 (by decide) ?_
      refine r_callSI C M h [.int p1, .int 0] [.ref (ad 48)] mlX9_344 mcJ9_max_7cf53 (fun q9 e9 => s_J9_max_7cf53 p1 0  e9) (by decide) (by decide) rfl rfl (Nat.le_of_ble_eq_true rfl) dX9_rasterField_122 (fun v18 T19 h => ?_)
      refine r_puti (f := 402) C flX9_669 (by decide) rfl rfl dX9_rasterField_125 kq_48 rfl h (fun T20 h => ?_)
      refine r_goto (tgt := 157) C dX9_rasterField_128 (by decide) ?_
      show Jr _ _ _ _ _ _ 157 _
      exact r_vret C M dX9_rasterField_157 h
    · refine r_aload_n C dX9_rasterField_113 rfl 0 rfl ?_
      refine r_geti (f := 402) C flX9_669 dX9_rasterField_114 kq_48 (by decide) (by decide) rfl ?_
      refine r_goto (tgt := 125) C dX9_rasterField_117 (by decide) ?_
      refine r_puti (f := 402) C flX9_669 (by decide) rfl rfl dX9_rasterField_125 kq_48 rfl h (fun T21 h => ?_)
      refine r_goto (tgt := 157) C dX9_rasterField_128 (by decide) ?_
      show Jr _ _ _ _ _ _ 157 _
      exact r_vret C M dX9_rasterField_157 h
  rw [if_neg hs17] at h
  by_cases hs22 : v3 = 84
  · rw [if_pos hs22] at h
    refine r_top hs22 ?_
    refine r_look (off := 116) (tgt := 131) C dX9_rasterField_15 (by decide) (by decide) (by decide) ?_
    refine r_aload_n C dX9_rasterField_131 rfl 0 rfl ?_
    refine r_aload_n C dX9_rasterField_132 rfl 0 rfl ?_
    refine r_geti (f := 404) C flX9_656 dX9_rasterField_133 kq_48 (by decide) (by decide) rfl ?_
    refine r_if_eq (tgt := 146) C dX9_rasterField_136 (by decide) h (fun h => ?_) (fun h => ?_)
    · refine r_iload_n C dX9_rasterField_146 rfl 2 rfl ?_
      refine r_iconst (v := 0) C dX9_rasterField_147 (by decide) ?_
      refine r_callSI C M h [.int p1, .int 0] [.ref (ad 48)] mlX9_344 mcJ9_max_7cf53 (fun q9 e9 => s_J9_max_7cf53 p1 0  e9) (by decide) (by decide) rfl rfl (Nat.le_of_ble_eq_true rfl) dX9_rasterField_148 (fun v23 T24 h => ?_)
      refine r_puti (f := 403) C flX9_672 (by decide) rfl rfl dX9_rasterField_151 kq_48 rfl h (fun T25 h => ?_)
      refine r_goto (tgt := 157) C dX9_rasterField_154 (by decide) ?_
      show Jr _ _ _ _ _ _ 157 _
      exact r_vret C M dX9_rasterField_157 h
    · refine r_aload_n C dX9_rasterField_139 rfl 0 rfl ?_
      refine r_geti (f := 403) C flX9_672 dX9_rasterField_140 kq_48 (by decide) (by decide) rfl ?_
      refine r_goto (tgt := 151) C dX9_rasterField_143 (by decide) ?_
      refine r_puti (f := 403) C flX9_672 (by decide) rfl rfl dX9_rasterField_151 kq_48 rfl h (fun T26 h => ?_)
      refine r_goto (tgt := 157) C dX9_rasterField_154 (by decide) ?_
      show Jr _ _ _ _ _ _ 157 _
      exact r_vret C M dX9_rasterField_157 h
  rw [if_neg hs22] at h
  refine r_look (tgt := 157) (off := 142) C dX9_rasterField_15 (by decide) (by rw [lv_osw hs4 (by decide), lv_osw hs7 (by decide), lv_osw hs12 (by decide), lv_osw hs17 (by decide), lv_osw hs22 (by decide)]; rfl) (by decide) ?_
  exact r_vret C M dX9_rasterField_157 h
theorem dX9_growRows_0 : decode cX9_growRows 0 = .ok (.aload_n 0, 1) := by decide +kernel
theorem dX9_growRows_1 : decode cX9_growRows 1 = .ok (.getfield 57, 3) := by decide +kernel
theorem dX9_growRows_4 : decode cX9_growRows 4 = .ok (.getfield 652, 3) := by decide +kernel
theorem dX9_growRows_7 : decode cX9_growRows 7 = .ok (.astore_n 2, 1) := by decide +kernel
theorem dX9_growRows_8 : decode cX9_growRows 8 = .ok (.aload_n 2, 1) := by decide +kernel
theorem dX9_growRows_9 : decode cX9_growRows 9 = .ok (.aload_n 2, 1) := by decide +kernel
theorem dX9_growRows_10 : decode cX9_growRows 10 = .ok (.getfield 672, 3) := by decide +kernel
theorem dX9_growRows_13 : decode cX9_growRows 13 = .ok (.ifCond .le 12, 3) := by decide +kernel
theorem dX9_growRows_16 : decode cX9_growRows 16 = .ok (.aload_n 2, 1) := by decide +kernel
theorem dX9_growRows_17 : decode cX9_growRows 17 = .ok (.getfield 681, 3) := by decide +kernel
theorem dX9_growRows_20 : decode cX9_growRows 20 = .ok (.iload_n 1, 1) := by decide +kernel
theorem dX9_growRows_21 : decode cX9_growRows 21 = .ok (.iadd, 1) := by decide +kernel
theorem dX9_growRows_22 : decode cX9_growRows 22 = .ok (.goto 4, 3) := by decide +kernel
theorem dX9_growRows_25 : decode cX9_growRows 25 = .ok (.iconst 0, 1) := by decide +kernel
theorem dX9_growRows_26 : decode cX9_growRows 26 = .ok (.putfield 681, 3) := by decide +kernel
theorem dX9_growRows_29 : decode cX9_growRows 29 = .ok (.aload_n 0, 1) := by decide +kernel
theorem dX9_growRows_30 : decode cX9_growRows 30 = .ok (.getfield 57, 3) := by decide +kernel
theorem dX9_growRows_33 : decode cX9_growRows 33 = .ok (.getfield 129, 3) := by decide +kernel
theorem dX9_growRows_36 : decode cX9_growRows 36 = .ok (.aload_n 0, 1) := by decide +kernel
theorem dX9_growRows_37 : decode cX9_growRows 37 = .ok (.getfield 57, 3) := by decide +kernel
theorem dX9_growRows_40 : decode cX9_growRows 40 = .ok (.getfield 129, 3) := by decide +kernel
theorem dX9_growRows_43 : decode cX9_growRows 43 = .ok (.getfield 138, 3) := by decide +kernel
theorem dX9_growRows_46 : decode cX9_growRows 46 = .ok (.i2l, 1) := by decide +kernel
theorem dX9_growRows_47 : decode cX9_growRows 47 = .ok (.iload_n 1, 1) := by decide +kernel
theorem dX9_growRows_48 : decode cX9_growRows 48 = .ok (.i2l, 1) := by decide +kernel
theorem dX9_growRows_49 : decode cX9_growRows 49 = .ok (.aload_n 2, 1) := by decide +kernel
theorem dX9_growRows_50 : decode cX9_growRows 50 = .ok (.getfield 661, 3) := by decide +kernel
theorem dX9_growRows_53 : decode cX9_growRows 53 = .ok (.i2l, 1) := by decide +kernel
theorem dX9_growRows_54 : decode cX9_growRows 54 = .ok (.lmul, 1) := by decide +kernel
theorem dX9_growRows_55 : decode cX9_growRows 55 = .ok (.ldc2_w 608, 3) := by decide +kernel
theorem dX9_growRows_58 : decode cX9_growRows 58 = .ok (.lmul, 1) := by decide +kernel
theorem dX9_growRows_59 : decode cX9_growRows 59 = .ok (.ladd, 1) := by decide +kernel
theorem dX9_growRows_60 : decode cX9_growRows 60 = .ok (.invokevirtual 286, 3) := by decide +kernel
theorem dX9_growRows_63 : decode cX9_growRows 63 = .ok (.return_, 1) := by decide +kernel
noncomputable def f_X9_growRows_26 (a1 : Int32) (b0 : Int32) (T : Mm) : Option (Unit × Mm) :=
  lb (uI T 406 48 b0) fun T1 =>
  bd (f_X7_moveY 46 ((((gI T1 707 46)).toInt64) + ((((a1).toInt64) * (((gI T1 400 48)).toInt64)) * 96)) T1) fun _ T2 =>
  some ((), T2)
set_option maxRecDepth 100000 in
set_option maxHeartbeats 4000000 in
theorem s_X9_growRows_26 {x : JX} {ad : Nat → Nat} {U : Mm} {S0 : Hp} {q : Unit × Mm}  (hn9 : x_n x = 3) (C : CB x RX9 cX9_growRows) (M : CMr x 3 none S0 ad true U eV q) (a1 : Int32) (b0 : Int32) (T : Mm) (h : f_X9_growRows_26  a1 b0 T = some q) : Jr x ad true U T [(0, .ref (ad 23)), (1, .int a1), (2, .ref (ad 48))] 26 [.int b0, .ref (ad 48)] := by
  unfold f_X9_growRows_26 at h
  refine r_puti (f := 406) C flX9_681 (by decide) rfl rfl dX9_growRows_26 kq_48 rfl h (fun T1 h => ?_)
  refine r_aload_n C dX9_growRows_29 rfl 0 rfl ?_
  refine r_getp (f := 909) (j := 45) C flX9_57 dX9_growRows_30 kq_23 (by decide) rfl (fun W => pt_909 kq_23 W) ?_
  refine r_getp (f := 100) (j := 46) C flX9_129 dX9_growRows_33 kq_45 (by decide) rfl (fun W => pt_100 kq_45 W) ?_
  refine r_aload_n C dX9_growRows_36 rfl 0 rfl ?_
  show Jr _ _ _ _ _ _ 37 _
  refine r_getp (f := 909) (j := 45) C flX9_57 dX9_growRows_37 kq_23 (by decide) rfl (fun W => pt_909 kq_23 W) ?_
  refine r_getp (f := 100) (j := 46) C flX9_129 dX9_growRows_40 kq_45 (by decide) rfl (fun W => pt_100 kq_45 W) ?_
  refine r_geti (f := 707) C flX9_138 dX9_growRows_43 kq_46 (by decide) (by decide) rfl ?_
  refine r_i2l C dX9_growRows_46 rfl ?_
  refine r_iload_n C dX9_growRows_47 rfl 1 rfl ?_
  refine r_i2l C dX9_growRows_48 rfl ?_
  show Jr _ _ _ _ _ _ 49 _
  refine r_aload_n C dX9_growRows_49 rfl 2 rfl ?_
  refine r_geti (f := 400) C flX9_661 dX9_growRows_50 kq_48 (by decide) (by decide) rfl ?_
  refine r_i2l C dX9_growRows_53 rfl ?_
  refine r_lmul C dX9_growRows_54 rfl ?_
  refine r_ldc2 (v := 96) C dX9_growRows_55 kcX9_608 ?_
  refine r_lmul C dX9_growRows_58 rfl ?_
  show Jr _ _ _ _ _ _ 59 _
  refine r_ladd C dX9_growRows_59 rfl ?_
  refine r_callVN C M h [.long ((((gI T1 707 46)).toInt64) + ((((a1).toInt64) * (((gI T1 400 48)).toInt64)) * 96))] [] mlX9_286 mcX7_moveY (fun q9 e9 => s_X7_moveY 46 ((((gI T1 707 46)).toInt64) + ((((a1).toInt64) * (((gI T1 400 48)).toInt64)) * 96)) kq_46 e9) kq_46 rfl (by decide) (by decide) rfl rfl (Nat.le_of_ble_eq_true rfl) dX9_growRows_60 (fun _ T2 h => ?_)
  exact r_vret C M dX9_growRows_63 h
noncomputable def f_X9_growRows (p1 : Int32) (T : Mm) : Option (Unit × Mm) :=
  if (gI T 403 48) ≤ 0 then (f_X9_growRows_26 p1 0 T)
  else (f_X9_growRows_26 p1 ((gI T 406 48) + p1) T)
set_option maxRecDepth 100000 in
set_option maxHeartbeats 4000000 in
theorem s_X9_growRows {ad : Nat → Nat} {U T : Mm} {q : Unit × Mm}  (p1 : Int32) (h : f_X9_growRows p1 T = some q) : Cr 3 yX9_growRows cX9_growRows 3 none [.ref (ad 23), .int p1] ad true U T eV q := by
  refine cr_of (by decide) (Nat.le_of_ble_eq_true rfl) fun x S0 hn9 C M => ?_
  have C : CB x RX9 cX9_growRows := C
  refine Jr.eq (lv' := [(0, .ref (ad 23)), (1, .int p1)]) (st' := []) rfl rfl ?_
  unfold f_X9_growRows at h
  refine r_aload_n C dX9_growRows_0 rfl 0 rfl ?_
  refine r_getp (f := 909) (j := 45) C flX9_57 dX9_growRows_1 kq_23 (by decide) rfl (fun W => pt_909 kq_23 W) ?_
  refine r_getp (f := 101) (j := 48) C flX9_652 dX9_growRows_4 kq_45 (by decide) rfl (fun W => pt_101 kq_45 W) ?_
  refine r_astore_n (lv' := [(2, .ref (ad 48)), (0, .ref (ad 23)), (1, .int p1)]) C dX9_growRows_7 rfl (by rw [hn9]; decide) rfl ?_
  refine r_aload_n C dX9_growRows_8 rfl 0 rfl ?_
  show Jr _ _ _ _ _ _ 9 _
  refine r_aload_n C dX9_growRows_9 rfl 0 rfl ?_
  refine r_geti (f := 403) C flX9_672 dX9_growRows_10 kq_48 (by decide) (by decide) rfl ?_
  refine r_if_le (tgt := 25) C dX9_growRows_13 (by decide) h (fun h => ?_) (fun h => ?_)
  · refine r_iconst (v := 0) C dX9_growRows_25 (by decide) ?_
    refine Jr.sub [1, 2, 0] (lv' := [(0, .ref (ad 23)), (1, .int p1), (2, .ref (ad 48))]) rfl ?_
    exact s_X9_growRows_26 hn9 C M  p1 0 T h
  · refine r_aload_n C dX9_growRows_16 rfl 0 rfl ?_
    refine r_geti (f := 406) C flX9_681 dX9_growRows_17 kq_48 (by decide) (by decide) rfl ?_
    refine r_iload_n C dX9_growRows_20 rfl 2 rfl ?_
    refine r_iadd C dX9_growRows_21 rfl ?_
    refine r_goto (tgt := 26) C dX9_growRows_22 (by decide) ?_
    refine Jr.sub [1, 2, 0] (lv' := [(0, .ref (ad 23)), (1, .int p1), (2, .ref (ad 48))]) rfl ?_
    exact s_X9_growRows_26 hn9 C M  p1 ((gI T 406 48) + p1) T h
theorem dX4_isFull_0 : decode cX4_isFull 0 = .ok (.aload_n 0, 1) := by decide +kernel
theorem dX4_isFull_1 : decode cX4_isFull 1 = .ok (.getfield 23, 3) := by decide +kernel
theorem dX4_isFull_4 : decode cX4_isFull 4 = .ok (.ifCond .le 18, 3) := by decide +kernel
theorem dX4_isFull_7 : decode cX4_isFull 7 = .ok (.aload_n 0, 1) := by decide +kernel
theorem dX4_isFull_8 : decode cX4_isFull 8 = .ok (.getfield 33, 3) := by decide +kernel
theorem dX4_isFull_11 : decode cX4_isFull 11 = .ok (.aload_n 0, 1) := by decide +kernel
theorem dX4_isFull_12 : decode cX4_isFull 12 = .ok (.getfield 23, 3) := by decide +kernel
theorem dX4_isFull_15 : decode cX4_isFull 15 = .ok (.if_icmp .lt 7, 3) := by decide +kernel
theorem dX4_isFull_18 : decode cX4_isFull 18 = .ok (.iconst 1, 1) := by decide +kernel
theorem dX4_isFull_19 : decode cX4_isFull 19 = .ok (.goto 4, 3) := by decide +kernel
theorem dX4_isFull_22 : decode cX4_isFull 22 = .ok (.iconst 0, 1) := by decide +kernel
theorem dX4_isFull_23 : decode cX4_isFull 23 = .ok (.ireturn, 1) := by decide +kernel
noncomputable def f_X4_isFull (p0 : Nat) (T : Mm) : Option (Int32 × Mm) :=
  if (gI T 403 p0) ≤ 0 then (some (0, T))
  else (if (gI T 406 p0) < (gI T 403 p0) then (some (0, T))
  else (some (1, T)))
set_option maxRecDepth 100000 in
set_option maxHeartbeats 4000000 in
theorem s_X4_isFull {ad : Nat → Nat} {U T : Mm} {q : Int32 × Mm}  (p0 : Nat) (hk0 : kS true p0 = 4) (h : f_X4_isFull p0 T = some q) : Cr 1 yX4_isFull cX4_isFull 1 (some .boolean) [.ref (ad p0)] ad true U T eI q := by
  refine cr_of (by decide) (Nat.le_of_ble_eq_true rfl) fun x S0 hn9 C M => ?_
  have C : CB x RX4 cX4_isFull := C
  refine Jr.eq (lv' := [(0, .ref (ad p0))]) (st' := []) rfl rfl ?_
  unfold f_X4_isFull at h
  refine r_aload_n C dX4_isFull_0 rfl 0 rfl ?_
  refine r_geti (f := 403) C flX4_23 dX4_isFull_1 hk0 (by decide) (by decide) rfl ?_
  refine r_if_le (tgt := 22) C dX4_isFull_4 (by decide) h (fun h => ?_) (fun h => ?_)
  · refine r_iconst (v := 0) C dX4_isFull_22 (by decide) ?_
    exact r_zret C M dX4_isFull_23 (by decide) h
  · refine r_aload_n C dX4_isFull_7 rfl 0 rfl ?_
    refine r_geti (f := 406) C flX4_33 dX4_isFull_8 hk0 (by decide) (by decide) rfl ?_
    refine r_aload_n C dX4_isFull_11 rfl 0 rfl ?_
    refine r_geti (f := 403) C flX4_23 dX4_isFull_12 hk0 (by decide) (by decide) rfl ?_
    refine r_ic_lt (tgt := 22) C dX4_isFull_15 (by decide) h (fun h => ?_) (fun h => ?_)
    · refine r_iconst (v := 0) C dX4_isFull_22 (by decide) ?_
      exact r_zret C M dX4_isFull_23 (by decide) h
    · refine r_iconst (v := 1) C dX4_isFull_18 (by decide) ?_
      refine r_goto (tgt := 23) C dX4_isFull_19 (by decide) ?_
      exact r_zret C M dX4_isFull_23 (by decide) h
theorem dX4_put_0 : decode cX4_put 0 = .ok (.iload_n 1, 1) := by decide +kernel
theorem dX4_put_1 : decode cX4_put 1 = .ok (.istore 4, 2) := by decide +kernel
theorem dX4_put_3 : decode cX4_put 3 = .ok (.iload 4, 2) := by decide +kernel
theorem dX4_put_5 : decode cX4_put 5 = .ok (.iload_n 1, 1) := by decide +kernel
theorem dX4_put_6 : decode cX4_put 6 = .ok (.iload_n 3, 1) := by decide +kernel
theorem dX4_put_7 : decode cX4_put 7 = .ok (.iadd, 1) := by decide +kernel
theorem dX4_put_8 : decode cX4_put 8 = .ok (.if_icmp .ge 81, 3) := by decide +kernel
theorem dX4_put_11 : decode cX4_put 11 = .ok (.iload 4, 2) := by decide +kernel
theorem dX4_put_13 : decode cX4_put 13 = .ok (.bipush 80, 2) := by decide +kernel
theorem dX4_put_15 : decode cX4_put 15 = .ok (.if_icmp .ge 74, 3) := by decide +kernel
theorem dX4_put_18 : decode cX4_put 18 = .ok (.iload 4, 2) := by decide +kernel
theorem dX4_put_20 : decode cX4_put 20 = .ok (.iconst 2, 1) := by decide +kernel
theorem dX4_put_21 : decode cX4_put 21 = .ok (.ishr, 1) := by decide +kernel
theorem dX4_put_22 : decode cX4_put 22 = .ok (.istore 5, 2) := by decide +kernel
theorem dX4_put_24 : decode cX4_put 24 = .ok (.iload 4, 2) := by decide +kernel
theorem dX4_put_26 : decode cX4_put 26 = .ok (.ifCond .lt 57, 3) := by decide +kernel
theorem dX4_put_29 : decode cX4_put 29 = .ok (.iload 5, 2) := by decide +kernel
theorem dX4_put_31 : decode cX4_put 31 = .ok (.aload_n 0, 1) := by decide +kernel
theorem dX4_put_32 : decode cX4_put 32 = .ok (.getfield 9, 3) := by decide +kernel
theorem dX4_put_35 : decode cX4_put 35 = .ok (.arraylength, 1) := by decide +kernel
theorem dX4_put_36 : decode cX4_put 36 = .ok (.if_icmp .ge 47, 3) := by decide +kernel
theorem dX4_put_39 : decode cX4_put 39 = .ok (.bipush 24, 2) := by decide +kernel
theorem dX4_put_41 : decode cX4_put 41 = .ok (.bipush 8, 2) := by decide +kernel
theorem dX4_put_43 : decode cX4_put 43 = .ok (.iload 4, 2) := by decide +kernel
theorem dX4_put_45 : decode cX4_put 45 = .ok (.iconst 3, 1) := by decide +kernel
theorem dX4_put_46 : decode cX4_put 46 = .ok (.iand, 1) := by decide +kernel
theorem dX4_put_47 : decode cX4_put 47 = .ok (.imul, 1) := by decide +kernel
theorem dX4_put_48 : decode cX4_put 48 = .ok (.isub, 1) := by decide +kernel
theorem dX4_put_49 : decode cX4_put 49 = .ok (.istore 6, 2) := by decide +kernel
theorem dX4_put_51 : decode cX4_put 51 = .ok (.aload_n 0, 1) := by decide +kernel
theorem dX4_put_52 : decode cX4_put 52 = .ok (.getfield 9, 3) := by decide +kernel
theorem dX4_put_55 : decode cX4_put 55 = .ok (.iload 5, 2) := by decide +kernel
theorem dX4_put_57 : decode cX4_put 57 = .ok (.aload_n 0, 1) := by decide +kernel
theorem dX4_put_58 : decode cX4_put 58 = .ok (.getfield 9, 3) := by decide +kernel
theorem dX4_put_61 : decode cX4_put 61 = .ok (.iload 5, 2) := by decide +kernel
theorem dX4_put_63 : decode cX4_put 63 = .ok (.iaload, 1) := by decide +kernel
theorem dX4_put_64 : decode cX4_put 64 = .ok (.sipush 255, 3) := by decide +kernel
theorem dX4_put_67 : decode cX4_put 67 = .ok (.iload 6, 2) := by decide +kernel
theorem dX4_put_69 : decode cX4_put 69 = .ok (.ishl, 1) := by decide +kernel
theorem dX4_put_70 : decode cX4_put 70 = .ok (.iconst (-1), 1) := by decide +kernel
theorem dX4_put_71 : decode cX4_put 71 = .ok (.ixor, 1) := by decide +kernel
theorem dX4_put_72 : decode cX4_put 72 = .ok (.iand, 1) := by decide +kernel
theorem dX4_put_73 : decode cX4_put 73 = .ok (.iload_n 2, 1) := by decide +kernel
theorem dX4_put_74 : decode cX4_put 74 = .ok (.sipush 255, 3) := by decide +kernel
theorem dX4_put_77 : decode cX4_put 77 = .ok (.iand, 1) := by decide +kernel
theorem dX4_put_78 : decode cX4_put 78 = .ok (.iload 6, 2) := by decide +kernel
theorem dX4_put_80 : decode cX4_put 80 = .ok (.ishl, 1) := by decide +kernel
theorem dX4_put_81 : decode cX4_put 81 = .ok (.ior, 1) := by decide +kernel
theorem dX4_put_82 : decode cX4_put 82 = .ok (.iastore, 1) := by decide +kernel
theorem dX4_put_83 : decode cX4_put 83 = .ok (.iinc 4 1, 3) := by decide +kernel
theorem dX4_put_86 : decode cX4_put 86 = .ok (.goto (-83), 3) := by decide +kernel
theorem dX4_put_89 : decode cX4_put 89 = .ok (.return_, 1) := by decide +kernel
noncomputable def f_X4_put_b3 (k3 : Nat → Int32 → Int32 → Int32 → Int32 → Mm → Option (Unit × Mm)) (a0 : Nat) (a1 : Int32) (a2 : Int32) (a3 : Int32) (a4 : Int32) (T : Mm) : Option (Unit × Mm) :=
  if (a1 + a3) ≤ a4 then (some ((), T))
  else (if 80 ≤ a4 then (some ((), T))
  else (lb ((a4 >>> ((2 : Int32) &&& 31))) fun v1 =>
  if a4 < 0 then (k3 a0 a1 a2 a3 (a4 + 1) T)
  else (if 20 ≤ v1 then (k3 a0 a1 a2 a3 (a4 + 1) T)
  else (lb (((24 : Int32) - ((8 : Int32) * (a4 &&& 3)))) fun v2 =>
  ix v1 20 fun j3 =>
  ix v1 20 fun j5 => lb (uA T (a0 + 1) j5 ((((gA T (a0 + 1) j3) &&& (((255 : Int32) <<< (v2 &&& 31)) ^^^ (-1))) ||| ((a2 &&& 255) <<< (v2 &&& 31))))) fun T7 =>
  k3 a0 a1 a2 a3 (a4 + 1) T7))))
set_option maxRecDepth 100000 in
set_option maxHeartbeats 4000000 in
theorem s_X4_put_b3 {x : JX} {ad : Nat → Nat} {U : Mm} {S0 : Hp} {q : Unit × Mm}  {k3 : Nat → Int32 → Int32 → Int32 → Int32 → Mm → Option (Unit × Mm)} (hn9 : x_n x = 7) (C : CB x RX4 cX4_put) (M : CMr x 1 none S0 ad true U eV q) (hk3 : ∀ (a0 : Nat) (a1 : Int32) (a2 : Int32) (a3 : Int32) (a4 : Int32) (T : Mm) (_ : kS true a0 = 4), k3 a0 a1 a2 a3 a4 T = some q → Jr x ad true U T [(0, .ref (ad a0)), (1, .int a1), (2, .int a2), (3, .int a3), (4, .int a4)] 3 []) (a0 : Nat) (a1 : Int32) (a2 : Int32) (a3 : Int32) (a4 : Int32) (T : Mm) (ha0 : kS true a0 = 4) (h : f_X4_put_b3 k3 a0 a1 a2 a3 a4 T = some q) : Jr x ad true U T [(0, .ref (ad a0)), (1, .int a1), (2, .int a2), (3, .int a3), (4, .int a4)] 3 [] := by
  unfold f_X4_put_b3 at h
  refine r_iload C dX4_put_3 4 rfl ?_
  refine r_iload_n C dX4_put_5 rfl 1 rfl ?_
  refine r_iload_n C dX4_put_6 rfl 3 rfl ?_
  refine r_iadd C dX4_put_7 rfl ?_
  refine r_ic_ge (tgt := 89) C dX4_put_8 (by decide) h (fun h => ?_) (fun h => ?_)
  · exact r_vret C M dX4_put_89 h
  · refine r_iload C dX4_put_11 4 rfl ?_
    refine r_bipush (v := 80) C dX4_put_13 (by decide) ?_
    refine r_ic_ge (tgt := 89) C dX4_put_15 (by decide) h (fun h => ?_) (fun h => ?_)
    · exact r_vret C M dX4_put_89 h
    · refine r_iload C dX4_put_18 4 rfl ?_
      refine r_iconst (v := 2) C dX4_put_20 (by decide) ?_
      refine r_ishr C dX4_put_21 rfl ?_
      refine r_lbI h (fun v1 h => ?_)
      refine r_istore (lv' := [(5, .int v1), (0, .ref (ad a0)), (1, .int a1), (2, .int a2), (3, .int a3), (4, .int a4)]) C dX4_put_22 (by rw [hn9]; decide) rfl ?_
      refine r_iload C dX4_put_24 5 rfl ?_
      show Jr _ _ _ _ _ _ 26 _
      refine r_if_lt (tgt := 83) C dX4_put_26 (by decide) h (fun h => ?_) (fun h => ?_)
      · refine r_iinc (q := 5) (v := (a4 + 1)) (lv' := [(4, .int (a4 + 1)), (5, .int v1), (0, .ref (ad a0)), (1, .int a1), (2, .int a2), (3, .int a3)]) C dX4_put_83 rfl (by rw [show Int32.ofInt (1) = 1 by decide]) (by rw [hn9]; decide) rfl ?_
        refine r_goto (tgt := 3) C dX4_put_86 (by decide) ?_
        refine Jr.sub [2, 3, 4, 5, 0] (lv' := [(0, .ref (ad a0)), (1, .int a1), (2, .int a2), (3, .int a3), (4, .int (a4 + 1))]) rfl ?_
        exact hk3 a0 a1 a2 a3 (a4 + 1) T ha0 h
      · refine r_iload C dX4_put_29 0 rfl ?_
        refine r_aload_n C dX4_put_31 rfl 1 rfl ?_
        refine r_getp (f := 407) (j := (a0 + 1)) C flX4_9 dX4_put_32 ha0 (by decide) rfl (fun W => pt_407 ha0 W) ?_
        refine r_alen (n := 0) (v := 20) C dX4_put_35 (pk_407 ha0) (by decide) (by decide) (congrArg Int32.ofNat (pl_407 ha0)) ?_
        refine r_ic_ge (tgt := 83) C dX4_put_36 (by decide) h (fun h => ?_) (fun h => ?_)
        · refine r_iinc (q := 5) (v := (a4 + 1)) (lv' := [(4, .int (a4 + 1)), (5, .int v1), (0, .ref (ad a0)), (1, .int a1), (2, .int a2), (3, .int a3)]) C dX4_put_83 rfl (by rw [show Int32.ofInt (1) = 1 by decide]) (by rw [hn9]; decide) rfl ?_
          refine r_goto (tgt := 3) C dX4_put_86 (by decide) ?_
          refine Jr.sub [2, 3, 4, 5, 0] (lv' := [(0, .ref (ad a0)), (1, .int a1), (2, .int a2), (3, .int a3), (4, .int (a4 + 1))]) rfl ?_
          exact hk3 a0 a1 a2 a3 (a4 + 1) T ha0 h
        · refine r_bipush (v := 24) C dX4_put_39 (by decide) ?_
          refine r_bipush (v := 8) C dX4_put_41 (by decide) ?_
          refine r_iload C dX4_put_43 5 rfl ?_
          refine r_iconst (v := 3) C dX4_put_45 (by decide) ?_
          refine r_iand C dX4_put_46 rfl ?_
          show Jr _ _ _ _ _ _ 47 _
          refine r_imul C dX4_put_47 rfl ?_
          refine r_isub C dX4_put_48 rfl ?_
          refine r_lbI h (fun v2 h => ?_)
          refine r_istore (lv' := [(6, .int v2), (5, .int v1), (0, .ref (ad a0)), (1, .int a1), (2, .int a2), (3, .int a3), (4, .int a4)]) C dX4_put_49 (by rw [hn9]; decide) rfl ?_
          refine r_aload_n C dX4_put_51 rfl 2 rfl ?_
          refine r_getp (f := 407) (j := (a0 + 1)) C flX4_9 dX4_put_52 ha0 (by decide) rfl (fun W => pt_407 ha0 W) ?_
          refine r_iload C dX4_put_55 1 rfl ?_
          show Jr _ _ _ _ _ _ 57 _
          refine r_aload_n C dX4_put_57 rfl 2 rfl ?_
          refine r_getp (f := 407) (j := (a0 + 1)) C flX4_9 dX4_put_58 ha0 (by decide) rfl (fun W => pt_407 ha0 W) ?_
          refine r_iload C dX4_put_61 1 rfl ?_
          refine r_iald (n := 20) C dX4_put_63 (pk_407 ha0) (pl_407 ha0) h (fun j3 hj4 h => ?_)
          refine r_sipush (v := 255) C dX4_put_64 (by decide) ?_
          refine r_iload C dX4_put_67 0 rfl ?_
          show Jr _ _ _ _ _ _ 69 _
          refine r_ishl C dX4_put_69 rfl ?_
          refine r_iconst (v := (-1)) C dX4_put_70 (by decide) ?_
          refine r_ixor C dX4_put_71 rfl ?_
          refine r_iand C dX4_put_72 rfl ?_
          refine r_iload_n C dX4_put_73 rfl 4 rfl ?_
          refine r_sipush (v := 255) C dX4_put_74 (by decide) ?_
          show Jr _ _ _ _ _ _ 77 _
          refine r_iand C dX4_put_77 rfl ?_
          refine r_iload C dX4_put_78 0 rfl ?_
          refine r_ishl C dX4_put_80 rfl ?_
          refine r_ior C dX4_put_81 rfl ?_
          refine r_iast (n := 20) C dX4_put_82 (pk_407 ha0) (pl_407 ha0) h (fun j5 T7 hj6 h => ?_)
          refine r_iinc (q := 6) (v := (a4 + 1)) (lv' := [(4, .int (a4 + 1)), (6, .int v2), (5, .int v1), (0, .ref (ad a0)), (1, .int a1), (2, .int a2), (3, .int a3)]) C dX4_put_83 rfl (by rw [show Int32.ofInt (1) = 1 by decide]) (by rw [hn9]; decide) rfl ?_
          show Jr _ _ _ _ _ _ 86 _
          refine r_goto (tgt := 3) C dX4_put_86 (by decide) ?_
          refine Jr.sub [3, 4, 5, 6, 0] (lv' := [(0, .ref (ad a0)), (1, .int a1), (2, .int a2), (3, .int a3), (4, .int (a4 + 1))]) rfl ?_
          exact hk3 a0 a1 a2 a3 (a4 + 1) T7 ha0 h
noncomputable def f_X4_put_l3 (n : Nat) : Nat → Int32 → Int32 → Int32 → Int32 → Mm → Option (Unit × Mm) := Nat.rec (fun _ _ _ _ _ _ => none) (fun _ ih => f_X4_put_b3 ih) n
theorem s_X4_put_l3 {x : JX} {ad : Nat → Nat} {U : Mm} {S0 : Hp} {q : Unit × Mm}  (hn9 : x_n x = 7) (C : CB x RX4 cX4_put) (M : CMr x 1 none S0 ad true U eV q) : ∀ (n : Nat), ∀ (a0 : Nat) (a1 : Int32) (a2 : Int32) (a3 : Int32) (a4 : Int32) (T : Mm) (_ : kS true a0 = 4), f_X4_put_l3  n a0 a1 a2 a3 a4 T = some q → Jr x ad true U T [(0, .ref (ad a0)), (1, .int a1), (2, .int a2), (3, .int a3), (4, .int a4)] 3 [] := by
  intro n
  induction n with
  | zero => intro a0 a1 a2 a3 a4 T _ h; exact absurd h (by intro h; cases h)
  | succ n ih => exact fun a0 a1 a2 a3 a4 T ha0 h => s_X4_put_b3 hn9 C M (ih) a0 a1 a2 a3 a4 T ha0 h
noncomputable def f_X4_put (p0 : Nat) (p1 : Int32) (p2 : Int32) (p3 : Int32) (T : Mm) : Option (Unit × Mm) :=
  f_X4_put_l3 FU p0 p1 p2 p3 p1 T
set_option maxRecDepth 100000 in
set_option maxHeartbeats 4000000 in
theorem s_X4_put {ad : Nat → Nat} {U T : Mm} {q : Unit × Mm}  (p0 : Nat) (p1 : Int32) (p2 : Int32) (p3 : Int32) (hk0 : kS true p0 = 4) (h : f_X4_put p0 p1 p2 p3 T = some q) : Cr 1 yX4_put cX4_put 7 none [.ref (ad p0), .int p1, .int p2, .int p3] ad true U T eV q := by
  refine cr_of (by decide) (Nat.le_of_ble_eq_true rfl) fun x S0 hn9 C M => ?_
  have C : CB x RX4 cX4_put := C
  refine Jr.eq (lv' := [(0, .ref (ad p0)), (1, .int p1), (2, .int p2), (3, .int p3)]) (st' := []) rfl rfl ?_
  unfold f_X4_put at h
  refine r_iload_n C dX4_put_0 rfl 1 rfl ?_
  refine r_istore (lv' := [(4, .int p1), (0, .ref (ad p0)), (1, .int p1), (2, .int p2), (3, .int p3)]) C dX4_put_1 (by rw [hn9]; decide) rfl ?_
  refine Jr.sub [1, 2, 3, 4, 0] (lv' := [(0, .ref (ad p0)), (1, .int p1), (2, .int p2), (3, .int p3), (4, .int p1)]) rfl ?_
  exact s_X4_put_l3 hn9 C M  FU p0 p1 p2 p3 p1 T hk0 h
theorem dX4_unpackPairs_0 : decode cX4_unpackPairs 0 = .ok (.iconst 0, 1) := by decide +kernel
theorem dX4_unpackPairs_1 : decode cX4_unpackPairs 1 = .ok (.istore_n 2, 1) := by decide +kernel
theorem dX4_unpackPairs_2 : decode cX4_unpackPairs 2 = .ok (.iconst 0, 1) := by decide +kernel
theorem dX4_unpackPairs_3 : decode cX4_unpackPairs 3 = .ok (.istore_n 3, 1) := by decide +kernel
theorem dX4_unpackPairs_4 : decode cX4_unpackPairs 4 = .ok (.iload_n 3, 1) := by decide +kernel
theorem dX4_unpackPairs_5 : decode cX4_unpackPairs 5 = .ok (.iconst 1, 1) := by decide +kernel
theorem dX4_unpackPairs_6 : decode cX4_unpackPairs 6 = .ok (.iadd, 1) := by decide +kernel
theorem dX4_unpackPairs_7 : decode cX4_unpackPairs 7 = .ok (.aload_n 1, 1) := by decide +kernel
theorem dX4_unpackPairs_8 : decode cX4_unpackPairs 8 = .ok (.getfield 71, 3) := by decide +kernel
theorem dX4_unpackPairs_11 : decode cX4_unpackPairs 11 = .ok (.if_icmp .ge 37, 3) := by decide +kernel
theorem dX4_unpackPairs_14 : decode cX4_unpackPairs 14 = .ok (.aload_n 1, 1) := by decide +kernel
theorem dX4_unpackPairs_15 : decode cX4_unpackPairs 15 = .ok (.iload_n 3, 1) := by decide +kernel
theorem dX4_unpackPairs_16 : decode cX4_unpackPairs 16 = .ok (.invokevirtual 76, 3) := by decide +kernel
theorem dX4_unpackPairs_19 : decode cX4_unpackPairs 19 = .ok (.iconst 1, 1) := by decide +kernel
theorem dX4_unpackPairs_20 : decode cX4_unpackPairs 20 = .ok (.iadd, 1) := by decide +kernel
theorem dX4_unpackPairs_21 : decode cX4_unpackPairs 21 = .ok (.istore 4, 2) := by decide +kernel
theorem dX4_unpackPairs_23 : decode cX4_unpackPairs 23 = .ok (.aload_n 0, 1) := by decide +kernel
theorem dX4_unpackPairs_24 : decode cX4_unpackPairs 24 = .ok (.iload_n 2, 1) := by decide +kernel
theorem dX4_unpackPairs_25 : decode cX4_unpackPairs 25 = .ok (.aload_n 1, 1) := by decide +kernel
theorem dX4_unpackPairs_26 : decode cX4_unpackPairs 26 = .ok (.iload_n 3, 1) := by decide +kernel
theorem dX4_unpackPairs_27 : decode cX4_unpackPairs 27 = .ok (.iconst 1, 1) := by decide +kernel
theorem dX4_unpackPairs_28 : decode cX4_unpackPairs 28 = .ok (.iadd, 1) := by decide +kernel
theorem dX4_unpackPairs_29 : decode cX4_unpackPairs 29 = .ok (.invokevirtual 76, 3) := by decide +kernel
theorem dX4_unpackPairs_32 : decode cX4_unpackPairs 32 = .ok (.iload 4, 2) := by decide +kernel
theorem dX4_unpackPairs_34 : decode cX4_unpackPairs 34 = .ok (.invokevirtual 80, 3) := by decide +kernel
theorem dX4_unpackPairs_37 : decode cX4_unpackPairs 37 = .ok (.iload_n 2, 1) := by decide +kernel
theorem dX4_unpackPairs_38 : decode cX4_unpackPairs 38 = .ok (.iload 4, 2) := by decide +kernel
theorem dX4_unpackPairs_40 : decode cX4_unpackPairs 40 = .ok (.iadd, 1) := by decide +kernel
theorem dX4_unpackPairs_41 : decode cX4_unpackPairs 41 = .ok (.istore_n 2, 1) := by decide +kernel
theorem dX4_unpackPairs_42 : decode cX4_unpackPairs 42 = .ok (.iinc 3 2, 3) := by decide +kernel
theorem dX4_unpackPairs_45 : decode cX4_unpackPairs 45 = .ok (.goto (-41), 3) := by decide +kernel
theorem dX4_unpackPairs_48 : decode cX4_unpackPairs 48 = .ok (.return_, 1) := by decide +kernel
noncomputable def f_X4_unpackPairs_b4 (k4 : Nat → Nat → Int32 → Int32 → Mm → Option (Unit × Mm)) (a0 : Nat) (a1 : Nat) (a2 : Int32) (a3 : Int32) (T : Mm) : Option (Unit × Mm) :=
  if (gI T 512 a1) ≤ (a3 + 1) then (some ((), T))
  else (bd (f_X5_dataByte a1 a3 T) fun v1 T2 =>
  lb ((v1 + 1)) fun v3 =>
  bd (f_X5_dataByte a1 (a3 + 1) T2) fun v4 T5 =>
  bd (f_X4_put a0 a2 v4 v3 T5) fun _ T6 =>
  lb ((a2 + v3)) fun v7 =>
  k4 a0 a1 v7 (a3 + 2) T6)
set_option maxRecDepth 100000 in
set_option maxHeartbeats 4000000 in
theorem s_X4_unpackPairs_b4 {x : JX} {ad : Nat → Nat} {U : Mm} {S0 : Hp} {q : Unit × Mm}  {k4 : Nat → Nat → Int32 → Int32 → Mm → Option (Unit × Mm)} (hn9 : x_n x = 5) (C : CB x RX4 cX4_unpackPairs) (M : CMr x 2 none S0 ad true U eV q) (hk4 : ∀ (a0 : Nat) (a1 : Nat) (a2 : Int32) (a3 : Int32) (T : Mm) (_ : kS true a0 = 4) (_ : kS true a1 = 5), k4 a0 a1 a2 a3 T = some q → Jr x ad true U T [(0, .ref (ad a0)), (1, .ref (ad a1)), (2, .int a2), (3, .int a3)] 4 []) (a0 : Nat) (a1 : Nat) (a2 : Int32) (a3 : Int32) (T : Mm) (ha0 : kS true a0 = 4) (ha1 : kS true a1 = 5) (h : f_X4_unpackPairs_b4 k4 a0 a1 a2 a3 T = some q) : Jr x ad true U T [(0, .ref (ad a0)), (1, .ref (ad a1)), (2, .int a2), (3, .int a3)] 4 [] := by
  unfold f_X4_unpackPairs_b4 at h
  refine r_iload_n C dX4_unpackPairs_4 rfl 3 rfl ?_
  refine r_iconst (v := 1) C dX4_unpackPairs_5 (by decide) ?_
  refine r_iadd C dX4_unpackPairs_6 rfl ?_
  refine r_aload_n C dX4_unpackPairs_7 rfl 1 rfl ?_
  refine r_geti (f := 512) C flX4_71 dX4_unpackPairs_8 ha1 (by decide) (by decide) rfl ?_
  show Jr _ _ _ _ _ _ 11 _
  refine r_ic_ge (tgt := 48) C dX4_unpackPairs_11 (by decide) h (fun h => ?_) (fun h => ?_)
  · exact r_vret C M dX4_unpackPairs_48 h
  · refine r_aload_n C dX4_unpackPairs_14 rfl 1 rfl ?_
    refine r_iload_n C dX4_unpackPairs_15 rfl 3 rfl ?_
    refine r_callVI C M h [.int a3] [] mlX4_76 mcX5_dataByte (fun q9 e9 => s_X5_dataByte a1 a3 ha1 e9) ha1 rfl (by decide) (by decide) rfl rfl (Nat.le_of_ble_eq_true rfl) dX4_unpackPairs_16 (fun v1 T2 h => ?_)
    refine r_iconst (v := 1) C dX4_unpackPairs_19 (by decide) ?_
    refine r_iadd C dX4_unpackPairs_20 rfl ?_
    show Jr _ _ _ _ _ _ 21 _
    refine r_lbI h (fun v3 h => ?_)
    refine r_istore (lv' := [(4, .int v3), (0, .ref (ad a0)), (1, .ref (ad a1)), (2, .int a2), (3, .int a3)]) C dX4_unpackPairs_21 (by rw [hn9]; decide) rfl ?_
    refine r_aload_n C dX4_unpackPairs_23 rfl 1 rfl ?_
    refine r_iload_n C dX4_unpackPairs_24 rfl 3 rfl ?_
    refine r_aload_n C dX4_unpackPairs_25 rfl 2 rfl ?_
    refine r_iload_n C dX4_unpackPairs_26 rfl 4 rfl ?_
    refine r_iconst (v := 1) C dX4_unpackPairs_27 (by decide) ?_
    show Jr _ _ _ _ _ _ 28 _
    refine r_iadd C dX4_unpackPairs_28 rfl ?_
    refine r_callVI C M h [.int (a3 + 1)] [.int a2, .ref (ad a0)] mlX4_76 mcX5_dataByte (fun q9 e9 => s_X5_dataByte a1 (a3 + 1) ha1 e9) ha1 rfl (by decide) (by decide) rfl rfl (Nat.le_of_ble_eq_true rfl) dX4_unpackPairs_29 (fun v4 T5 h => ?_)
    refine r_iload C dX4_unpackPairs_32 0 rfl ?_
    refine r_callVN C M h [.int a2, .int v4, .int v3] [] mlX4_80 mcX4_put (fun q9 e9 => s_X4_put a0 a2 v4 v3 ha0 e9) ha0 rfl (by decide) (by decide) rfl rfl (Nat.le_of_ble_eq_true rfl) dX4_unpackPairs_34 (fun _ T6 h => ?_)
    refine r_iload_n C dX4_unpackPairs_37 rfl 3 rfl ?_
    refine r_iload C dX4_unpackPairs_38 0 rfl ?_
    show Jr _ _ _ _ _ _ 40 _
    refine r_iadd C dX4_unpackPairs_40 rfl ?_
    refine r_lbI h (fun v7 h => ?_)
    refine r_istore_n (lv' := [(2, .int v7), (4, .int v3), (0, .ref (ad a0)), (1, .ref (ad a1)), (3, .int a3)]) C dX4_unpackPairs_41 rfl (by rw [hn9]; decide) rfl ?_
    refine r_iinc (q := 4) (v := (a3 + 2)) (lv' := [(3, .int (a3 + 2)), (2, .int v7), (4, .int v3), (0, .ref (ad a0)), (1, .ref (ad a1))]) C dX4_unpackPairs_42 rfl (by rw [show Int32.ofInt (2) = 2 by decide]) (by rw [hn9]; decide) rfl ?_
    refine r_goto (tgt := 4) C dX4_unpackPairs_45 (by decide) ?_
    refine Jr.sub [3, 4, 1, 0] (lv' := [(0, .ref (ad a0)), (1, .ref (ad a1)), (2, .int v7), (3, .int (a3 + 2))]) rfl ?_
    exact hk4 a0 a1 v7 (a3 + 2) T6 ha0 ha1 h
noncomputable def f_X4_unpackPairs_l4 (n : Nat) : Nat → Nat → Int32 → Int32 → Mm → Option (Unit × Mm) := Nat.rec (fun _ _ _ _ _ => none) (fun _ ih => f_X4_unpackPairs_b4 ih) n
theorem s_X4_unpackPairs_l4 {x : JX} {ad : Nat → Nat} {U : Mm} {S0 : Hp} {q : Unit × Mm}  (hn9 : x_n x = 5) (C : CB x RX4 cX4_unpackPairs) (M : CMr x 2 none S0 ad true U eV q) : ∀ (n : Nat), ∀ (a0 : Nat) (a1 : Nat) (a2 : Int32) (a3 : Int32) (T : Mm) (_ : kS true a0 = 4) (_ : kS true a1 = 5), f_X4_unpackPairs_l4  n a0 a1 a2 a3 T = some q → Jr x ad true U T [(0, .ref (ad a0)), (1, .ref (ad a1)), (2, .int a2), (3, .int a3)] 4 [] := by
  intro n
  induction n with
  | zero => intro a0 a1 a2 a3 T _ _ h; exact absurd h (by intro h; cases h)
  | succ n ih => exact fun a0 a1 a2 a3 T ha0 ha1 h => s_X4_unpackPairs_b4 hn9 C M (ih) a0 a1 a2 a3 T ha0 ha1 h
noncomputable def f_X4_unpackPairs (p0 : Nat) (p1 : Nat) (T : Mm) : Option (Unit × Mm) :=
  f_X4_unpackPairs_l4 FU p0 p1 0 0 T
set_option maxRecDepth 100000 in
set_option maxHeartbeats 4000000 in
theorem s_X4_unpackPairs {ad : Nat → Nat} {U T : Mm} {q : Unit × Mm}  (p0 : Nat) (p1 : Nat) (hk0 : kS true p0 = 4) (hk1 : kS true p1 = 5) (h : f_X4_unpackPairs p0 p1 T = some q) : Cr 2 yX4_unpackPairs cX4_unpackPairs 5 none [.ref (ad p0), .ref (ad p1)] ad true U T eV q := by
  refine cr_of (by decide) (Nat.le_of_ble_eq_true rfl) fun x S0 hn9 C M => ?_
  have C : CB x RX4 cX4_unpackPairs := C
  refine Jr.eq (lv' := [(0, .ref (ad p0)), (1, .ref (ad p1))]) (st' := []) rfl rfl ?_
  unfold f_X4_unpackPairs at h
  refine r_iconst (v := 0) C dX4_unpackPairs_0 (by decide) ?_
  refine r_istore_n (lv' := [(2, .int 0), (0, .ref (ad p0)), (1, .ref (ad p1))]) C dX4_unpackPairs_1 rfl (by rw [hn9]; decide) rfl ?_
  refine r_iconst (v := 0) C dX4_unpackPairs_2 (by decide) ?_
  refine r_istore_n (lv' := [(3, .int 0), (2, .int 0), (0, .ref (ad p0)), (1, .ref (ad p1))]) C dX4_unpackPairs_3 rfl (by rw [hn9]; decide) rfl ?_
  refine Jr.sub [2, 3, 1, 0] (lv' := [(0, .ref (ad p0)), (1, .ref (ad p1)), (2, .int 0), (3, .int 0)]) rfl ?_
  exact s_X4_unpackPairs_l4 hn9 C M  FU p0 p1 0 0 T hk0 hk1 h
theorem dX4_unpackMixed_0 : decode cX4_unpackMixed 0 = .ok (.iconst 0, 1) := by decide +kernel
theorem dX4_unpackMixed_1 : decode cX4_unpackMixed 1 = .ok (.istore_n 2, 1) := by decide +kernel
theorem dX4_unpackMixed_2 : decode cX4_unpackMixed 2 = .ok (.iconst 0, 1) := by decide +kernel
theorem dX4_unpackMixed_3 : decode cX4_unpackMixed 3 = .ok (.istore_n 3, 1) := by decide +kernel
theorem dX4_unpackMixed_4 : decode cX4_unpackMixed 4 = .ok (.iload_n 3, 1) := by decide +kernel
theorem dX4_unpackMixed_5 : decode cX4_unpackMixed 5 = .ok (.aload_n 1, 1) := by decide +kernel
theorem dX4_unpackMixed_6 : decode cX4_unpackMixed 6 = .ok (.getfield 71, 3) := by decide +kernel
theorem dX4_unpackMixed_9 : decode cX4_unpackMixed 9 = .ok (.if_icmp .ge 115, 3) := by decide +kernel
theorem dX4_unpackMixed_12 : decode cX4_unpackMixed 12 = .ok (.aload_n 1, 1) := by decide +kernel
theorem dX4_unpackMixed_13 : decode cX4_unpackMixed 13 = .ok (.iload_n 3, 1) := by decide +kernel
theorem dX4_unpackMixed_14 : decode cX4_unpackMixed 14 = .ok (.invokevirtual 76, 3) := by decide +kernel
theorem dX4_unpackMixed_17 : decode cX4_unpackMixed 17 = .ok (.istore 4, 2) := by decide +kernel
theorem dX4_unpackMixed_19 : decode cX4_unpackMixed 19 = .ok (.iload 4, 2) := by decide +kernel
theorem dX4_unpackMixed_21 : decode cX4_unpackMixed 21 = .ok (.sipush 128, 3) := by decide +kernel
theorem dX4_unpackMixed_24 : decode cX4_unpackMixed 24 = .ok (.if_icmp .ge 48, 3) := by decide +kernel
theorem dX4_unpackMixed_27 : decode cX4_unpackMixed 27 = .ok (.iload 4, 2) := by decide +kernel
theorem dX4_unpackMixed_29 : decode cX4_unpackMixed 29 = .ok (.istore 5, 2) := by decide +kernel
theorem dX4_unpackMixed_31 : decode cX4_unpackMixed 31 = .ok (.iload 5, 2) := by decide +kernel
theorem dX4_unpackMixed_33 : decode cX4_unpackMixed 33 = .ok (.ifCond .lt 36, 3) := by decide +kernel
theorem dX4_unpackMixed_36 : decode cX4_unpackMixed 36 = .ok (.iload_n 3, 1) := by decide +kernel
theorem dX4_unpackMixed_37 : decode cX4_unpackMixed 37 = .ok (.iconst 1, 1) := by decide +kernel
theorem dX4_unpackMixed_38 : decode cX4_unpackMixed 38 = .ok (.iadd, 1) := by decide +kernel
theorem dX4_unpackMixed_39 : decode cX4_unpackMixed 39 = .ok (.aload_n 1, 1) := by decide +kernel
theorem dX4_unpackMixed_40 : decode cX4_unpackMixed 40 = .ok (.getfield 71, 3) := by decide +kernel
theorem dX4_unpackMixed_43 : decode cX4_unpackMixed 43 = .ok (.if_icmp .ge 26, 3) := by decide +kernel
theorem dX4_unpackMixed_46 : decode cX4_unpackMixed 46 = .ok (.iinc 3 1, 3) := by decide +kernel
theorem dX4_unpackMixed_49 : decode cX4_unpackMixed 49 = .ok (.aload_n 0, 1) := by decide +kernel
theorem dX4_unpackMixed_50 : decode cX4_unpackMixed 50 = .ok (.iload_n 2, 1) := by decide +kernel
theorem dX4_unpackMixed_51 : decode cX4_unpackMixed 51 = .ok (.aload_n 1, 1) := by decide +kernel
theorem dX4_unpackMixed_52 : decode cX4_unpackMixed 52 = .ok (.iload_n 3, 1) := by decide +kernel
theorem dX4_unpackMixed_53 : decode cX4_unpackMixed 53 = .ok (.invokevirtual 76, 3) := by decide +kernel
theorem dX4_unpackMixed_56 : decode cX4_unpackMixed 56 = .ok (.iconst 1, 1) := by decide +kernel
theorem dX4_unpackMixed_57 : decode cX4_unpackMixed 57 = .ok (.invokevirtual 80, 3) := by decide +kernel
theorem dX4_unpackMixed_60 : decode cX4_unpackMixed 60 = .ok (.iinc 2 1, 3) := by decide +kernel
theorem dX4_unpackMixed_63 : decode cX4_unpackMixed 63 = .ok (.iinc 5 (-1), 3) := by decide +kernel
theorem dX4_unpackMixed_66 : decode cX4_unpackMixed 66 = .ok (.goto (-35), 3) := by decide +kernel
theorem dX4_unpackMixed_69 : decode cX4_unpackMixed 69 = .ok (.goto 49, 3) := by decide +kernel
theorem dX4_unpackMixed_72 : decode cX4_unpackMixed 72 = .ok (.iload 4, 2) := by decide +kernel
theorem dX4_unpackMixed_74 : decode cX4_unpackMixed 74 = .ok (.sipush 128, 3) := by decide +kernel
theorem dX4_unpackMixed_77 : decode cX4_unpackMixed 77 = .ok (.if_icmp .le 41, 3) := by decide +kernel
theorem dX4_unpackMixed_80 : decode cX4_unpackMixed 80 = .ok (.iload_n 3, 1) := by decide +kernel
theorem dX4_unpackMixed_81 : decode cX4_unpackMixed 81 = .ok (.iconst 1, 1) := by decide +kernel
theorem dX4_unpackMixed_82 : decode cX4_unpackMixed 82 = .ok (.iadd, 1) := by decide +kernel
theorem dX4_unpackMixed_83 : decode cX4_unpackMixed 83 = .ok (.aload_n 1, 1) := by decide +kernel
theorem dX4_unpackMixed_84 : decode cX4_unpackMixed 84 = .ok (.getfield 71, 3) := by decide +kernel
theorem dX4_unpackMixed_87 : decode cX4_unpackMixed 87 = .ok (.if_icmp .ge 31, 3) := by decide +kernel
theorem dX4_unpackMixed_90 : decode cX4_unpackMixed 90 = .ok (.iinc 3 1, 3) := by decide +kernel
theorem dX4_unpackMixed_93 : decode cX4_unpackMixed 93 = .ok (.aload_n 0, 1) := by decide +kernel
theorem dX4_unpackMixed_94 : decode cX4_unpackMixed 94 = .ok (.iload_n 2, 1) := by decide +kernel
theorem dX4_unpackMixed_95 : decode cX4_unpackMixed 95 = .ok (.aload_n 1, 1) := by decide +kernel
theorem dX4_unpackMixed_96 : decode cX4_unpackMixed 96 = .ok (.iload_n 3, 1) := by decide +kernel
theorem dX4_unpackMixed_97 : decode cX4_unpackMixed 97 = .ok (.invokevirtual 76, 3) := by decide +kernel
theorem dX4_unpackMixed_100 : decode cX4_unpackMixed 100 = .ok (.sipush 257, 3) := by decide +kernel
theorem dX4_unpackMixed_103 : decode cX4_unpackMixed 103 = .ok (.iload 4, 2) := by decide +kernel
theorem dX4_unpackMixed_105 : decode cX4_unpackMixed 105 = .ok (.isub, 1) := by decide +kernel
theorem dX4_unpackMixed_106 : decode cX4_unpackMixed 106 = .ok (.invokevirtual 80, 3) := by decide +kernel
theorem dX4_unpackMixed_109 : decode cX4_unpackMixed 109 = .ok (.iload_n 2, 1) := by decide +kernel
theorem dX4_unpackMixed_110 : decode cX4_unpackMixed 110 = .ok (.sipush 257, 3) := by decide +kernel
theorem dX4_unpackMixed_113 : decode cX4_unpackMixed 113 = .ok (.iload 4, 2) := by decide +kernel
theorem dX4_unpackMixed_115 : decode cX4_unpackMixed 115 = .ok (.isub, 1) := by decide +kernel
theorem dX4_unpackMixed_116 : decode cX4_unpackMixed 116 = .ok (.iadd, 1) := by decide +kernel
theorem dX4_unpackMixed_117 : decode cX4_unpackMixed 117 = .ok (.istore_n 2, 1) := by decide +kernel
theorem dX4_unpackMixed_118 : decode cX4_unpackMixed 118 = .ok (.iinc 3 1, 3) := by decide +kernel
theorem dX4_unpackMixed_121 : decode cX4_unpackMixed 121 = .ok (.goto (-117), 3) := by decide +kernel
theorem dX4_unpackMixed_124 : decode cX4_unpackMixed 124 = .ok (.return_, 1) := by decide +kernel
noncomputable def f_X4_unpackMixed_b31 (k4 : Nat → Nat → Int32 → Int32 → Mm → Option (Unit × Mm)) (k31 : Nat → Nat → Int32 → Int32 → Int32 → Mm → Option (Unit × Mm)) (a0 : Nat) (a1 : Nat) (a2 : Int32) (a3 : Int32) (a5 : Int32) (T : Mm) : Option (Unit × Mm) :=
  if a5 < 0 then (k4 a0 a1 a2 (a3 + 1) T)
  else (if (gI T 512 a1) ≤ (a3 + 1) then (k4 a0 a1 a2 (a3 + 1) T)
  else (bd (f_X5_dataByte a1 (a3 + 1) T) fun v1 T2 =>
  bd (f_X4_put a0 a2 v1 1 T2) fun _ T3 =>
  k31 a0 a1 (a2 + 1) (a3 + 1) (a5 + (-1)) T3))
set_option maxRecDepth 100000 in
set_option maxHeartbeats 4000000 in
theorem s_X4_unpackMixed_b31 {x : JX} {ad : Nat → Nat} {U : Mm} {S0 : Hp} {q : Unit × Mm}  {k4 : Nat → Nat → Int32 → Int32 → Mm → Option (Unit × Mm)} {k31 : Nat → Nat → Int32 → Int32 → Int32 → Mm → Option (Unit × Mm)} (hn9 : x_n x = 6) (C : CB x RX4 cX4_unpackMixed) (M : CMr x 2 none S0 ad true U eV q) (hk4 : ∀ (a0 : Nat) (a1 : Nat) (a2 : Int32) (a3 : Int32) (T : Mm) (_ : kS true a0 = 4) (_ : kS true a1 = 5), k4 a0 a1 a2 a3 T = some q → Jr x ad true U T [(0, .ref (ad a0)), (1, .ref (ad a1)), (2, .int a2), (3, .int a3)] 4 []) (hk31 : ∀ (a0 : Nat) (a1 : Nat) (a2 : Int32) (a3 : Int32) (a5 : Int32) (T : Mm) (_ : kS true a0 = 4) (_ : kS true a1 = 5), k31 a0 a1 a2 a3 a5 T = some q → Jr x ad true U T [(0, .ref (ad a0)), (1, .ref (ad a1)), (2, .int a2), (3, .int a3), (5, .int a5)] 31 []) (a0 : Nat) (a1 : Nat) (a2 : Int32) (a3 : Int32) (a5 : Int32) (T : Mm) (ha0 : kS true a0 = 4) (ha1 : kS true a1 = 5) (h : f_X4_unpackMixed_b31 k4 k31 a0 a1 a2 a3 a5 T = some q) : Jr x ad true U T [(0, .ref (ad a0)), (1, .ref (ad a1)), (2, .int a2), (3, .int a3), (5, .int a5)] 31 [] := by
  unfold f_X4_unpackMixed_b31 at h
  refine r_iload C dX4_unpackMixed_31 4 rfl ?_
  refine r_if_lt (tgt := 69) C dX4_unpackMixed_33 (by decide) h (fun h => ?_) (fun h => ?_)
  · refine r_goto (tgt := 118) C dX4_unpackMixed_69 (by decide) ?_
    refine r_iinc (q := 3) (v := (a3 + 1)) (lv' := [(3, .int (a3 + 1)), (0, .ref (ad a0)), (1, .ref (ad a1)), (2, .int a2), (5, .int a5)]) C dX4_unpackMixed_118 rfl (by rw [show Int32.ofInt (1) = 1 by decide]) (by rw [hn9]; decide) rfl ?_
    refine r_goto (tgt := 4) C dX4_unpackMixed_121 (by decide) ?_
    refine Jr.sub [1, 2, 3, 0] (lv' := [(0, .ref (ad a0)), (1, .ref (ad a1)), (2, .int a2), (3, .int (a3 + 1))]) rfl ?_
    exact hk4 a0 a1 a2 (a3 + 1) T ha0 ha1 h
  · refine r_iload_n C dX4_unpackMixed_36 rfl 3 rfl ?_
    refine r_iconst (v := 1) C dX4_unpackMixed_37 (by decide) ?_
    refine r_iadd C dX4_unpackMixed_38 rfl ?_
    refine r_aload_n C dX4_unpackMixed_39 rfl 1 rfl ?_
    refine r_geti (f := 512) C flX4_71 dX4_unpackMixed_40 ha1 (by decide) (by decide) rfl ?_
    show Jr _ _ _ _ _ _ 43 _
    refine r_ic_ge (tgt := 69) C dX4_unpackMixed_43 (by decide) h (fun h => ?_) (fun h => ?_)
    · refine r_goto (tgt := 118) C dX4_unpackMixed_69 (by decide) ?_
      refine r_iinc (q := 3) (v := (a3 + 1)) (lv' := [(3, .int (a3 + 1)), (0, .ref (ad a0)), (1, .ref (ad a1)), (2, .int a2), (5, .int a5)]) C dX4_unpackMixed_118 rfl (by rw [show Int32.ofInt (1) = 1 by decide]) (by rw [hn9]; decide) rfl ?_
      refine r_goto (tgt := 4) C dX4_unpackMixed_121 (by decide) ?_
      refine Jr.sub [1, 2, 3, 0] (lv' := [(0, .ref (ad a0)), (1, .ref (ad a1)), (2, .int a2), (3, .int (a3 + 1))]) rfl ?_
      exact hk4 a0 a1 a2 (a3 + 1) T ha0 ha1 h
    · refine r_iinc (q := 3) (v := (a3 + 1)) (lv' := [(3, .int (a3 + 1)), (0, .ref (ad a0)), (1, .ref (ad a1)), (2, .int a2), (5, .int a5)]) C dX4_unpackMixed_46 rfl (by rw [show Int32.ofInt (1) = 1 by decide]) (by rw [hn9]; decide) rfl ?_
      refine r_aload_n C dX4_unpackMixed_49 rfl 1 rfl ?_
      refine r_iload_n C dX4_unpackMixed_50 rfl 3 rfl ?_
      refine r_aload_n C dX4_unpackMixed_51 rfl 2 rfl ?_
      refine r_iload_n C dX4_unpackMixed_52 rfl 0 rfl ?_
      show Jr _ _ _ _ _ _ 53 _
      refine r_callVI C M h [.int (a3 + 1)] [.int a2, .ref (ad a0)] mlX4_76 mcX5_dataByte (fun q9 e9 => s_X5_dataByte a1 (a3 + 1) ha1 e9) ha1 rfl (by decide) (by decide) rfl rfl (Nat.le_of_ble_eq_true rfl) dX4_unpackMixed_53 (fun v1 T2 h => ?_)
      refine r_iconst (v := 1) C dX4_unpackMixed_56 (by decide) ?_
      refine r_callVN C M h [.int a2, .int v1, .int 1] [] mlX4_80 mcX4_put (fun q9 e9 => s_X4_put a0 a2 v1 1 ha0 e9) ha0 rfl (by decide) (by decide) rfl rfl (Nat.le_of_ble_eq_true rfl) dX4_unpackMixed_57 (fun _ T3 h => ?_)
      refine r_iinc (q := 3) (v := (a2 + 1)) (lv' := [(2, .int (a2 + 1)), (3, .int (a3 + 1)), (0, .ref (ad a0)), (1, .ref (ad a1)), (5, .int a5)]) C dX4_unpackMixed_60 rfl (by rw [show Int32.ofInt (1) = 1 by decide]) (by rw [hn9]; decide) rfl ?_
      refine r_iinc (q := 4) (v := (a5 + (-1))) (lv' := [(5, .int (a5 + (-1))), (2, .int (a2 + 1)), (3, .int (a3 + 1)), (0, .ref (ad a0)), (1, .ref (ad a1))]) C dX4_unpackMixed_63 rfl (by rw [show Int32.ofInt (-1) = (-1) by decide]) (by rw [hn9]; decide) rfl ?_
      refine r_goto (tgt := 31) C dX4_unpackMixed_66 (by decide) ?_
      refine Jr.sub [3, 4, 1, 2, 0] (lv' := [(0, .ref (ad a0)), (1, .ref (ad a1)), (2, .int (a2 + 1)), (3, .int (a3 + 1)), (5, .int (a5 + (-1)))]) rfl ?_
      exact hk31 a0 a1 (a2 + 1) (a3 + 1) (a5 + (-1)) T3 ha0 ha1 h
noncomputable def f_X4_unpackMixed_l31 (k4 : Nat → Nat → Int32 → Int32 → Mm → Option (Unit × Mm)) (n : Nat) : Nat → Nat → Int32 → Int32 → Int32 → Mm → Option (Unit × Mm) := Nat.rec (fun _ _ _ _ _ _ => none) (fun _ ih => f_X4_unpackMixed_b31 k4 ih) n
theorem s_X4_unpackMixed_l31 {x : JX} {ad : Nat → Nat} {U : Mm} {S0 : Hp} {q : Unit × Mm}  {k4 : Nat → Nat → Int32 → Int32 → Mm → Option (Unit × Mm)} (hn9 : x_n x = 6) (C : CB x RX4 cX4_unpackMixed) (M : CMr x 2 none S0 ad true U eV q) (hk4 : ∀ (a0 : Nat) (a1 : Nat) (a2 : Int32) (a3 : Int32) (T : Mm) (_ : kS true a0 = 4) (_ : kS true a1 = 5), k4 a0 a1 a2 a3 T = some q → Jr x ad true U T [(0, .ref (ad a0)), (1, .ref (ad a1)), (2, .int a2), (3, .int a3)] 4 []) : ∀ (n : Nat), ∀ (a0 : Nat) (a1 : Nat) (a2 : Int32) (a3 : Int32) (a5 : Int32) (T : Mm) (_ : kS true a0 = 4) (_ : kS true a1 = 5), f_X4_unpackMixed_l31 k4 n a0 a1 a2 a3 a5 T = some q → Jr x ad true U T [(0, .ref (ad a0)), (1, .ref (ad a1)), (2, .int a2), (3, .int a3), (5, .int a5)] 31 [] := by
  intro n
  induction n with
  | zero => intro a0 a1 a2 a3 a5 T _ _ h; exact absurd h (by intro h; cases h)
  | succ n ih => exact fun a0 a1 a2 a3 a5 T ha0 ha1 h => s_X4_unpackMixed_b31 hn9 C M hk4 (ih) a0 a1 a2 a3 a5 T ha0 ha1 h
noncomputable def f_X4_unpackMixed_b4 (k4 : Nat → Nat → Int32 → Int32 → Mm → Option (Unit × Mm)) (a0 : Nat) (a1 : Nat) (a2 : Int32) (a3 : Int32) (T : Mm) : Option (Unit × Mm) :=
  if (gI T 512 a1) ≤ a3 then (some ((), T))
  else (bd (f_X5_dataByte a1 a3 T) fun v1 T2 =>
  if 128 ≤ v1 then (if v1 ≤ 128 then (k4 a0 a1 a2 (a3 + 1) T2)
  else (if (gI T2 512 a1) ≤ (a3 + 1) then (k4 a0 a1 a2 (a3 + 1) T2)
  else (bd (f_X5_dataByte a1 (a3 + 1) T2) fun v3 T4 =>
  bd (f_X4_put a0 a2 v3 ((257 : Int32) - v1) T4) fun _ T5 =>
  lb ((a2 + ((257 : Int32) - v1))) fun v6 =>
  k4 a0 a1 v6 ((a3 + 1) + 1) T5)))
  else (f_X4_unpackMixed_l31 k4 FU a0 a1 a2 a3 v1 T2))
set_option maxRecDepth 100000 in
set_option maxHeartbeats 4000000 in
theorem s_X4_unpackMixed_b4 {x : JX} {ad : Nat → Nat} {U : Mm} {S0 : Hp} {q : Unit × Mm}  {k4 : Nat → Nat → Int32 → Int32 → Mm → Option (Unit × Mm)} (hn9 : x_n x = 6) (C : CB x RX4 cX4_unpackMixed) (M : CMr x 2 none S0 ad true U eV q) (hk4 : ∀ (a0 : Nat) (a1 : Nat) (a2 : Int32) (a3 : Int32) (T : Mm) (_ : kS true a0 = 4) (_ : kS true a1 = 5), k4 a0 a1 a2 a3 T = some q → Jr x ad true U T [(0, .ref (ad a0)), (1, .ref (ad a1)), (2, .int a2), (3, .int a3)] 4 []) (a0 : Nat) (a1 : Nat) (a2 : Int32) (a3 : Int32) (T : Mm) (ha0 : kS true a0 = 4) (ha1 : kS true a1 = 5) (h : f_X4_unpackMixed_b4 k4 a0 a1 a2 a3 T = some q) : Jr x ad true U T [(0, .ref (ad a0)), (1, .ref (ad a1)), (2, .int a2), (3, .int a3)] 4 [] := by
  unfold f_X4_unpackMixed_b4 at h
  refine r_iload_n C dX4_unpackMixed_4 rfl 3 rfl ?_
  refine r_aload_n C dX4_unpackMixed_5 rfl 1 rfl ?_
  refine r_geti (f := 512) C flX4_71 dX4_unpackMixed_6 ha1 (by decide) (by decide) rfl ?_
  refine r_ic_ge (tgt := 124) C dX4_unpackMixed_9 (by decide) h (fun h => ?_) (fun h => ?_)
  · exact r_vret C M dX4_unpackMixed_124 h
  · refine r_aload_n C dX4_unpackMixed_12 rfl 1 rfl ?_
    refine r_iload_n C dX4_unpackMixed_13 rfl 3 rfl ?_
    refine r_callVI C M h [.int a3] [] mlX4_76 mcX5_dataByte (fun q9 e9 => s_X5_dataByte a1 a3 ha1 e9) ha1 rfl (by decide) (by decide) rfl rfl (Nat.le_of_ble_eq_true rfl) dX4_unpackMixed_14 (fun v1 T2 h => ?_)
    refine r_istore (lv' := [(4, .int v1), (0, .ref (ad a0)), (1, .ref (ad a1)), (2, .int a2), (3, .int a3)]) C dX4_unpackMixed_17 (by rw [hn9]; decide) rfl ?_
    refine r_iload C dX4_unpackMixed_19 0 rfl ?_
    show Jr _ _ _ _ _ _ 21 _
    refine r_sipush (v := 128) C dX4_unpackMixed_21 (by decide) ?_
    refine r_ic_ge (tgt := 72) C dX4_unpackMixed_24 (by decide) h (fun h => ?_) (fun h => ?_)
    · refine r_iload C dX4_unpackMixed_72 0 rfl ?_
      refine r_sipush (v := 128) C dX4_unpackMixed_74 (by decide) ?_
      refine r_ic_le (tgt := 118) C dX4_unpackMixed_77 (by decide) h (fun h => ?_) (fun h => ?_)
      · refine r_iinc (q := 4) (v := (a3 + 1)) (lv' := [(3, .int (a3 + 1)), (4, .int v1), (0, .ref (ad a0)), (1, .ref (ad a1)), (2, .int a2)]) C dX4_unpackMixed_118 rfl (by rw [show Int32.ofInt (1) = 1 by decide]) (by rw [hn9]; decide) rfl ?_
        refine r_goto (tgt := 4) C dX4_unpackMixed_121 (by decide) ?_
        refine Jr.sub [2, 3, 4, 0] (lv' := [(0, .ref (ad a0)), (1, .ref (ad a1)), (2, .int a2), (3, .int (a3 + 1))]) rfl ?_
        exact hk4 a0 a1 a2 (a3 + 1) T2 ha0 ha1 h
      · refine r_iload_n C dX4_unpackMixed_80 rfl 4 rfl ?_
        refine r_iconst (v := 1) C dX4_unpackMixed_81 (by decide) ?_
        refine r_iadd C dX4_unpackMixed_82 rfl ?_
        refine r_aload_n C dX4_unpackMixed_83 rfl 2 rfl ?_
        refine r_geti (f := 512) C flX4_71 dX4_unpackMixed_84 ha1 (by decide) (by decide) rfl ?_
        show Jr _ _ _ _ _ _ 87 _
        refine r_ic_ge (tgt := 118) C dX4_unpackMixed_87 (by decide) h (fun h => ?_) (fun h => ?_)
        · refine r_iinc (q := 4) (v := (a3 + 1)) (lv' := [(3, .int (a3 + 1)), (4, .int v1), (0, .ref (ad a0)), (1, .ref (ad a1)), (2, .int a2)]) C dX4_unpackMixed_118 rfl (by rw [show Int32.ofInt (1) = 1 by decide]) (by rw [hn9]; decide) rfl ?_
          refine r_goto (tgt := 4) C dX4_unpackMixed_121 (by decide) ?_
          refine Jr.sub [2, 3, 4, 0] (lv' := [(0, .ref (ad a0)), (1, .ref (ad a1)), (2, .int a2), (3, .int (a3 + 1))]) rfl ?_
          exact hk4 a0 a1 a2 (a3 + 1) T2 ha0 ha1 h
        · refine r_iinc (q := 4) (v := (a3 + 1)) (lv' := [(3, .int (a3 + 1)), (4, .int v1), (0, .ref (ad a0)), (1, .ref (ad a1)), (2, .int a2)]) C dX4_unpackMixed_90 rfl (by rw [show Int32.ofInt (1) = 1 by decide]) (by rw [hn9]; decide) rfl ?_
          refine r_aload_n C dX4_unpackMixed_93 rfl 2 rfl ?_
          refine r_iload_n C dX4_unpackMixed_94 rfl 4 rfl ?_
          refine r_aload_n C dX4_unpackMixed_95 rfl 3 rfl ?_
          refine r_iload_n C dX4_unpackMixed_96 rfl 0 rfl ?_
          show Jr _ _ _ _ _ _ 97 _
          refine r_callVI C M h [.int (a3 + 1)] [.int a2, .ref (ad a0)] mlX4_76 mcX5_dataByte (fun q9 e9 => s_X5_dataByte a1 (a3 + 1) ha1 e9) ha1 rfl (by decide) (by decide) rfl rfl (Nat.le_of_ble_eq_true rfl) dX4_unpackMixed_97 (fun v3 T4 h => ?_)
          refine r_sipush (v := 257) C dX4_unpackMixed_100 (by decide) ?_
          refine r_iload C dX4_unpackMixed_103 1 rfl ?_
          refine r_isub C dX4_unpackMixed_105 rfl ?_
          refine r_callVN C M h [.int a2, .int v3, .int ((257 : Int32) - v1)] [] mlX4_80 mcX4_put (fun q9 e9 => s_X4_put a0 a2 v3 ((257 : Int32) - v1) ha0 e9) ha0 rfl (by decide) (by decide) rfl rfl (Nat.le_of_ble_eq_true rfl) dX4_unpackMixed_106 (fun _ T5 h => ?_)
          refine r_iload_n C dX4_unpackMixed_109 rfl 4 rfl ?_
          show Jr _ _ _ _ _ _ 110 _
          refine r_sipush (v := 257) C dX4_unpackMixed_110 (by decide) ?_
          refine r_iload C dX4_unpackMixed_113 1 rfl ?_
          refine r_isub C dX4_unpackMixed_115 rfl ?_
          refine r_iadd C dX4_unpackMixed_116 rfl ?_
          refine r_lbI h (fun v6 h => ?_)
          refine r_istore_n (lv' := [(2, .int v6), (3, .int (a3 + 1)), (4, .int v1), (0, .ref (ad a0)), (1, .ref (ad a1))]) C dX4_unpackMixed_117 rfl (by rw [hn9]; decide) rfl ?_
          refine r_iinc (q := 1) (v := ((a3 + 1) + 1)) (lv' := [(3, .int ((a3 + 1) + 1)), (2, .int v6), (4, .int v1), (0, .ref (ad a0)), (1, .ref (ad a1))]) C dX4_unpackMixed_118 rfl (by rw [show Int32.ofInt (1) = 1 by decide]) (by rw [hn9]; decide) rfl ?_
          show Jr _ _ _ _ _ _ 121 _
          refine r_goto (tgt := 4) C dX4_unpackMixed_121 (by decide) ?_
          refine Jr.sub [3, 4, 1, 0] (lv' := [(0, .ref (ad a0)), (1, .ref (ad a1)), (2, .int v6), (3, .int ((a3 + 1) + 1))]) rfl ?_
          exact hk4 a0 a1 v6 ((a3 + 1) + 1) T5 ha0 ha1 h
    · refine r_iload C dX4_unpackMixed_27 0 rfl ?_
      refine r_istore (lv' := [(5, .int v1), (4, .int v1), (0, .ref (ad a0)), (1, .ref (ad a1)), (2, .int a2), (3, .int a3)]) C dX4_unpackMixed_29 (by rw [hn9]; decide) rfl ?_
      refine Jr.sub [2, 3, 4, 5, 0] (lv' := [(0, .ref (ad a0)), (1, .ref (ad a1)), (2, .int a2), (3, .int a3), (5, .int v1)]) rfl ?_
      exact s_X4_unpackMixed_l31 hn9 C M hk4 FU a0 a1 a2 a3 v1 T2 ha0 ha1 h
noncomputable def f_X4_unpackMixed_l4 (n : Nat) : Nat → Nat → Int32 → Int32 → Mm → Option (Unit × Mm) := Nat.rec (fun _ _ _ _ _ => none) (fun _ ih => f_X4_unpackMixed_b4 ih) n
theorem s_X4_unpackMixed_l4 {x : JX} {ad : Nat → Nat} {U : Mm} {S0 : Hp} {q : Unit × Mm}  (hn9 : x_n x = 6) (C : CB x RX4 cX4_unpackMixed) (M : CMr x 2 none S0 ad true U eV q) : ∀ (n : Nat), ∀ (a0 : Nat) (a1 : Nat) (a2 : Int32) (a3 : Int32) (T : Mm) (_ : kS true a0 = 4) (_ : kS true a1 = 5), f_X4_unpackMixed_l4  n a0 a1 a2 a3 T = some q → Jr x ad true U T [(0, .ref (ad a0)), (1, .ref (ad a1)), (2, .int a2), (3, .int a3)] 4 [] := by
  intro n
  induction n with
  | zero => intro a0 a1 a2 a3 T _ _ h; exact absurd h (by intro h; cases h)
  | succ n ih => exact fun a0 a1 a2 a3 T ha0 ha1 h => s_X4_unpackMixed_b4 hn9 C M (ih) a0 a1 a2 a3 T ha0 ha1 h
noncomputable def f_X4_unpackMixed (p0 : Nat) (p1 : Nat) (T : Mm) : Option (Unit × Mm) :=
  f_X4_unpackMixed_l4 FU p0 p1 0 0 T
set_option maxRecDepth 100000 in
set_option maxHeartbeats 4000000 in
theorem s_X4_unpackMixed {ad : Nat → Nat} {U T : Mm} {q : Unit × Mm}  (p0 : Nat) (p1 : Nat) (hk0 : kS true p0 = 4) (hk1 : kS true p1 = 5) (h : f_X4_unpackMixed p0 p1 T = some q) : Cr 2 yX4_unpackMixed cX4_unpackMixed 6 none [.ref (ad p0), .ref (ad p1)] ad true U T eV q := by
  refine cr_of (by decide) (Nat.le_of_ble_eq_true rfl) fun x S0 hn9 C M => ?_
  have C : CB x RX4 cX4_unpackMixed := C
  refine Jr.eq (lv' := [(0, .ref (ad p0)), (1, .ref (ad p1))]) (st' := []) rfl rfl ?_
  unfold f_X4_unpackMixed at h
  refine r_iconst (v := 0) C dX4_unpackMixed_0 (by decide) ?_
  refine r_istore_n (lv' := [(2, .int 0), (0, .ref (ad p0)), (1, .ref (ad p1))]) C dX4_unpackMixed_1 rfl (by rw [hn9]; decide) rfl ?_
  refine r_iconst (v := 0) C dX4_unpackMixed_2 (by decide) ?_
  refine r_istore_n (lv' := [(3, .int 0), (2, .int 0), (0, .ref (ad p0)), (1, .ref (ad p1))]) C dX4_unpackMixed_3 rfl (by rw [hn9]; decide) rfl ?_
  refine Jr.sub [2, 3, 1, 0] (lv' := [(0, .ref (ad p0)), (1, .ref (ad p1)), (2, .int 0), (3, .int 0)]) rfl ?_
  exact s_X4_unpackMixed_l4 hn9 C M  FU p0 p1 0 0 T hk0 hk1 h
theorem dX4_unpackChanges_0 : decode cX4_unpackChanges 0 = .ok (.iconst 0, 1) := by decide +kernel
theorem dX4_unpackChanges_1 : decode cX4_unpackChanges 1 = .ok (.istore_n 2, 1) := by decide +kernel
theorem dX4_unpackChanges_2 : decode cX4_unpackChanges 2 = .ok (.iconst 0, 1) := by decide +kernel
theorem dX4_unpackChanges_3 : decode cX4_unpackChanges 3 = .ok (.istore_n 3, 1) := by decide +kernel
theorem dX4_unpackChanges_4 : decode cX4_unpackChanges 4 = .ok (.iload_n 3, 1) := by decide +kernel
theorem dX4_unpackChanges_5 : decode cX4_unpackChanges 5 = .ok (.aload_n 1, 1) := by decide +kernel
theorem dX4_unpackChanges_6 : decode cX4_unpackChanges 6 = .ok (.getfield 71, 3) := by decide +kernel
theorem dX4_unpackChanges_9 : decode cX4_unpackChanges 9 = .ok (.if_icmp .ge 126, 3) := by decide +kernel
theorem dX4_unpackChanges_12 : decode cX4_unpackChanges 12 = .ok (.aload_n 1, 1) := by decide +kernel
theorem dX4_unpackChanges_13 : decode cX4_unpackChanges 13 = .ok (.iload_n 3, 1) := by decide +kernel
theorem dX4_unpackChanges_14 : decode cX4_unpackChanges 14 = .ok (.invokevirtual 76, 3) := by decide +kernel
theorem dX4_unpackChanges_17 : decode cX4_unpackChanges 17 = .ok (.istore 4, 2) := by decide +kernel
theorem dX4_unpackChanges_19 : decode cX4_unpackChanges 19 = .ok (.iload 4, 2) := by decide +kernel
theorem dX4_unpackChanges_21 : decode cX4_unpackChanges 21 = .ok (.bipush 31, 2) := by decide +kernel
theorem dX4_unpackChanges_23 : decode cX4_unpackChanges 23 = .ok (.iand, 1) := by decide +kernel
theorem dX4_unpackChanges_24 : decode cX4_unpackChanges 24 = .ok (.istore 5, 2) := by decide +kernel
theorem dX4_unpackChanges_26 : decode cX4_unpackChanges 26 = .ok (.iload 5, 2) := by decide +kernel
theorem dX4_unpackChanges_28 : decode cX4_unpackChanges 28 = .ok (.bipush 31, 2) := by decide +kernel
theorem dX4_unpackChanges_30 : decode cX4_unpackChanges 30 = .ok (.if_icmp .ne 9, 3) := by decide +kernel
theorem dX4_unpackChanges_33 : decode cX4_unpackChanges 33 = .ok (.sipush 255, 3) := by decide +kernel
theorem dX4_unpackChanges_36 : decode cX4_unpackChanges 36 = .ok (.goto 4, 3) := by decide +kernel
theorem dX4_unpackChanges_39 : decode cX4_unpackChanges 39 = .ok (.iconst 0, 1) := by decide +kernel
theorem dX4_unpackChanges_40 : decode cX4_unpackChanges 40 = .ok (.istore 6, 2) := by decide +kernel
theorem dX4_unpackChanges_42 : decode cX4_unpackChanges 42 = .ok (.iload 6, 2) := by decide +kernel
theorem dX4_unpackChanges_44 : decode cX4_unpackChanges 44 = .ok (.sipush 255, 3) := by decide +kernel
theorem dX4_unpackChanges_47 : decode cX4_unpackChanges 47 = .ok (.if_icmp .ne 33, 3) := by decide +kernel
theorem dX4_unpackChanges_50 : decode cX4_unpackChanges 50 = .ok (.iload_n 3, 1) := by decide +kernel
theorem dX4_unpackChanges_51 : decode cX4_unpackChanges 51 = .ok (.iconst 1, 1) := by decide +kernel
theorem dX4_unpackChanges_52 : decode cX4_unpackChanges 52 = .ok (.iadd, 1) := by decide +kernel
theorem dX4_unpackChanges_53 : decode cX4_unpackChanges 53 = .ok (.aload_n 1, 1) := by decide +kernel
theorem dX4_unpackChanges_54 : decode cX4_unpackChanges 54 = .ok (.getfield 71, 3) := by decide +kernel
theorem dX4_unpackChanges_57 : decode cX4_unpackChanges 57 = .ok (.if_icmp .ge 23, 3) := by decide +kernel
theorem dX4_unpackChanges_60 : decode cX4_unpackChanges 60 = .ok (.iinc 3 1, 3) := by decide +kernel
theorem dX4_unpackChanges_63 : decode cX4_unpackChanges 63 = .ok (.aload_n 1, 1) := by decide +kernel
theorem dX4_unpackChanges_64 : decode cX4_unpackChanges 64 = .ok (.iload_n 3, 1) := by decide +kernel
theorem dX4_unpackChanges_65 : decode cX4_unpackChanges 65 = .ok (.invokevirtual 76, 3) := by decide +kernel
theorem dX4_unpackChanges_68 : decode cX4_unpackChanges 68 = .ok (.istore 6, 2) := by decide +kernel
theorem dX4_unpackChanges_70 : decode cX4_unpackChanges 70 = .ok (.iload 5, 2) := by decide +kernel
theorem dX4_unpackChanges_72 : decode cX4_unpackChanges 72 = .ok (.iload 6, 2) := by decide +kernel
theorem dX4_unpackChanges_74 : decode cX4_unpackChanges 74 = .ok (.iadd, 1) := by decide +kernel
theorem dX4_unpackChanges_75 : decode cX4_unpackChanges 75 = .ok (.istore 5, 2) := by decide +kernel
theorem dX4_unpackChanges_77 : decode cX4_unpackChanges 77 = .ok (.goto (-35), 3) := by decide +kernel
theorem dX4_unpackChanges_80 : decode cX4_unpackChanges 80 = .ok (.iload_n 2, 1) := by decide +kernel
theorem dX4_unpackChanges_81 : decode cX4_unpackChanges 81 = .ok (.iload 5, 2) := by decide +kernel
theorem dX4_unpackChanges_83 : decode cX4_unpackChanges 83 = .ok (.iadd, 1) := by decide +kernel
theorem dX4_unpackChanges_84 : decode cX4_unpackChanges 84 = .ok (.istore_n 2, 1) := by decide +kernel
theorem dX4_unpackChanges_85 : decode cX4_unpackChanges 85 = .ok (.iload 4, 2) := by decide +kernel
theorem dX4_unpackChanges_87 : decode cX4_unpackChanges 87 = .ok (.iconst 5, 1) := by decide +kernel
theorem dX4_unpackChanges_88 : decode cX4_unpackChanges 88 = .ok (.ishr, 1) := by decide +kernel
theorem dX4_unpackChanges_89 : decode cX4_unpackChanges 89 = .ok (.istore 7, 2) := by decide +kernel
theorem dX4_unpackChanges_91 : decode cX4_unpackChanges 91 = .ok (.iload 7, 2) := by decide +kernel
theorem dX4_unpackChanges_93 : decode cX4_unpackChanges 93 = .ok (.ifCond .lt 36, 3) := by decide +kernel
theorem dX4_unpackChanges_96 : decode cX4_unpackChanges 96 = .ok (.iload_n 3, 1) := by decide +kernel
theorem dX4_unpackChanges_97 : decode cX4_unpackChanges 97 = .ok (.iconst 1, 1) := by decide +kernel
theorem dX4_unpackChanges_98 : decode cX4_unpackChanges 98 = .ok (.iadd, 1) := by decide +kernel
theorem dX4_unpackChanges_99 : decode cX4_unpackChanges 99 = .ok (.aload_n 1, 1) := by decide +kernel
theorem dX4_unpackChanges_100 : decode cX4_unpackChanges 100 = .ok (.getfield 71, 3) := by decide +kernel
theorem dX4_unpackChanges_103 : decode cX4_unpackChanges 103 = .ok (.if_icmp .ge 26, 3) := by decide +kernel
theorem dX4_unpackChanges_106 : decode cX4_unpackChanges 106 = .ok (.iinc 3 1, 3) := by decide +kernel
theorem dX4_unpackChanges_109 : decode cX4_unpackChanges 109 = .ok (.aload_n 0, 1) := by decide +kernel
theorem dX4_unpackChanges_110 : decode cX4_unpackChanges 110 = .ok (.iload_n 2, 1) := by decide +kernel
theorem dX4_unpackChanges_111 : decode cX4_unpackChanges 111 = .ok (.aload_n 1, 1) := by decide +kernel
theorem dX4_unpackChanges_112 : decode cX4_unpackChanges 112 = .ok (.iload_n 3, 1) := by decide +kernel
theorem dX4_unpackChanges_113 : decode cX4_unpackChanges 113 = .ok (.invokevirtual 76, 3) := by decide +kernel
theorem dX4_unpackChanges_116 : decode cX4_unpackChanges 116 = .ok (.iconst 1, 1) := by decide +kernel
theorem dX4_unpackChanges_117 : decode cX4_unpackChanges 117 = .ok (.invokevirtual 80, 3) := by decide +kernel
theorem dX4_unpackChanges_120 : decode cX4_unpackChanges 120 = .ok (.iinc 2 1, 3) := by decide +kernel
theorem dX4_unpackChanges_123 : decode cX4_unpackChanges 123 = .ok (.iinc 7 (-1), 3) := by decide +kernel
theorem dX4_unpackChanges_126 : decode cX4_unpackChanges 126 = .ok (.goto (-35), 3) := by decide +kernel
theorem dX4_unpackChanges_129 : decode cX4_unpackChanges 129 = .ok (.iinc 3 1, 3) := by decide +kernel
theorem dX4_unpackChanges_132 : decode cX4_unpackChanges 132 = .ok (.goto (-128), 3) := by decide +kernel
theorem dX4_unpackChanges_135 : decode cX4_unpackChanges 135 = .ok (.return_, 1) := by decide +kernel
noncomputable def f_X4_unpackChanges_b91 (k4 : Nat → Nat → Int32 → Int32 → Mm → Option (Unit × Mm)) (k91 : Nat → Nat → Int32 → Int32 → Int32 → Mm → Option (Unit × Mm)) (a0 : Nat) (a1 : Nat) (a2 : Int32) (a3 : Int32) (a7 : Int32) (T : Mm) : Option (Unit × Mm) :=
  if a7 < 0 then (k4 a0 a1 a2 (a3 + 1) T)
  else (if (gI T 512 a1) ≤ (a3 + 1) then (k4 a0 a1 a2 (a3 + 1) T)
  else (bd (f_X5_dataByte a1 (a3 + 1) T) fun v1 T2 =>
  bd (f_X4_put a0 a2 v1 1 T2) fun _ T3 =>
  k91 a0 a1 (a2 + 1) (a3 + 1) (a7 + (-1)) T3))
set_option maxRecDepth 100000 in
set_option maxHeartbeats 4000000 in
theorem s_X4_unpackChanges_b91 {x : JX} {ad : Nat → Nat} {U : Mm} {S0 : Hp} {q : Unit × Mm}  {k4 : Nat → Nat → Int32 → Int32 → Mm → Option (Unit × Mm)} {k91 : Nat → Nat → Int32 → Int32 → Int32 → Mm → Option (Unit × Mm)} (hn9 : x_n x = 8) (C : CB x RX4 cX4_unpackChanges) (M : CMr x 2 none S0 ad true U eV q) (hk4 : ∀ (a0 : Nat) (a1 : Nat) (a2 : Int32) (a3 : Int32) (T : Mm) (_ : kS true a0 = 4) (_ : kS true a1 = 5), k4 a0 a1 a2 a3 T = some q → Jr x ad true U T [(0, .ref (ad a0)), (1, .ref (ad a1)), (2, .int a2), (3, .int a3)] 4 []) (hk91 : ∀ (a0 : Nat) (a1 : Nat) (a2 : Int32) (a3 : Int32) (a7 : Int32) (T : Mm) (_ : kS true a0 = 4) (_ : kS true a1 = 5), k91 a0 a1 a2 a3 a7 T = some q → Jr x ad true U T [(0, .ref (ad a0)), (1, .ref (ad a1)), (2, .int a2), (3, .int a3), (7, .int a7)] 91 []) (a0 : Nat) (a1 : Nat) (a2 : Int32) (a3 : Int32) (a7 : Int32) (T : Mm) (ha0 : kS true a0 = 4) (ha1 : kS true a1 = 5) (h : f_X4_unpackChanges_b91 k4 k91 a0 a1 a2 a3 a7 T = some q) : Jr x ad true U T [(0, .ref (ad a0)), (1, .ref (ad a1)), (2, .int a2), (3, .int a3), (7, .int a7)] 91 [] := by
  unfold f_X4_unpackChanges_b91 at h
  refine r_iload C dX4_unpackChanges_91 4 rfl ?_
  refine r_if_lt (tgt := 129) C dX4_unpackChanges_93 (by decide) h (fun h => ?_) (fun h => ?_)
  · refine r_iinc (q := 3) (v := (a3 + 1)) (lv' := [(3, .int (a3 + 1)), (0, .ref (ad a0)), (1, .ref (ad a1)), (2, .int a2), (7, .int a7)]) C dX4_unpackChanges_129 rfl (by rw [show Int32.ofInt (1) = 1 by decide]) (by rw [hn9]; decide) rfl ?_
    refine r_goto (tgt := 4) C dX4_unpackChanges_132 (by decide) ?_
    refine Jr.sub [1, 2, 3, 0] (lv' := [(0, .ref (ad a0)), (1, .ref (ad a1)), (2, .int a2), (3, .int (a3 + 1))]) rfl ?_
    exact hk4 a0 a1 a2 (a3 + 1) T ha0 ha1 h
  · refine r_iload_n C dX4_unpackChanges_96 rfl 3 rfl ?_
    refine r_iconst (v := 1) C dX4_unpackChanges_97 (by decide) ?_
    refine r_iadd C dX4_unpackChanges_98 rfl ?_
    refine r_aload_n C dX4_unpackChanges_99 rfl 1 rfl ?_
    refine r_geti (f := 512) C flX4_71 dX4_unpackChanges_100 ha1 (by decide) (by decide) rfl ?_
    show Jr _ _ _ _ _ _ 103 _
    refine r_ic_ge (tgt := 129) C dX4_unpackChanges_103 (by decide) h (fun h => ?_) (fun h => ?_)
    · refine r_iinc (q := 3) (v := (a3 + 1)) (lv' := [(3, .int (a3 + 1)), (0, .ref (ad a0)), (1, .ref (ad a1)), (2, .int a2), (7, .int a7)]) C dX4_unpackChanges_129 rfl (by rw [show Int32.ofInt (1) = 1 by decide]) (by rw [hn9]; decide) rfl ?_
      refine r_goto (tgt := 4) C dX4_unpackChanges_132 (by decide) ?_
      refine Jr.sub [1, 2, 3, 0] (lv' := [(0, .ref (ad a0)), (1, .ref (ad a1)), (2, .int a2), (3, .int (a3 + 1))]) rfl ?_
      exact hk4 a0 a1 a2 (a3 + 1) T ha0 ha1 h
    · refine r_iinc (q := 3) (v := (a3 + 1)) (lv' := [(3, .int (a3 + 1)), (0, .ref (ad a0)), (1, .ref (ad a1)), (2, .int a2), (7, .int a7)]) C dX4_unpackChanges_106 rfl (by rw [show Int32.ofInt (1) = 1 by decide]) (by rw [hn9]; decide) rfl ?_
      refine r_aload_n C dX4_unpackChanges_109 rfl 1 rfl ?_
      refine r_iload_n C dX4_unpackChanges_110 rfl 3 rfl ?_
      refine r_aload_n C dX4_unpackChanges_111 rfl 2 rfl ?_
      refine r_iload_n C dX4_unpackChanges_112 rfl 0 rfl ?_
      show Jr _ _ _ _ _ _ 113 _
      refine r_callVI C M h [.int (a3 + 1)] [.int a2, .ref (ad a0)] mlX4_76 mcX5_dataByte (fun q9 e9 => s_X5_dataByte a1 (a3 + 1) ha1 e9) ha1 rfl (by decide) (by decide) rfl rfl (Nat.le_of_ble_eq_true rfl) dX4_unpackChanges_113 (fun v1 T2 h => ?_)
      refine r_iconst (v := 1) C dX4_unpackChanges_116 (by decide) ?_
      refine r_callVN C M h [.int a2, .int v1, .int 1] [] mlX4_80 mcX4_put (fun q9 e9 => s_X4_put a0 a2 v1 1 ha0 e9) ha0 rfl (by decide) (by decide) rfl rfl (Nat.le_of_ble_eq_true rfl) dX4_unpackChanges_117 (fun _ T3 h => ?_)
      refine r_iinc (q := 3) (v := (a2 + 1)) (lv' := [(2, .int (a2 + 1)), (3, .int (a3 + 1)), (0, .ref (ad a0)), (1, .ref (ad a1)), (7, .int a7)]) C dX4_unpackChanges_120 rfl (by rw [show Int32.ofInt (1) = 1 by decide]) (by rw [hn9]; decide) rfl ?_
      refine r_iinc (q := 4) (v := (a7 + (-1))) (lv' := [(7, .int (a7 + (-1))), (2, .int (a2 + 1)), (3, .int (a3 + 1)), (0, .ref (ad a0)), (1, .ref (ad a1))]) C dX4_unpackChanges_123 rfl (by rw [show Int32.ofInt (-1) = (-1) by decide]) (by rw [hn9]; decide) rfl ?_
      refine r_goto (tgt := 91) C dX4_unpackChanges_126 (by decide) ?_
      refine Jr.sub [3, 4, 1, 2, 0] (lv' := [(0, .ref (ad a0)), (1, .ref (ad a1)), (2, .int (a2 + 1)), (3, .int (a3 + 1)), (7, .int (a7 + (-1)))]) rfl ?_
      exact hk91 a0 a1 (a2 + 1) (a3 + 1) (a7 + (-1)) T3 ha0 ha1 h
noncomputable def f_X4_unpackChanges_l91 (k4 : Nat → Nat → Int32 → Int32 → Mm → Option (Unit × Mm)) (n : Nat) : Nat → Nat → Int32 → Int32 → Int32 → Mm → Option (Unit × Mm) := Nat.rec (fun _ _ _ _ _ _ => none) (fun _ ih => f_X4_unpackChanges_b91 k4 ih) n
theorem s_X4_unpackChanges_l91 {x : JX} {ad : Nat → Nat} {U : Mm} {S0 : Hp} {q : Unit × Mm}  {k4 : Nat → Nat → Int32 → Int32 → Mm → Option (Unit × Mm)} (hn9 : x_n x = 8) (C : CB x RX4 cX4_unpackChanges) (M : CMr x 2 none S0 ad true U eV q) (hk4 : ∀ (a0 : Nat) (a1 : Nat) (a2 : Int32) (a3 : Int32) (T : Mm) (_ : kS true a0 = 4) (_ : kS true a1 = 5), k4 a0 a1 a2 a3 T = some q → Jr x ad true U T [(0, .ref (ad a0)), (1, .ref (ad a1)), (2, .int a2), (3, .int a3)] 4 []) : ∀ (n : Nat), ∀ (a0 : Nat) (a1 : Nat) (a2 : Int32) (a3 : Int32) (a7 : Int32) (T : Mm) (_ : kS true a0 = 4) (_ : kS true a1 = 5), f_X4_unpackChanges_l91 k4 n a0 a1 a2 a3 a7 T = some q → Jr x ad true U T [(0, .ref (ad a0)), (1, .ref (ad a1)), (2, .int a2), (3, .int a3), (7, .int a7)] 91 [] := by
  intro n
  induction n with
  | zero => intro a0 a1 a2 a3 a7 T _ _ h; exact absurd h (by intro h; cases h)
  | succ n ih => exact fun a0 a1 a2 a3 a7 T ha0 ha1 h => s_X4_unpackChanges_b91 hn9 C M hk4 (ih) a0 a1 a2 a3 a7 T ha0 ha1 h
noncomputable def f_X4_unpackChanges_b42 (k4 : Nat → Nat → Int32 → Int32 → Mm → Option (Unit × Mm)) (k42 : Nat → Nat → Int32 → Int32 → Int32 → Int32 → Int32 → Mm → Option (Unit × Mm)) (a0 : Nat) (a1 : Nat) (a2 : Int32) (a3 : Int32) (a4 : Int32) (a5 : Int32) (a6 : Int32) (T : Mm) : Option (Unit × Mm) :=
  if a6 = 255 then (if (gI T 512 a1) ≤ (a3 + 1) then (lb ((a2 + a5)) fun v3 =>
  lb ((a4 >>> ((5 : Int32) &&& 31))) fun v4 =>
  f_X4_unpackChanges_l91 k4 FU a0 a1 v3 a3 v4 T)
  else (bd (f_X5_dataByte a1 (a3 + 1) T) fun v5 T6 =>
  lb ((a5 + v5)) fun v7 =>
  k42 a0 a1 a2 (a3 + 1) a4 v7 v5 T6))
  else (lb ((a2 + a5)) fun v1 =>
  lb ((a4 >>> ((5 : Int32) &&& 31))) fun v2 =>
  f_X4_unpackChanges_l91 k4 FU a0 a1 v1 a3 v2 T)
set_option maxRecDepth 100000 in
set_option maxHeartbeats 4000000 in
theorem s_X4_unpackChanges_b42 {x : JX} {ad : Nat → Nat} {U : Mm} {S0 : Hp} {q : Unit × Mm}  {k4 : Nat → Nat → Int32 → Int32 → Mm → Option (Unit × Mm)} {k42 : Nat → Nat → Int32 → Int32 → Int32 → Int32 → Int32 → Mm → Option (Unit × Mm)} (hn9 : x_n x = 8) (C : CB x RX4 cX4_unpackChanges) (M : CMr x 2 none S0 ad true U eV q) (hk4 : ∀ (a0 : Nat) (a1 : Nat) (a2 : Int32) (a3 : Int32) (T : Mm) (_ : kS true a0 = 4) (_ : kS true a1 = 5), k4 a0 a1 a2 a3 T = some q → Jr x ad true U T [(0, .ref (ad a0)), (1, .ref (ad a1)), (2, .int a2), (3, .int a3)] 4 []) (hk42 : ∀ (a0 : Nat) (a1 : Nat) (a2 : Int32) (a3 : Int32) (a4 : Int32) (a5 : Int32) (a6 : Int32) (T : Mm) (_ : kS true a0 = 4) (_ : kS true a1 = 5), k42 a0 a1 a2 a3 a4 a5 a6 T = some q → Jr x ad true U T [(0, .ref (ad a0)), (1, .ref (ad a1)), (2, .int a2), (3, .int a3), (4, .int a4), (5, .int a5), (6, .int a6)] 42 []) (a0 : Nat) (a1 : Nat) (a2 : Int32) (a3 : Int32) (a4 : Int32) (a5 : Int32) (a6 : Int32) (T : Mm) (ha0 : kS true a0 = 4) (ha1 : kS true a1 = 5) (h : f_X4_unpackChanges_b42 k4 k42 a0 a1 a2 a3 a4 a5 a6 T = some q) : Jr x ad true U T [(0, .ref (ad a0)), (1, .ref (ad a1)), (2, .int a2), (3, .int a3), (4, .int a4), (5, .int a5), (6, .int a6)] 42 [] := by
  unfold f_X4_unpackChanges_b42 at h
  refine r_iload C dX4_unpackChanges_42 6 rfl ?_
  refine r_sipush (v := 255) C dX4_unpackChanges_44 (by decide) ?_
  refine r_ic_ne (tgt := 80) C dX4_unpackChanges_47 (by decide) h (fun h => ?_) (fun h => ?_)
  · refine r_iload_n C dX4_unpackChanges_80 rfl 2 rfl ?_
    refine r_iload C dX4_unpackChanges_81 5 rfl ?_
    refine r_iadd C dX4_unpackChanges_83 rfl ?_
    refine r_lbI h (fun v1 h => ?_)
    refine r_istore_n (lv' := [(2, .int v1), (0, .ref (ad a0)), (1, .ref (ad a1)), (3, .int a3), (4, .int a4), (5, .int a5), (6, .int a6)]) C dX4_unpackChanges_84 rfl (by rw [hn9]; decide) rfl ?_
    refine r_iload C dX4_unpackChanges_85 4 rfl ?_
    show Jr _ _ _ _ _ _ 87 _
    refine r_iconst (v := 5) C dX4_unpackChanges_87 (by decide) ?_
    refine r_ishr C dX4_unpackChanges_88 rfl ?_
    refine r_lbI h (fun v2 h => ?_)
    refine r_istore (lv' := [(7, .int v2), (2, .int v1), (0, .ref (ad a0)), (1, .ref (ad a1)), (3, .int a3), (4, .int a4), (5, .int a5), (6, .int a6)]) C dX4_unpackChanges_89 (by rw [hn9]; decide) rfl ?_
    refine Jr.sub [2, 3, 1, 4, 0] (lv' := [(0, .ref (ad a0)), (1, .ref (ad a1)), (2, .int v1), (3, .int a3), (7, .int v2)]) rfl ?_
    exact s_X4_unpackChanges_l91 hn9 C M hk4 FU a0 a1 v1 a3 v2 T ha0 ha1 h
  · refine r_iload_n C dX4_unpackChanges_50 rfl 3 rfl ?_
    refine r_iconst (v := 1) C dX4_unpackChanges_51 (by decide) ?_
    refine r_iadd C dX4_unpackChanges_52 rfl ?_
    refine r_aload_n C dX4_unpackChanges_53 rfl 1 rfl ?_
    refine r_geti (f := 512) C flX4_71 dX4_unpackChanges_54 ha1 (by decide) (by decide) rfl ?_
    show Jr _ _ _ _ _ _ 57 _
    refine r_ic_ge (tgt := 80) C dX4_unpackChanges_57 (by decide) h (fun h => ?_) (fun h => ?_)
    · refine r_iload_n C dX4_unpackChanges_80 rfl 2 rfl ?_
      refine r_iload C dX4_unpackChanges_81 5 rfl ?_
      refine r_iadd C dX4_unpackChanges_83 rfl ?_
      refine r_lbI h (fun v3 h => ?_)
      refine r_istore_n (lv' := [(2, .int v3), (0, .ref (ad a0)), (1, .ref (ad a1)), (3, .int a3), (4, .int a4), (5, .int a5), (6, .int a6)]) C dX4_unpackChanges_84 rfl (by rw [hn9]; decide) rfl ?_
      refine r_iload C dX4_unpackChanges_85 4 rfl ?_
      show Jr _ _ _ _ _ _ 87 _
      refine r_iconst (v := 5) C dX4_unpackChanges_87 (by decide) ?_
      refine r_ishr C dX4_unpackChanges_88 rfl ?_
      refine r_lbI h (fun v4 h => ?_)
      refine r_istore (lv' := [(7, .int v4), (2, .int v3), (0, .ref (ad a0)), (1, .ref (ad a1)), (3, .int a3), (4, .int a4), (5, .int a5), (6, .int a6)]) C dX4_unpackChanges_89 (by rw [hn9]; decide) rfl ?_
      refine Jr.sub [2, 3, 1, 4, 0] (lv' := [(0, .ref (ad a0)), (1, .ref (ad a1)), (2, .int v3), (3, .int a3), (7, .int v4)]) rfl ?_
      exact s_X4_unpackChanges_l91 hn9 C M hk4 FU a0 a1 v3 a3 v4 T ha0 ha1 h
    · refine r_iinc (q := 3) (v := (a3 + 1)) (lv' := [(3, .int (a3 + 1)), (0, .ref (ad a0)), (1, .ref (ad a1)), (2, .int a2), (4, .int a4), (5, .int a5), (6, .int a6)]) C dX4_unpackChanges_60 rfl (by rw [show Int32.ofInt (1) = 1 by decide]) (by rw [hn9]; decide) rfl ?_
      refine r_aload_n C dX4_unpackChanges_63 rfl 2 rfl ?_
      refine r_iload_n C dX4_unpackChanges_64 rfl 0 rfl ?_
      refine r_callVI C M h [.int (a3 + 1)] [] mlX4_76 mcX5_dataByte (fun q9 e9 => s_X5_dataByte a1 (a3 + 1) ha1 e9) ha1 rfl (by decide) (by decide) rfl rfl (Nat.le_of_ble_eq_true rfl) dX4_unpackChanges_65 (fun v5 T6 h => ?_)
      refine r_istore (lv' := [(6, .int v5), (3, .int (a3 + 1)), (0, .ref (ad a0)), (1, .ref (ad a1)), (2, .int a2), (4, .int a4), (5, .int a5)]) C dX4_unpackChanges_68 (by rw [hn9]; decide) rfl ?_
      show Jr _ _ _ _ _ _ 70 _
      refine r_iload C dX4_unpackChanges_70 6 rfl ?_
      refine r_iload C dX4_unpackChanges_72 0 rfl ?_
      refine r_iadd C dX4_unpackChanges_74 rfl ?_
      refine r_lbI h (fun v7 h => ?_)
      refine r_istore (lv' := [(5, .int v7), (6, .int v5), (3, .int (a3 + 1)), (0, .ref (ad a0)), (1, .ref (ad a1)), (2, .int a2), (4, .int a4)]) C dX4_unpackChanges_75 (by rw [hn9]; decide) rfl ?_
      refine r_goto (tgt := 42) C dX4_unpackChanges_77 (by decide) ?_
      refine Jr.sub [3, 4, 5, 2, 6, 0, 1] (lv' := [(0, .ref (ad a0)), (1, .ref (ad a1)), (2, .int a2), (3, .int (a3 + 1)), (4, .int a4), (5, .int v7), (6, .int v5)]) rfl ?_
      exact hk42 a0 a1 a2 (a3 + 1) a4 v7 v5 T6 ha0 ha1 h
noncomputable def f_X4_unpackChanges_l42 (k4 : Nat → Nat → Int32 → Int32 → Mm → Option (Unit × Mm)) (n : Nat) : Nat → Nat → Int32 → Int32 → Int32 → Int32 → Int32 → Mm → Option (Unit × Mm) := Nat.rec (fun _ _ _ _ _ _ _ _ => none) (fun _ ih => f_X4_unpackChanges_b42 k4 ih) n
theorem s_X4_unpackChanges_l42 {x : JX} {ad : Nat → Nat} {U : Mm} {S0 : Hp} {q : Unit × Mm}  {k4 : Nat → Nat → Int32 → Int32 → Mm → Option (Unit × Mm)} (hn9 : x_n x = 8) (C : CB x RX4 cX4_unpackChanges) (M : CMr x 2 none S0 ad true U eV q) (hk4 : ∀ (a0 : Nat) (a1 : Nat) (a2 : Int32) (a3 : Int32) (T : Mm) (_ : kS true a0 = 4) (_ : kS true a1 = 5), k4 a0 a1 a2 a3 T = some q → Jr x ad true U T [(0, .ref (ad a0)), (1, .ref (ad a1)), (2, .int a2), (3, .int a3)] 4 []) : ∀ (n : Nat), ∀ (a0 : Nat) (a1 : Nat) (a2 : Int32) (a3 : Int32) (a4 : Int32) (a5 : Int32) (a6 : Int32) (T : Mm) (_ : kS true a0 = 4) (_ : kS true a1 = 5), f_X4_unpackChanges_l42 k4 n a0 a1 a2 a3 a4 a5 a6 T = some q → Jr x ad true U T [(0, .ref (ad a0)), (1, .ref (ad a1)), (2, .int a2), (3, .int a3), (4, .int a4), (5, .int a5), (6, .int a6)] 42 [] := by
  intro n
  induction n with
  | zero => intro a0 a1 a2 a3 a4 a5 a6 T _ _ h; exact absurd h (by intro h; cases h)
  | succ n ih => exact fun a0 a1 a2 a3 a4 a5 a6 T ha0 ha1 h => s_X4_unpackChanges_b42 hn9 C M hk4 (ih) a0 a1 a2 a3 a4 a5 a6 T ha0 ha1 h
noncomputable def f_X4_unpackChanges_b4 (k4 : Nat → Nat → Int32 → Int32 → Mm → Option (Unit × Mm)) (a0 : Nat) (a1 : Nat) (a2 : Int32) (a3 : Int32) (T : Mm) : Option (Unit × Mm) :=
  if (gI T 512 a1) ≤ a3 then (some ((), T))
  else (bd (f_X5_dataByte a1 a3 T) fun v1 T2 =>
  lb ((v1 &&& 31)) fun v3 =>
  if v3 = 31 then (f_X4_unpackChanges_l42 k4 FU a0 a1 a2 a3 v1 v3 255 T2)
  else (f_X4_unpackChanges_l42 k4 FU a0 a1 a2 a3 v1 v3 0 T2))
set_option maxRecDepth 100000 in
set_option maxHeartbeats 4000000 in
theorem s_X4_unpackChanges_b4 {x : JX} {ad : Nat → Nat} {U : Mm} {S0 : Hp} {q : Unit × Mm}  {k4 : Nat → Nat → Int32 → Int32 → Mm → Option (Unit × Mm)} (hn9 : x_n x = 8) (C : CB x RX4 cX4_unpackChanges) (M : CMr x 2 none S0 ad true U eV q) (hk4 : ∀ (a0 : Nat) (a1 : Nat) (a2 : Int32) (a3 : Int32) (T : Mm) (_ : kS true a0 = 4) (_ : kS true a1 = 5), k4 a0 a1 a2 a3 T = some q → Jr x ad true U T [(0, .ref (ad a0)), (1, .ref (ad a1)), (2, .int a2), (3, .int a3)] 4 []) (a0 : Nat) (a1 : Nat) (a2 : Int32) (a3 : Int32) (T : Mm) (ha0 : kS true a0 = 4) (ha1 : kS true a1 = 5) (h : f_X4_unpackChanges_b4 k4 a0 a1 a2 a3 T = some q) : Jr x ad true U T [(0, .ref (ad a0)), (1, .ref (ad a1)), (2, .int a2), (3, .int a3)] 4 [] := by
  unfold f_X4_unpackChanges_b4 at h
  refine r_iload_n C dX4_unpackChanges_4 rfl 3 rfl ?_
  refine r_aload_n C dX4_unpackChanges_5 rfl 1 rfl ?_
  refine r_geti (f := 512) C flX4_71 dX4_unpackChanges_6 ha1 (by decide) (by decide) rfl ?_
  refine r_ic_ge (tgt := 135) C dX4_unpackChanges_9 (by decide) h (fun h => ?_) (fun h => ?_)
  · exact r_vret C M dX4_unpackChanges_135 h
  · refine r_aload_n C dX4_unpackChanges_12 rfl 1 rfl ?_
    refine r_iload_n C dX4_unpackChanges_13 rfl 3 rfl ?_
    refine r_callVI C M h [.int a3] [] mlX4_76 mcX5_dataByte (fun q9 e9 => s_X5_dataByte a1 a3 ha1 e9) ha1 rfl (by decide) (by decide) rfl rfl (Nat.le_of_ble_eq_true rfl) dX4_unpackChanges_14 (fun v1 T2 h => ?_)
    refine r_istore (lv' := [(4, .int v1), (0, .ref (ad a0)), (1, .ref (ad a1)), (2, .int a2), (3, .int a3)]) C dX4_unpackChanges_17 (by rw [hn9]; decide) rfl ?_
    refine r_iload C dX4_unpackChanges_19 0 rfl ?_
    show Jr _ _ _ _ _ _ 21 _
    refine r_bipush (v := 31) C dX4_unpackChanges_21 (by decide) ?_
    refine r_iand C dX4_unpackChanges_23 rfl ?_
    refine r_lbI h (fun v3 h => ?_)
    refine r_istore (lv' := [(5, .int v3), (4, .int v1), (0, .ref (ad a0)), (1, .ref (ad a1)), (2, .int a2), (3, .int a3)]) C dX4_unpackChanges_24 (by rw [hn9]; decide) rfl ?_
    refine r_iload C dX4_unpackChanges_26 0 rfl ?_
    refine r_bipush (v := 31) C dX4_unpackChanges_28 (by decide) ?_
    refine r_ic_ne (tgt := 39) C dX4_unpackChanges_30 (by decide) h (fun h => ?_) (fun h => ?_)
    · refine r_iconst (v := 0) C dX4_unpackChanges_39 (by decide) ?_
      refine r_istore (lv' := [(6, .int 0), (5, .int v3), (4, .int v1), (0, .ref (ad a0)), (1, .ref (ad a1)), (2, .int a2), (3, .int a3)]) C dX4_unpackChanges_40 (by rw [hn9]; decide) rfl ?_
      refine Jr.sub [3, 4, 5, 6, 2, 1, 0] (lv' := [(0, .ref (ad a0)), (1, .ref (ad a1)), (2, .int a2), (3, .int a3), (4, .int v1), (5, .int v3), (6, .int 0)]) rfl ?_
      exact s_X4_unpackChanges_l42 hn9 C M hk4 FU a0 a1 a2 a3 v1 v3 0 T2 ha0 ha1 h
    · refine r_sipush (v := 255) C dX4_unpackChanges_33 (by decide) ?_
      refine r_goto (tgt := 40) C dX4_unpackChanges_36 (by decide) ?_
      refine r_istore (lv' := [(6, .int 255), (5, .int v3), (4, .int v1), (0, .ref (ad a0)), (1, .ref (ad a1)), (2, .int a2), (3, .int a3)]) C dX4_unpackChanges_40 (by rw [hn9]; decide) rfl ?_
      refine Jr.sub [3, 4, 5, 6, 2, 1, 0] (lv' := [(0, .ref (ad a0)), (1, .ref (ad a1)), (2, .int a2), (3, .int a3), (4, .int v1), (5, .int v3), (6, .int 255)]) rfl ?_
      exact s_X4_unpackChanges_l42 hn9 C M hk4 FU a0 a1 a2 a3 v1 v3 255 T2 ha0 ha1 h
noncomputable def f_X4_unpackChanges_l4 (n : Nat) : Nat → Nat → Int32 → Int32 → Mm → Option (Unit × Mm) := Nat.rec (fun _ _ _ _ _ => none) (fun _ ih => f_X4_unpackChanges_b4 ih) n
theorem s_X4_unpackChanges_l4 {x : JX} {ad : Nat → Nat} {U : Mm} {S0 : Hp} {q : Unit × Mm}  (hn9 : x_n x = 8) (C : CB x RX4 cX4_unpackChanges) (M : CMr x 2 none S0 ad true U eV q) : ∀ (n : Nat), ∀ (a0 : Nat) (a1 : Nat) (a2 : Int32) (a3 : Int32) (T : Mm) (_ : kS true a0 = 4) (_ : kS true a1 = 5), f_X4_unpackChanges_l4  n a0 a1 a2 a3 T = some q → Jr x ad true U T [(0, .ref (ad a0)), (1, .ref (ad a1)), (2, .int a2), (3, .int a3)] 4 [] := by
  intro n
  induction n with
  | zero => intro a0 a1 a2 a3 T _ _ h; exact absurd h (by intro h; cases h)
  | succ n ih => exact fun a0 a1 a2 a3 T ha0 ha1 h => s_X4_unpackChanges_b4 hn9 C M (ih) a0 a1 a2 a3 T ha0 ha1 h
noncomputable def f_X4_unpackChanges (p0 : Nat) (p1 : Nat) (T : Mm) : Option (Unit × Mm) :=
  f_X4_unpackChanges_l4 FU p0 p1 0 0 T
set_option maxRecDepth 100000 in
set_option maxHeartbeats 4000000 in
theorem s_X4_unpackChanges {ad : Nat → Nat} {U T : Mm} {q : Unit × Mm}  (p0 : Nat) (p1 : Nat) (hk0 : kS true p0 = 4) (hk1 : kS true p1 = 5) (h : f_X4_unpackChanges p0 p1 T = some q) : Cr 2 yX4_unpackChanges cX4_unpackChanges 8 none [.ref (ad p0), .ref (ad p1)] ad true U T eV q := by
  refine cr_of (by decide) (Nat.le_of_ble_eq_true rfl) fun x S0 hn9 C M => ?_
  have C : CB x RX4 cX4_unpackChanges := C
  refine Jr.eq (lv' := [(0, .ref (ad p0)), (1, .ref (ad p1))]) (st' := []) rfl rfl ?_
  unfold f_X4_unpackChanges at h
  refine r_iconst (v := 0) C dX4_unpackChanges_0 (by decide) ?_
  refine r_istore_n (lv' := [(2, .int 0), (0, .ref (ad p0)), (1, .ref (ad p1))]) C dX4_unpackChanges_1 rfl (by rw [hn9]; decide) rfl ?_
  refine r_iconst (v := 0) C dX4_unpackChanges_2 (by decide) ?_
  refine r_istore_n (lv' := [(3, .int 0), (2, .int 0), (0, .ref (ad p0)), (1, .ref (ad p1))]) C dX4_unpackChanges_3 rfl (by rw [hn9]; decide) rfl ?_
  refine Jr.sub [2, 3, 1, 0] (lv' := [(0, .ref (ad p0)), (1, .ref (ad p1)), (2, .int 0), (3, .int 0)]) rfl ?_
  exact s_X4_unpackChanges_l4 hn9 C M  FU p0 p1 0 0 T hk0 hk1 h
theorem dX4_unpack_0 : decode cX4_unpack 0 = .ok (.aload_n 0, 1) := by decide +kernel
theorem dX4_unpack_1 : decode cX4_unpack 1 = .ok (.getfield 17, 3) := by decide +kernel
theorem dX4_unpack_4 : decode cX4_unpack 4 = .ok (.iconst 3, 1) := by decide +kernel
theorem dX4_unpack_5 : decode cX4_unpack 5 = .ok (.if_icmp .eq 7, 3) := by decide +kernel
theorem dX4_unpack_8 : decode cX4_unpack 8 = .ok (.aload_n 0, 1) := by decide +kernel
theorem dX4_unpack_9 : decode cX4_unpack 9 = .ok (.invokevirtual 42, 3) := by decide +kernel
theorem dX4_unpack_12 : decode cX4_unpack 12 = .ok (.aload_n 0, 1) := by decide +kernel
theorem dX4_unpack_13 : decode cX4_unpack 13 = .ok (.getfield 17, 3) := by decide +kernel
theorem dX4_unpack_16 : decode cX4_unpack 16 = .ok (.tableswitch 52 1 3 #[28, 36, 44], 28) := by decide +kernel
theorem dX4_unpack_44 : decode cX4_unpack 44 = .ok (.aload_n 0, 1) := by decide +kernel
theorem dX4_unpack_45 : decode cX4_unpack 45 = .ok (.aload_n 1, 1) := by decide +kernel
theorem dX4_unpack_46 : decode cX4_unpack 46 = .ok (.invokevirtual 61, 3) := by decide +kernel
theorem dX4_unpack_49 : decode cX4_unpack 49 = .ok (.goto 52, 3) := by decide +kernel
theorem dX4_unpack_52 : decode cX4_unpack 52 = .ok (.aload_n 0, 1) := by decide +kernel
theorem dX4_unpack_53 : decode cX4_unpack 53 = .ok (.aload_n 1, 1) := by decide +kernel
theorem dX4_unpack_54 : decode cX4_unpack 54 = .ok (.invokevirtual 65, 3) := by decide +kernel
theorem dX4_unpack_57 : decode cX4_unpack 57 = .ok (.goto 44, 3) := by decide +kernel
theorem dX4_unpack_60 : decode cX4_unpack 60 = .ok (.aload_n 0, 1) := by decide +kernel
theorem dX4_unpack_61 : decode cX4_unpack 61 = .ok (.aload_n 1, 1) := by decide +kernel
theorem dX4_unpack_62 : decode cX4_unpack 62 = .ok (.invokevirtual 68, 3) := by decide +kernel
theorem dX4_unpack_65 : decode cX4_unpack 65 = .ok (.goto 36, 3) := by decide +kernel
theorem dX4_unpack_68 : decode cX4_unpack 68 = .ok (.iconst 0, 1) := by decide +kernel
theorem dX4_unpack_69 : decode cX4_unpack 69 = .ok (.istore_n 2, 1) := by decide +kernel
theorem dX4_unpack_70 : decode cX4_unpack 70 = .ok (.iload_n 2, 1) := by decide +kernel
theorem dX4_unpack_71 : decode cX4_unpack 71 = .ok (.aload_n 1, 1) := by decide +kernel
theorem dX4_unpack_72 : decode cX4_unpack 72 = .ok (.getfield 71, 3) := by decide +kernel
theorem dX4_unpack_75 : decode cX4_unpack 75 = .ok (.if_icmp .ge 26, 3) := by decide +kernel
theorem dX4_unpack_78 : decode cX4_unpack 78 = .ok (.iload_n 2, 1) := by decide +kernel
theorem dX4_unpack_79 : decode cX4_unpack 79 = .ok (.bipush 80, 2) := by decide +kernel
theorem dX4_unpack_81 : decode cX4_unpack 81 = .ok (.if_icmp .ge 20, 3) := by decide +kernel
theorem dX4_unpack_84 : decode cX4_unpack 84 = .ok (.aload_n 0, 1) := by decide +kernel
theorem dX4_unpack_85 : decode cX4_unpack 85 = .ok (.iload_n 2, 1) := by decide +kernel
theorem dX4_unpack_86 : decode cX4_unpack 86 = .ok (.aload_n 1, 1) := by decide +kernel
theorem dX4_unpack_87 : decode cX4_unpack 87 = .ok (.iload_n 2, 1) := by decide +kernel
theorem dX4_unpack_88 : decode cX4_unpack 88 = .ok (.invokevirtual 76, 3) := by decide +kernel
theorem dX4_unpack_91 : decode cX4_unpack 91 = .ok (.iconst 1, 1) := by decide +kernel
theorem dX4_unpack_92 : decode cX4_unpack 92 = .ok (.invokevirtual 80, 3) := by decide +kernel
theorem dX4_unpack_95 : decode cX4_unpack 95 = .ok (.iinc 2 1, 3) := by decide +kernel
theorem dX4_unpack_98 : decode cX4_unpack 98 = .ok (.goto (-28), 3) := by decide +kernel
theorem dX4_unpack_101 : decode cX4_unpack 101 = .ok (.return_, 1) := by decide +kernel
noncomputable def f_X4_unpack_b70 (k70 : Nat → Nat → Int32 → Mm → Option (Unit × Mm)) (a0 : Nat) (a1 : Nat) (a2 : Int32) (T : Mm) : Option (Unit × Mm) :=
  if (gI T 512 a1) ≤ a2 then (some ((), T))
  else (if 80 ≤ a2 then (some ((), T))
  else (bd (f_X5_dataByte a1 a2 T) fun v1 T2 =>
  bd (f_X4_put a0 a2 v1 1 T2) fun _ T3 =>
  k70 a0 a1 (a2 + 1) T3))
set_option maxRecDepth 100000 in
set_option maxHeartbeats 4000000 in
theorem s_X4_unpack_b70 {x : JX} {ad : Nat → Nat} {U : Mm} {S0 : Hp} {q : Unit × Mm}  {k70 : Nat → Nat → Int32 → Mm → Option (Unit × Mm)} (hn9 : x_n x = 3) (C : CB x RX4 cX4_unpack) (M : CMr x 3 none S0 ad true U eV q) (hk70 : ∀ (a0 : Nat) (a1 : Nat) (a2 : Int32) (T : Mm) (_ : kS true a0 = 4) (_ : kS true a1 = 5), k70 a0 a1 a2 T = some q → Jr x ad true U T [(0, .ref (ad a0)), (1, .ref (ad a1)), (2, .int a2)] 70 []) (a0 : Nat) (a1 : Nat) (a2 : Int32) (T : Mm) (ha0 : kS true a0 = 4) (ha1 : kS true a1 = 5) (h : f_X4_unpack_b70 k70 a0 a1 a2 T = some q) : Jr x ad true U T [(0, .ref (ad a0)), (1, .ref (ad a1)), (2, .int a2)] 70 [] := by
  unfold f_X4_unpack_b70 at h
  refine r_iload_n C dX4_unpack_70 rfl 2 rfl ?_
  refine r_aload_n C dX4_unpack_71 rfl 1 rfl ?_
  refine r_geti (f := 512) C flX4_71 dX4_unpack_72 ha1 (by decide) (by decide) rfl ?_
  refine r_ic_ge (tgt := 101) C dX4_unpack_75 (by decide) h (fun h => ?_) (fun h => ?_)
  · exact r_vret C M dX4_unpack_101 h
  · refine r_iload_n C dX4_unpack_78 rfl 2 rfl ?_
    refine r_bipush (v := 80) C dX4_unpack_79 (by decide) ?_
    refine r_ic_ge (tgt := 101) C dX4_unpack_81 (by decide) h (fun h => ?_) (fun h => ?_)
    · exact r_vret C M dX4_unpack_101 h
    · refine r_aload_n C dX4_unpack_84 rfl 0 rfl ?_
      refine r_iload_n C dX4_unpack_85 rfl 2 rfl ?_
      refine r_aload_n C dX4_unpack_86 rfl 1 rfl ?_
      refine r_iload_n C dX4_unpack_87 rfl 2 rfl ?_
      refine r_callVI C M h [.int a2] [.int a2, .ref (ad a0)] mlX4_76 mcX5_dataByte (fun q9 e9 => s_X5_dataByte a1 a2 ha1 e9) ha1 rfl (by decide) (by decide) rfl rfl (Nat.le_of_ble_eq_true rfl) dX4_unpack_88 (fun v1 T2 h => ?_)
      show Jr _ _ _ _ _ _ 91 _
      refine r_iconst (v := 1) C dX4_unpack_91 (by decide) ?_
      refine r_callVN C M h [.int a2, .int v1, .int 1] [] mlX4_80 mcX4_put (fun q9 e9 => s_X4_put a0 a2 v1 1 ha0 e9) ha0 rfl (by decide) (by decide) rfl rfl (Nat.le_of_ble_eq_true rfl) dX4_unpack_92 (fun _ T3 h => ?_)
      refine r_iinc (q := 2) (v := (a2 + 1)) (lv' := [(2, .int (a2 + 1)), (0, .ref (ad a0)), (1, .ref (ad a1))]) C dX4_unpack_95 rfl (by rw [show Int32.ofInt (1) = 1 by decide]) (by rw [hn9]; decide) rfl ?_
      refine r_goto (tgt := 70) C dX4_unpack_98 (by decide) ?_
      refine Jr.sub [1, 2, 0] (lv' := [(0, .ref (ad a0)), (1, .ref (ad a1)), (2, .int (a2 + 1))]) rfl ?_
      exact hk70 a0 a1 (a2 + 1) T3 ha0 ha1 h
noncomputable def f_X4_unpack_l70 (n : Nat) : Nat → Nat → Int32 → Mm → Option (Unit × Mm) := Nat.rec (fun _ _ _ _ => none) (fun _ ih => f_X4_unpack_b70 ih) n
theorem s_X4_unpack_l70 {x : JX} {ad : Nat → Nat} {U : Mm} {S0 : Hp} {q : Unit × Mm}  (hn9 : x_n x = 3) (C : CB x RX4 cX4_unpack) (M : CMr x 3 none S0 ad true U eV q) : ∀ (n : Nat), ∀ (a0 : Nat) (a1 : Nat) (a2 : Int32) (T : Mm) (_ : kS true a0 = 4) (_ : kS true a1 = 5), f_X4_unpack_l70  n a0 a1 a2 T = some q → Jr x ad true U T [(0, .ref (ad a0)), (1, .ref (ad a1)), (2, .int a2)] 70 [] := by
  intro n
  induction n with
  | zero => intro a0 a1 a2 T _ _ h; exact absurd h (by intro h; cases h)
  | succ n ih => exact fun a0 a1 a2 T ha0 ha1 h => s_X4_unpack_b70 hn9 C M (ih) a0 a1 a2 T ha0 ha1 h
noncomputable def f_X4_unpack_12 (a0 : Nat) (a1 : Nat) (T : Mm) : Option (Unit × Mm) :=
  lb ((gI T 401 a0)) fun v1 =>
  if v1 = 1 then (bd (f_X4_unpackPairs a0 a1 T) fun _ T3 =>
  some ((), T3))
  else if v1 = 2 then (bd (f_X4_unpackMixed a0 a1 T) fun _ T5 =>
  some ((), T5))
  else if v1 = 3 then (bd (f_X4_unpackChanges a0 a1 T) fun _ T7 =>
  some ((), T7))
  else (f_X4_unpack_l70 FU a0 a1 0 T)
set_option maxRecDepth 100000 in
set_option maxHeartbeats 4000000 in
theorem s_X4_unpack_12 {x : JX} {ad : Nat → Nat} {U : Mm} {S0 : Hp} {q : Unit × Mm}  (hn9 : x_n x = 3) (C : CB x RX4 cX4_unpack) (M : CMr x 3 none S0 ad true U eV q) (a0 : Nat) (a1 : Nat) (T : Mm) (ha0 : kS true a0 = 4) (ha1 : kS true a1 = 5) (h : f_X4_unpack_12  a0 a1 T = some q) : Jr x ad true U T [(0, .ref (ad a0)), (1, .ref (ad a1))] 12 [] := by
  unfold f_X4_unpack_12 at h
  refine r_aload_n C dX4_unpack_12 rfl 0 rfl ?_
  refine r_geti (f := 401) C flX4_17 dX4_unpack_13 ha0 (by decide) (by decide) rfl ?_
  refine r_lbI h (fun v1 h => ?_)
  by_cases hs2 : v1 = 1
  · rw [if_pos hs2] at h
    refine r_top hs2 ?_
    refine r_tabIn (off := 28) (tgt := 44) C dX4_unpack_16 (by decide) (by decide) (by decide) (by decide) ?_
    refine r_aload_n C dX4_unpack_44 rfl 0 rfl ?_
    refine r_aload_n C dX4_unpack_45 rfl 1 rfl ?_
    refine r_callVN C M h [.ref (ad a1)] [] mlX4_61 mcX4_unpackPairs (fun q9 e9 => s_X4_unpackPairs a0 a1 ha0 ha1 e9) ha0 rfl (by decide) (by decide) rfl rfl (Nat.le_of_ble_eq_true rfl) dX4_unpack_46 (fun _ T3 h => ?_)
    refine r_goto (tgt := 101) C dX4_unpack_49 (by decide) ?_
    exact r_vret C M dX4_unpack_101 h
  rw [if_neg hs2] at h
  by_cases hs4 : v1 = 2
  · rw [if_pos hs4] at h
    refine r_top hs4 ?_
    refine r_tabIn (off := 36) (tgt := 52) C dX4_unpack_16 (by decide) (by decide) (by decide) (by decide) ?_
    refine r_aload_n C dX4_unpack_52 rfl 0 rfl ?_
    refine r_aload_n C dX4_unpack_53 rfl 1 rfl ?_
    refine r_callVN C M h [.ref (ad a1)] [] mlX4_65 mcX4_unpackMixed (fun q9 e9 => s_X4_unpackMixed a0 a1 ha0 ha1 e9) ha0 rfl (by decide) (by decide) rfl rfl (Nat.le_of_ble_eq_true rfl) dX4_unpack_54 (fun _ T5 h => ?_)
    refine r_goto (tgt := 101) C dX4_unpack_57 (by decide) ?_
    exact r_vret C M dX4_unpack_101 h
  rw [if_neg hs4] at h
  by_cases hs6 : v1 = 3
  · rw [if_pos hs6] at h
    refine r_top hs6 ?_
    refine r_tabIn (off := 44) (tgt := 60) C dX4_unpack_16 (by decide) (by decide) (by decide) (by decide) ?_
    refine r_aload_n C dX4_unpack_60 rfl 0 rfl ?_
    refine r_aload_n C dX4_unpack_61 rfl 1 rfl ?_
    refine r_callVN C M h [.ref (ad a1)] [] mlX4_68 mcX4_unpackChanges (fun q9 e9 => s_X4_unpackChanges a0 a1 ha0 ha1 e9) ha0 rfl (by decide) (by decide) rfl rfl (Nat.le_of_ble_eq_true rfl) dX4_unpack_62 (fun _ T7 h => ?_)
    refine r_goto (tgt := 101) C dX4_unpack_65 (by decide) ?_
    exact r_vret C M dX4_unpack_101 h
  rw [if_neg hs6] at h
  refine r_tabOut (tgt := 68) C dX4_unpack_16 (by have t09 : (v1).toInt ≠ 1 := ne_toInt hs2 (by decide); have t19 : (v1).toInt ≠ 2 := ne_toInt hs4 (by decide); have t29 : (v1).toInt ≠ 3 := ne_toInt hs6 (by decide); omega) (by decide) ?_
  refine r_iconst (v := 0) C dX4_unpack_68 (by decide) ?_
  refine r_istore_n (lv' := [(2, .int 0), (0, .ref (ad a0)), (1, .ref (ad a1))]) C dX4_unpack_69 rfl (by rw [hn9]; decide) rfl ?_
  refine Jr.sub [1, 2, 0] (lv' := [(0, .ref (ad a0)), (1, .ref (ad a1)), (2, .int 0)]) rfl ?_
  exact s_X4_unpack_l70 hn9 C M  FU a0 a1 0 T ha0 ha1 h
noncomputable def f_X4_unpack (p0 : Nat) (p1 : Nat) (T : Mm) : Option (Unit × Mm) :=
  if (gI T 401 p0) = 3 then (f_X4_unpack_12 p0 p1 T)
  else (bd (f_X4_clearRow p0 T) fun _ T1 =>
  f_X4_unpack_12 p0 p1 T1)
set_option maxRecDepth 100000 in
set_option maxHeartbeats 4000000 in
theorem s_X4_unpack {ad : Nat → Nat} {U T : Mm} {q : Unit × Mm}  (p0 : Nat) (p1 : Nat) (hk0 : kS true p0 = 4) (hk1 : kS true p1 = 5) (h : f_X4_unpack p0 p1 T = some q) : Cr 3 yX4_unpack cX4_unpack 3 none [.ref (ad p0), .ref (ad p1)] ad true U T eV q := by
  refine cr_of (by decide) (Nat.le_of_ble_eq_true rfl) fun x S0 hn9 C M => ?_
  have C : CB x RX4 cX4_unpack := C
  refine Jr.eq (lv' := [(0, .ref (ad p0)), (1, .ref (ad p1))]) (st' := []) rfl rfl ?_
  unfold f_X4_unpack at h
  refine r_aload_n C dX4_unpack_0 rfl 0 rfl ?_
  refine r_geti (f := 401) C flX4_17 dX4_unpack_1 hk0 (by decide) (by decide) rfl ?_
  refine r_iconst (v := 3) C dX4_unpack_4 (by decide) ?_
  refine r_ic_eq (tgt := 12) C dX4_unpack_5 (by decide) h (fun h => ?_) (fun h => ?_)
  · exact s_X4_unpack_12 hn9 C M  p0 p1 T hk0 hk1 h
  · refine r_aload_n C dX4_unpack_8 rfl 0 rfl ?_
    refine r_callVN C M h [] [] mlX4_42 mcX4_clearRow (fun q9 e9 => s_X4_clearRow p0 hk0 e9) hk0 rfl (by decide) (by decide) rfl rfl (Nat.le_of_ble_eq_true rfl) dX4_unpack_9 (fun _ T1 h => ?_)
    exact s_X4_unpack_12 hn9 C M  p0 p1 T1 hk0 hk1 h
theorem dX4_dotsInRow_0 : decode cX4_dotsInRow 0 = .ok (.aload_n 0, 1) := by decide +kernel
theorem dX4_dotsInRow_1 : decode cX4_dotsInRow 1 = .ok (.getfield 20, 3) := by decide +kernel
theorem dX4_dotsInRow_4 : decode cX4_dotsInRow 4 = .ok (.ifCond .le 16, 3) := by decide +kernel
theorem dX4_dotsInRow_7 : decode cX4_dotsInRow 7 = .ok (.aload_n 0, 1) := by decide +kernel
theorem dX4_dotsInRow_8 : decode cX4_dotsInRow 8 = .ok (.getfield 20, 3) := by decide +kernel
theorem dX4_dotsInRow_11 : decode cX4_dotsInRow 11 = .ok (.sipush 640, 3) := by decide +kernel
theorem dX4_dotsInRow_14 : decode cX4_dotsInRow 14 = .ok (.invokestatic 55, 3) := by decide +kernel
theorem dX4_dotsInRow_17 : decode cX4_dotsInRow 17 = .ok (.goto 6, 3) := by decide +kernel
theorem dX4_dotsInRow_20 : decode cX4_dotsInRow 20 = .ok (.sipush 640, 3) := by decide +kernel
theorem dX4_dotsInRow_23 : decode cX4_dotsInRow 23 = .ok (.ireturn, 1) := by decide +kernel
noncomputable def f_X4_dotsInRow (p0 : Nat) (T : Mm) : Option (Int32 × Mm) :=
  if (gI T 402 p0) ≤ 0 then (some (640, T))
  else (bd (f_J9_min_7cf53 (gI T 402 p0) 640 T) fun v1 T2 =>
  some (v1, T2))
set_option maxRecDepth 100000 in
set_option maxHeartbeats 4000000 in
theorem s_X4_dotsInRow {ad : Nat → Nat} {U T : Mm} {q : Int32 × Mm}  (p0 : Nat) (hk0 : kS true p0 = 4) (h : f_X4_dotsInRow p0 T = some q) : Cr 2 yX4_dotsInRow cX4_dotsInRow 1 (some .int) [.ref (ad p0)] ad true U T eI q := by
  refine cr_of (by decide) (Nat.le_of_ble_eq_true rfl) fun x S0 hn9 C M => ?_
  have C : CB x RX4 cX4_dotsInRow := C
  refine Jr.eq (lv' := [(0, .ref (ad p0))]) (st' := []) rfl rfl ?_
  unfold f_X4_dotsInRow at h
  refine r_aload_n C dX4_dotsInRow_0 rfl 0 rfl ?_
  refine r_geti (f := 402) C flX4_20 dX4_dotsInRow_1 hk0 (by decide) (by decide) rfl ?_
  refine r_if_le (tgt := 20) C dX4_dotsInRow_4 (by decide) h (fun h => ?_) (fun h => ?_)
  · refine r_sipush (v := 640) C dX4_dotsInRow_20 (by decide) ?_
    exact r_iret C M dX4_dotsInRow_23 h
  · refine r_aload_n C dX4_dotsInRow_7 rfl 0 rfl ?_
    refine r_geti (f := 402) C flX4_20 dX4_dotsInRow_8 hk0 (by decide) (by decide) rfl ?_
    refine r_sipush (v := 640) C dX4_dotsInRow_11 (by decide) ?_
    refine r_callSI C M h [.int (gI T 402 p0), .int 640] [] mlX4_55 mcJ9_min_7cf53 (fun q9 e9 => s_J9_min_7cf53 (gI T 402 p0) 640  e9) (by decide) (by decide) rfl rfl (Nat.le_of_ble_eq_true rfl) dX4_dotsInRow_14 (fun v1 T2 h => ?_)
    refine r_goto (tgt := 23) C dX4_dotsInRow_17 (by decide) ?_
    show Jr _ _ _ _ _ _ 23 _
    exact r_iret C M dX4_dotsInRow_23 h
theorem dX11_blacken_0 : decode cX11_blacken 0 = .ok (.iload_n 1, 1) := by decide +kernel
theorem dX11_blacken_1 : decode cX11_blacken 1 = .ok (.ifCond .lt 12, 3) := by decide +kernel
theorem dX11_blacken_4 : decode cX11_blacken 4 = .ok (.iload_n 2, 1) := by decide +kernel
theorem dX11_blacken_5 : decode cX11_blacken 5 = .ok (.ifCond .lt 8, 3) := by decide +kernel
theorem dX11_blacken_8 : decode cX11_blacken 8 = .ok (.iload_n 2, 1) := by decide +kernel
theorem dX11_blacken_9 : decode cX11_blacken 9 = .ok (.iload_n 3, 1) := by decide +kernel
theorem dX11_blacken_10 : decode cX11_blacken 10 = .ok (.if_icmp .lt 4, 3) := by decide +kernel
theorem dX11_blacken_13 : decode cX11_blacken 13 = .ok (.return_, 1) := by decide +kernel
theorem dX11_blacken_14 : decode cX11_blacken 14 = .ok (.iload_n 3, 1) := by decide +kernel
theorem dX11_blacken_15 : decode cX11_blacken 15 = .ok (.iconst 1, 1) := by decide +kernel
theorem dX11_blacken_16 : decode cX11_blacken 16 = .ok (.isub, 1) := by decide +kernel
theorem dX11_blacken_17 : decode cX11_blacken 17 = .ok (.iconst 5, 1) := by decide +kernel
theorem dX11_blacken_18 : decode cX11_blacken 18 = .ok (.ishr, 1) := by decide +kernel
theorem dX11_blacken_19 : decode cX11_blacken 19 = .ok (.istore 4, 2) := by decide +kernel
theorem dX11_blacken_21 : decode cX11_blacken 21 = .ok (.iload_n 1, 1) := by decide +kernel
theorem dX11_blacken_22 : decode cX11_blacken 22 = .ok (.iload 4, 2) := by decide +kernel
theorem dX11_blacken_24 : decode cX11_blacken 24 = .ok (.iadd, 1) := by decide +kernel
theorem dX11_blacken_25 : decode cX11_blacken 25 = .ok (.aload_n 0, 1) := by decide +kernel
theorem dX11_blacken_26 : decode cX11_blacken 26 = .ok (.arraylength, 1) := by decide +kernel
theorem dX11_blacken_27 : decode cX11_blacken 27 = .ok (.if_icmp .lt 4, 3) := by decide +kernel
theorem dX11_blacken_30 : decode cX11_blacken 30 = .ok (.return_, 1) := by decide +kernel
theorem dX11_blacken_31 : decode cX11_blacken 31 = .ok (.iload_n 2, 1) := by decide +kernel
theorem dX11_blacken_32 : decode cX11_blacken 32 = .ok (.iconst 5, 1) := by decide +kernel
theorem dX11_blacken_33 : decode cX11_blacken 33 = .ok (.ishr, 1) := by decide +kernel
theorem dX11_blacken_34 : decode cX11_blacken 34 = .ok (.istore 5, 2) := by decide +kernel
theorem dX11_blacken_36 : decode cX11_blacken 36 = .ok (.iload 5, 2) := by decide +kernel
theorem dX11_blacken_38 : decode cX11_blacken 38 = .ok (.iload 4, 2) := by decide +kernel
theorem dX11_blacken_40 : decode cX11_blacken 40 = .ok (.if_icmp .gt 25, 3) := by decide +kernel
theorem dX11_blacken_43 : decode cX11_blacken 43 = .ok (.aload_n 0, 1) := by decide +kernel
theorem dX11_blacken_44 : decode cX11_blacken 44 = .ok (.iload_n 1, 1) := by decide +kernel
theorem dX11_blacken_45 : decode cX11_blacken 45 = .ok (.iload 5, 2) := by decide +kernel
theorem dX11_blacken_47 : decode cX11_blacken 47 = .ok (.iadd, 1) := by decide +kernel
theorem dX11_blacken_48 : decode cX11_blacken 48 = .ok (.dup2, 1) := by decide +kernel
theorem dX11_blacken_49 : decode cX11_blacken 49 = .ok (.iaload, 1) := by decide +kernel
theorem dX11_blacken_50 : decode cX11_blacken 50 = .ok (.iload 5, 2) := by decide +kernel
theorem dX11_blacken_52 : decode cX11_blacken 52 = .ok (.iload_n 2, 1) := by decide +kernel
theorem dX11_blacken_53 : decode cX11_blacken 53 = .ok (.iload_n 3, 1) := by decide +kernel
theorem dX11_blacken_54 : decode cX11_blacken 54 = .ok (.invokestatic 168, 3) := by decide +kernel
theorem dX11_blacken_57 : decode cX11_blacken 57 = .ok (.ior, 1) := by decide +kernel
theorem dX11_blacken_58 : decode cX11_blacken 58 = .ok (.iastore, 1) := by decide +kernel
theorem dX11_blacken_59 : decode cX11_blacken 59 = .ok (.iinc 5 1, 3) := by decide +kernel
theorem dX11_blacken_62 : decode cX11_blacken 62 = .ok (.goto (-26), 3) := by decide +kernel
theorem dX11_blacken_65 : decode cX11_blacken 65 = .ok (.return_, 1) := by decide +kernel
noncomputable def f_X11_blacken_b36 (k36 : Nat → Int32 → Int32 → Int32 → Int32 → Int32 → Mm → Option (Unit × Mm)) (a0 : Nat) (a1 : Int32) (a2 : Int32) (a3 : Int32) (a4 : Int32) (a5 : Int32) (T : Mm) : Option (Unit × Mm) :=
  if a4 < a5 then (some ((), T))
  else (ix (a1 + a5) (LN a0) fun j1 =>
  bd (f_X11_maskOf a5 a2 a3 T) fun v3 T4 =>
  ix (a1 + a5) (LN a0) fun j5 => lb (uA T4 a0 j5 (((gA T a0 j1) ||| v3))) fun T7 =>
  k36 a0 a1 a2 a3 a4 (a5 + 1) T7)
set_option maxRecDepth 100000 in
set_option maxHeartbeats 4000000 in
theorem s_X11_blacken_b36 {x : JX} {ad : Nat → Nat} {U : Mm} {S0 : Hp} {q : Unit × Mm}  {k36 : Nat → Int32 → Int32 → Int32 → Int32 → Int32 → Mm → Option (Unit × Mm)} (hn9 : x_n x = 6) (C : CB x RX11 cX11_blacken) (M : CMr x 3 none S0 ad true U eV q) (hk36 : ∀ (a0 : Nat) (a1 : Int32) (a2 : Int32) (a3 : Int32) (a4 : Int32) (a5 : Int32) (T : Mm) (_ : kS true a0 = 14), k36 a0 a1 a2 a3 a4 a5 T = some q → Jr x ad true U T [(0, .ref (ad a0)), (1, .int a1), (2, .int a2), (3, .int a3), (4, .int a4), (5, .int a5)] 36 []) (a0 : Nat) (a1 : Int32) (a2 : Int32) (a3 : Int32) (a4 : Int32) (a5 : Int32) (T : Mm) (ha0 : kS true a0 = 14) (h : f_X11_blacken_b36 k36 a0 a1 a2 a3 a4 a5 T = some q) : Jr x ad true U T [(0, .ref (ad a0)), (1, .int a1), (2, .int a2), (3, .int a3), (4, .int a4), (5, .int a5)] 36 [] := by
  unfold f_X11_blacken_b36 at h
  refine r_iload C dX11_blacken_36 5 rfl ?_
  refine r_iload C dX11_blacken_38 4 rfl ?_
  refine r_ic_gt (tgt := 65) C dX11_blacken_40 (by decide) h (fun h => ?_) (fun h => ?_)
  · exact r_vret C M dX11_blacken_65 h
  · refine r_aload_n C dX11_blacken_43 rfl 0 rfl ?_
    refine r_iload_n C dX11_blacken_44 rfl 1 rfl ?_
    refine r_iload C dX11_blacken_45 5 rfl ?_
    refine r_iadd C dX11_blacken_47 rfl ?_
    refine r_dup2 C dX11_blacken_48 rfl rfl ?_
    show Jr _ _ _ _ _ _ 49 _
    refine r_iald (n := (LN a0)) C dX11_blacken_49 ha0 rfl h (fun j1 hj2 h => ?_)
    refine r_iload C dX11_blacken_50 5 rfl ?_
    refine r_iload_n C dX11_blacken_52 rfl 2 rfl ?_
    refine r_iload_n C dX11_blacken_53 rfl 3 rfl ?_
    refine r_callSI C M h [.int a5, .int a2, .int a3] [.int (gA T a0 j1), .int (a1 + a5), .ref (ad a0)] mlX11_168 mcX11_maskOf (fun q9 e9 => s_X11_maskOf a5 a2 a3  e9) (by decide) (by decide) rfl rfl (Nat.le_of_ble_eq_true rfl) dX11_blacken_54 (fun v3 T4 h => ?_)
    refine r_ior C dX11_blacken_57 rfl ?_
    show Jr _ _ _ _ _ _ 58 _
    refine r_iast (n := (LN a0)) C dX11_blacken_58 ha0 rfl h (fun j5 T7 hj6 h => ?_)
    refine r_iinc (q := 5) (v := (a5 + 1)) (lv' := [(5, .int (a5 + 1)), (0, .ref (ad a0)), (1, .int a1), (2, .int a2), (3, .int a3), (4, .int a4)]) C dX11_blacken_59 rfl (by rw [show Int32.ofInt (1) = 1 by decide]) (by rw [hn9]; decide) rfl ?_
    refine r_goto (tgt := 36) C dX11_blacken_62 (by decide) ?_
    refine Jr.sub [1, 2, 3, 4, 5, 0] (lv' := [(0, .ref (ad a0)), (1, .int a1), (2, .int a2), (3, .int a3), (4, .int a4), (5, .int (a5 + 1))]) rfl ?_
    exact hk36 a0 a1 a2 a3 a4 (a5 + 1) T7 ha0 h
noncomputable def f_X11_blacken_l36 (n : Nat) : Nat → Int32 → Int32 → Int32 → Int32 → Int32 → Mm → Option (Unit × Mm) := Nat.rec (fun _ _ _ _ _ _ _ => none) (fun _ ih => f_X11_blacken_b36 ih) n
theorem s_X11_blacken_l36 {x : JX} {ad : Nat → Nat} {U : Mm} {S0 : Hp} {q : Unit × Mm}  (hn9 : x_n x = 6) (C : CB x RX11 cX11_blacken) (M : CMr x 3 none S0 ad true U eV q) : ∀ (n : Nat), ∀ (a0 : Nat) (a1 : Int32) (a2 : Int32) (a3 : Int32) (a4 : Int32) (a5 : Int32) (T : Mm) (_ : kS true a0 = 14), f_X11_blacken_l36  n a0 a1 a2 a3 a4 a5 T = some q → Jr x ad true U T [(0, .ref (ad a0)), (1, .int a1), (2, .int a2), (3, .int a3), (4, .int a4), (5, .int a5)] 36 [] := by
  intro n
  induction n with
  | zero => intro a0 a1 a2 a3 a4 a5 T _ h; exact absurd h (by intro h; cases h)
  | succ n ih => exact fun a0 a1 a2 a3 a4 a5 T ha0 h => s_X11_blacken_b36 hn9 C M (ih) a0 a1 a2 a3 a4 a5 T ha0 h
noncomputable def f_X11_blacken (p0 : Nat) (p1 : Int32) (p2 : Int32) (p3 : Int32) (T : Mm) : Option (Unit × Mm) :=
  if p1 < 0 then (some ((), T))
  else (if p2 < 0 then (some ((), T))
  else (if p2 < p3 then (lb (((p3 - 1) >>> ((5 : Int32) &&& 31))) fun v1 =>
  if (p1 + v1) < (Int32.ofNat (LN p0)) then (lb ((p2 >>> ((5 : Int32) &&& 31))) fun v2 =>
  f_X11_blacken_l36 FU p0 p1 p2 p3 v1 v2 T)
  else (some ((), T)))
  else (some ((), T))))
set_option maxRecDepth 100000 in
set_option maxHeartbeats 4000000 in
theorem s_X11_blacken {ad : Nat → Nat} {U T : Mm} {q : Unit × Mm}  (p0 : Nat) (p1 : Int32) (p2 : Int32) (p3 : Int32) (hk0 : kS true p0 = 14) (h : f_X11_blacken p0 p1 p2 p3 T = some q) : Cr 3 yX11_blacken cX11_blacken 6 none [.ref (ad p0), .int p1, .int p2, .int p3] ad true U T eV q := by
  refine cr_of (by decide) (Nat.le_of_ble_eq_true rfl) fun x S0 hn9 C M => ?_
  have C : CB x RX11 cX11_blacken := C
  refine Jr.eq (lv' := [(0, .ref (ad p0)), (1, .int p1), (2, .int p2), (3, .int p3)]) (st' := []) rfl rfl ?_
  unfold f_X11_blacken at h
  refine r_iload_n C dX11_blacken_0 rfl 1 rfl ?_
  refine r_if_lt (tgt := 13) C dX11_blacken_1 (by decide) h (fun h => ?_) (fun h => ?_)
  · exact r_vret C M dX11_blacken_13 h
  · refine r_iload_n C dX11_blacken_4 rfl 2 rfl ?_
    refine r_if_lt (tgt := 13) C dX11_blacken_5 (by decide) h (fun h => ?_) (fun h => ?_)
    · exact r_vret C M dX11_blacken_13 h
    · refine r_iload_n C dX11_blacken_8 rfl 2 rfl ?_
      refine r_iload_n C dX11_blacken_9 rfl 3 rfl ?_
      refine r_ic_lt (tgt := 14) C dX11_blacken_10 (by decide) h (fun h => ?_) (fun h => ?_)
      · refine r_iload_n C dX11_blacken_14 rfl 3 rfl ?_
        refine r_iconst (v := 1) C dX11_blacken_15 (by decide) ?_
        refine r_isub C dX11_blacken_16 rfl ?_
        refine r_iconst (v := 5) C dX11_blacken_17 (by decide) ?_
        refine r_ishr C dX11_blacken_18 rfl ?_
        show Jr _ _ _ _ _ _ 19 _
        refine r_lbI h (fun v1 h => ?_)
        refine r_istore (lv' := [(4, .int v1), (0, .ref (ad p0)), (1, .int p1), (2, .int p2), (3, .int p3)]) C dX11_blacken_19 (by rw [hn9]; decide) rfl ?_
        refine r_iload_n C dX11_blacken_21 rfl 2 rfl ?_
        refine r_iload C dX11_blacken_22 0 rfl ?_
        refine r_iadd C dX11_blacken_24 rfl ?_
        refine r_aload_n C dX11_blacken_25 rfl 1 rfl ?_
        refine r_alen (n := 0) C dX11_blacken_26 hk0 (by decide) (by decide) rfl ?_
        show Jr _ _ _ _ _ _ 27 _
        refine r_ic_lt (tgt := 31) C dX11_blacken_27 (by decide) h (fun h => ?_) (fun h => ?_)
        · refine r_iload_n C dX11_blacken_31 rfl 3 rfl ?_
          refine r_iconst (v := 5) C dX11_blacken_32 (by decide) ?_
          refine r_ishr C dX11_blacken_33 rfl ?_
          refine r_lbI h (fun v2 h => ?_)
          refine r_istore (lv' := [(5, .int v2), (4, .int v1), (0, .ref (ad p0)), (1, .int p1), (2, .int p2), (3, .int p3)]) C dX11_blacken_34 (by rw [hn9]; decide) rfl ?_
          refine Jr.sub [2, 3, 4, 5, 1, 0] (lv' := [(0, .ref (ad p0)), (1, .int p1), (2, .int p2), (3, .int p3), (4, .int v1), (5, .int v2)]) rfl ?_
          exact s_X11_blacken_l36 hn9 C M  FU p0 p1 p2 p3 v1 v2 T hk0 h
        · exact r_vret C M dX11_blacken_30 h
      · exact r_vret C M dX11_blacken_13 h
theorem dX0_layRow_0 : decode cX0_layRow 0 = .ok (.aload_n 0, 1) := by decide +kernel
theorem dX0_layRow_1 : decode cX0_layRow 1 = .ok (.getfield 15, 3) := by decide +kernel
theorem dX0_layRow_4 : decode cX0_layRow 4 = .ok (.iconst 0, 1) := by decide +kernel
theorem dX0_layRow_5 : decode cX0_layRow 5 = .ok (.invokestatic 42, 3) := by decide +kernel
theorem dX0_layRow_8 : decode cX0_layRow 8 = .ok (.aload_n 1, 1) := by decide +kernel
theorem dX0_layRow_9 : decode cX0_layRow 9 = .ok (.invokevirtual 114, 3) := by decide +kernel
theorem dX0_layRow_12 : decode cX0_layRow 12 = .ok (.istore_n 2, 1) := by decide +kernel
theorem dX0_layRow_13 : decode cX0_layRow 13 = .ok (.aload_n 1, 1) := by decide +kernel
theorem dX0_layRow_14 : decode cX0_layRow 14 = .ok (.getfield 119, 3) := by decide +kernel
theorem dX0_layRow_17 : decode cX0_layRow 17 = .ok (.iconst 0, 1) := by decide +kernel
theorem dX0_layRow_18 : decode cX0_layRow 18 = .ok (.iconst 0, 1) := by decide +kernel
theorem dX0_layRow_19 : decode cX0_layRow 19 = .ok (.iload_n 2, 1) := by decide +kernel
theorem dX0_layRow_20 : decode cX0_layRow 20 = .ok (.iconst 0, 1) := by decide +kernel
theorem dX0_layRow_21 : decode cX0_layRow 21 = .ok (.invokestatic 122, 3) := by decide +kernel
theorem dX0_layRow_24 : decode cX0_layRow 24 = .ok (.istore_n 3, 1) := by decide +kernel
theorem dX0_layRow_25 : decode cX0_layRow 25 = .ok (.iconst 0, 1) := by decide +kernel
theorem dX0_layRow_26 : decode cX0_layRow 26 = .ok (.istore 4, 2) := by decide +kernel
theorem dX0_layRow_28 : decode cX0_layRow 28 = .ok (.iload 4, 2) := by decide +kernel
theorem dX0_layRow_30 : decode cX0_layRow 30 = .ok (.iload_n 2, 1) := by decide +kernel
theorem dX0_layRow_31 : decode cX0_layRow 31 = .ok (.if_icmp .ge 85, 3) := by decide +kernel
theorem dX0_layRow_34 : decode cX0_layRow 34 = .ok (.iload_n 3, 1) := by decide +kernel
theorem dX0_layRow_35 : decode cX0_layRow 35 = .ok (.iload_n 2, 1) := by decide +kernel
theorem dX0_layRow_36 : decode cX0_layRow 36 = .ok (.if_icmp .ge 80, 3) := by decide +kernel
theorem dX0_layRow_39 : decode cX0_layRow 39 = .ok (.aload_n 1, 1) := by decide +kernel
theorem dX0_layRow_40 : decode cX0_layRow 40 = .ok (.getfield 119, 3) := by decide +kernel
theorem dX0_layRow_43 : decode cX0_layRow 43 = .ok (.iconst 0, 1) := by decide +kernel
theorem dX0_layRow_44 : decode cX0_layRow 44 = .ok (.iload_n 3, 1) := by decide +kernel
theorem dX0_layRow_45 : decode cX0_layRow 45 = .ok (.iload_n 2, 1) := by decide +kernel
theorem dX0_layRow_46 : decode cX0_layRow 46 = .ok (.iconst 1, 1) := by decide +kernel
theorem dX0_layRow_47 : decode cX0_layRow 47 = .ok (.invokestatic 122, 3) := by decide +kernel
theorem dX0_layRow_50 : decode cX0_layRow 50 = .ok (.istore 5, 2) := by decide +kernel
theorem dX0_layRow_52 : decode cX0_layRow 52 = .ok (.aload_n 1, 1) := by decide +kernel
theorem dX0_layRow_53 : decode cX0_layRow 53 = .ok (.getfield 126, 3) := by decide +kernel
theorem dX0_layRow_56 : decode cX0_layRow 56 = .ok (.iload_n 3, 1) := by decide +kernel
theorem dX0_layRow_57 : decode cX0_layRow 57 = .ok (.aload_n 1, 1) := by decide +kernel
theorem dX0_layRow_58 : decode cX0_layRow 58 = .ok (.getfield 129, 3) := by decide +kernel
theorem dX0_layRow_61 : decode cX0_layRow 61 = .ok (.imul, 1) := by decide +kernel
theorem dX0_layRow_62 : decode cX0_layRow 62 = .ok (.iadd, 1) := by decide +kernel
theorem dX0_layRow_63 : decode cX0_layRow 63 = .ok (.istore 6, 2) := by decide +kernel
theorem dX0_layRow_65 : decode cX0_layRow 65 = .ok (.aload_n 1, 1) := by decide +kernel
theorem dX0_layRow_66 : decode cX0_layRow 66 = .ok (.getfield 126, 3) := by decide +kernel
theorem dX0_layRow_69 : decode cX0_layRow 69 = .ok (.iload 5, 2) := by decide +kernel
theorem dX0_layRow_71 : decode cX0_layRow 71 = .ok (.aload_n 1, 1) := by decide +kernel
theorem dX0_layRow_72 : decode cX0_layRow 72 = .ok (.getfield 129, 3) := by decide +kernel
theorem dX0_layRow_75 : decode cX0_layRow 75 = .ok (.imul, 1) := by decide +kernel
theorem dX0_layRow_76 : decode cX0_layRow 76 = .ok (.iadd, 1) := by decide +kernel
theorem dX0_layRow_77 : decode cX0_layRow 77 = .ok (.istore 7, 2) := by decide +kernel
theorem dX0_layRow_79 : decode cX0_layRow 79 = .ok (.aload_n 0, 1) := by decide +kernel
theorem dX0_layRow_80 : decode cX0_layRow 80 = .ok (.getfield 15, 3) := by decide +kernel
theorem dX0_layRow_83 : decode cX0_layRow 83 = .ok (.iconst 0, 1) := by decide +kernel
theorem dX0_layRow_84 : decode cX0_layRow 84 = .ok (.iload 6, 2) := by decide +kernel
theorem dX0_layRow_86 : decode cX0_layRow 86 = .ok (.iload 7, 2) := by decide +kernel
theorem dX0_layRow_88 : decode cX0_layRow 88 = .ok (.sipush 800, 3) := by decide +kernel
theorem dX0_layRow_91 : decode cX0_layRow 91 = .ok (.invokestatic 92, 3) := by decide +kernel
theorem dX0_layRow_94 : decode cX0_layRow 94 = .ok (.invokestatic 132, 3) := by decide +kernel
theorem dX0_layRow_97 : decode cX0_layRow 97 = .ok (.aload_n 1, 1) := by decide +kernel
theorem dX0_layRow_98 : decode cX0_layRow 98 = .ok (.getfield 119, 3) := by decide +kernel
theorem dX0_layRow_101 : decode cX0_layRow 101 = .ok (.iconst 0, 1) := by decide +kernel
theorem dX0_layRow_102 : decode cX0_layRow 102 = .ok (.iload 5, 2) := by decide +kernel
theorem dX0_layRow_104 : decode cX0_layRow 104 = .ok (.iload_n 2, 1) := by decide +kernel
theorem dX0_layRow_105 : decode cX0_layRow 105 = .ok (.iconst 0, 1) := by decide +kernel
theorem dX0_layRow_106 : decode cX0_layRow 106 = .ok (.invokestatic 122, 3) := by decide +kernel
theorem dX0_layRow_109 : decode cX0_layRow 109 = .ok (.istore_n 3, 1) := by decide +kernel
theorem dX0_layRow_110 : decode cX0_layRow 110 = .ok (.iinc 4 1, 3) := by decide +kernel
theorem dX0_layRow_113 : decode cX0_layRow 113 = .ok (.goto (-85), 3) := by decide +kernel
theorem dX0_layRow_116 : decode cX0_layRow 116 = .ok (.return_, 1) := by decide +kernel
noncomputable def f_X0_layRow_b28 (k28 : Nat → Int32 → Int32 → Int32 → Mm → Option (Unit × Mm)) (a1 : Nat) (a2 : Int32) (a3 : Int32) (a4 : Int32) (T : Mm) : Option (Unit × Mm) :=
  if a2 ≤ a4 then (some ((), T))
  else (if a2 ≤ a3 then (some ((), T))
  else (bd (f_X11_firstOther (a1 + 1) 0 a3 a2 1 T) fun v1 T2 =>
  lb (((gI T2 405 a1) + (a3 * (gI T2 400 a1)))) fun v3 =>
  lb (((gI T2 405 a1) + (v1 * (gI T2 400 a1)))) fun v4 =>
  bd (f_J9_min_7cf53 v4 800 T2) fun v5 T6 =>
  bd (f_X11_blacken 26 0 v3 v5 T6) fun _ T7 =>
  bd (f_X11_firstOther (a1 + 1) 0 v1 a2 0 T7) fun v8 T9 =>
  k28 a1 a2 v8 (a4 + 1) T9))
set_option maxRecDepth 100000 in
set_option maxHeartbeats 4000000 in
theorem s_X0_layRow_b28 {x : JX} {ad : Nat → Nat} {U : Mm} {S0 : Hp} {q : Unit × Mm}  {k28 : Nat → Int32 → Int32 → Int32 → Mm → Option (Unit × Mm)} (hn9 : x_n x = 8) (C : CB x RX0 cX0_layRow) (M : CMr x 4 none S0 ad true U eV q) (hk28 : ∀ (a1 : Nat) (a2 : Int32) (a3 : Int32) (a4 : Int32) (T : Mm) (_ : kS true a1 = 4), k28 a1 a2 a3 a4 T = some q → Jr x ad true U T [(0, .ref (ad 24)), (1, .ref (ad a1)), (2, .int a2), (3, .int a3), (4, .int a4)] 28 []) (a1 : Nat) (a2 : Int32) (a3 : Int32) (a4 : Int32) (T : Mm) (ha1 : kS true a1 = 4) (h : f_X0_layRow_b28 k28 a1 a2 a3 a4 T = some q) : Jr x ad true U T [(0, .ref (ad 24)), (1, .ref (ad a1)), (2, .int a2), (3, .int a3), (4, .int a4)] 28 [] := by
  unfold f_X0_layRow_b28 at h
  refine r_iload C dX0_layRow_28 4 rfl ?_
  refine r_iload_n C dX0_layRow_30 rfl 2 rfl ?_
  refine r_ic_ge (tgt := 116) C dX0_layRow_31 (by decide) h (fun h => ?_) (fun h => ?_)
  · exact r_vret C M dX0_layRow_116 h
  · refine r_iload_n C dX0_layRow_34 rfl 3 rfl ?_
    refine r_iload_n C dX0_layRow_35 rfl 2 rfl ?_
    refine r_ic_ge (tgt := 116) C dX0_layRow_36 (by decide) h (fun h => ?_) (fun h => ?_)
    · exact r_vret C M dX0_layRow_116 h
    · refine r_aload_n C dX0_layRow_39 rfl 1 rfl ?_
      refine r_getp (f := 407) (j := (a1 + 1)) C flX0_119 dX0_layRow_40 ha1 (by decide) rfl (fun W => pt_407 ha1 W) ?_
      refine r_iconst (v := 0) C dX0_layRow_43 (by decide) ?_
      refine r_iload_n C dX0_layRow_44 rfl 3 rfl ?_
      refine r_iload_n C dX0_layRow_45 rfl 2 rfl ?_
      show Jr _ _ _ _ _ _ 46 _
      refine r_iconst (v := 1) C dX0_layRow_46 (by decide) ?_
      refine r_callSI C M h [.ref (ad (a1 + 1)), .int 0, .int a3, .int a2, .int 1] [] mlX0_122 mcX11_firstOther (fun q9 e9 => s_X11_firstOther (a1 + 1) 0 a3 a2 1 (pk_407 ha1) e9) (by decide) (by decide) rfl rfl (Nat.le_of_ble_eq_true rfl) dX0_layRow_47 (fun v1 T2 h => ?_)
      refine r_istore (lv' := [(5, .int v1), (0, .ref (ad 24)), (1, .ref (ad a1)), (2, .int a2), (3, .int a3), (4, .int a4)]) C dX0_layRow_50 (by rw [hn9]; decide) rfl ?_
      refine r_aload_n C dX0_layRow_52 rfl 2 rfl ?_
      refine r_geti (f := 405) C flX0_126 dX0_layRow_53 ha1 (by decide) (by decide) rfl ?_
      refine r_iload_n C dX0_layRow_56 rfl 4 rfl ?_
      show Jr _ _ _ _ _ _ 57 _
      refine r_aload_n C dX0_layRow_57 rfl 2 rfl ?_
      refine r_geti (f := 400) C flX0_129 dX0_layRow_58 ha1 (by decide) (by decide) rfl ?_
      refine r_imul C dX0_layRow_61 rfl ?_
      refine r_iadd C dX0_layRow_62 rfl ?_
      refine r_lbI h (fun v3 h => ?_)
      refine r_istore (lv' := [(6, .int v3), (5, .int v1), (0, .ref (ad 24)), (1, .ref (ad a1)), (2, .int a2), (3, .int a3), (4, .int a4)]) C dX0_layRow_63 (by rw [hn9]; decide) rfl ?_
      refine r_aload_n C dX0_layRow_65 rfl 3 rfl ?_
      show Jr _ _ _ _ _ _ 66 _
      refine r_geti (f := 405) C flX0_126 dX0_layRow_66 ha1 (by decide) (by decide) rfl ?_
      refine r_iload C dX0_layRow_69 1 rfl ?_
      refine r_aload_n C dX0_layRow_71 rfl 3 rfl ?_
      refine r_geti (f := 400) C flX0_129 dX0_layRow_72 ha1 (by decide) (by decide) rfl ?_
      refine r_imul C dX0_layRow_75 rfl ?_
      refine r_iadd C dX0_layRow_76 rfl ?_
      show Jr _ _ _ _ _ _ 77 _
      refine r_lbI h (fun v4 h => ?_)
      refine r_istore (lv' := [(7, .int v4), (6, .int v3), (5, .int v1), (0, .ref (ad 24)), (1, .ref (ad a1)), (2, .int a2), (3, .int a3), (4, .int a4)]) C dX0_layRow_77 (by rw [hn9]; decide) rfl ?_
      refine r_aload_n C dX0_layRow_79 rfl 3 rfl ?_
      refine r_getp (f := 1) (j := 26) C flX0_15 dX0_layRow_80 kq_24 (by decide) rfl (fun W => pt_1 kq_24 W) ?_
      refine r_iconst (v := 0) C dX0_layRow_83 (by decide) ?_
      refine r_iload C dX0_layRow_84 1 rfl ?_
      refine r_iload C dX0_layRow_86 0 rfl ?_
      show Jr _ _ _ _ _ _ 88 _
      refine r_sipush (v := 800) C dX0_layRow_88 (by decide) ?_
      refine r_callSI C M h [.int v4, .int 800] [.int v3, .int 0, .ref (ad 26)] mlX0_92 mcJ9_min_7cf53 (fun q9 e9 => s_J9_min_7cf53 v4 800  e9) (by decide) (by decide) rfl rfl (Nat.le_of_ble_eq_true rfl) dX0_layRow_91 (fun v5 T6 h => ?_)
      refine r_callSN C M h [.ref (ad 26), .int 0, .int v3, .int v5] [] mlX0_132 mcX11_blacken (fun q9 e9 => s_X11_blacken 26 0 v3 v5 kq_26 e9) (by decide) (by decide) rfl rfl (Nat.le_of_ble_eq_true rfl) dX0_layRow_94 (fun _ T7 h => ?_)
      refine r_aload_n C dX0_layRow_97 rfl 4 rfl ?_
      refine r_getp (f := 407) (j := (a1 + 1)) C flX0_119 dX0_layRow_98 ha1 (by decide) rfl (fun W => pt_407 ha1 W) ?_
      refine r_iconst (v := 0) C dX0_layRow_101 (by decide) ?_
      show Jr _ _ _ _ _ _ 102 _
      refine r_iload C dX0_layRow_102 2 rfl ?_
      refine r_iload_n C dX0_layRow_104 rfl 5 rfl ?_
      refine r_iconst (v := 0) C dX0_layRow_105 (by decide) ?_
      refine r_callSI C M h [.ref (ad (a1 + 1)), .int 0, .int v1, .int a2, .int 0] [] mlX0_122 mcX11_firstOther (fun q9 e9 => s_X11_firstOther (a1 + 1) 0 v1 a2 0 (pk_407 ha1) e9) (by decide) (by decide) rfl rfl (Nat.le_of_ble_eq_true rfl) dX0_layRow_106 (fun v8 T9 h => ?_)
      refine r_istore_n (lv' := [(3, .int v8), (7, .int v4), (6, .int v3), (5, .int v1), (0, .ref (ad 24)), (1, .ref (ad a1)), (2, .int a2), (4, .int a4)]) C dX0_layRow_109 rfl (by rw [hn9]; decide) rfl ?_
      refine r_iinc (q := 7) (v := (a4 + 1)) (lv' := [(4, .int (a4 + 1)), (3, .int v8), (7, .int v4), (6, .int v3), (5, .int v1), (0, .ref (ad 24)), (1, .ref (ad a1)), (2, .int a2)]) C dX0_layRow_110 rfl (by rw [show Int32.ofInt (1) = 1 by decide]) (by rw [hn9]; decide) rfl ?_
      show Jr _ _ _ _ _ _ 113 _
      refine r_goto (tgt := 28) C dX0_layRow_113 (by decide) ?_
      refine Jr.sub [5, 6, 7, 1, 0] (lv' := [(0, .ref (ad 24)), (1, .ref (ad a1)), (2, .int a2), (3, .int v8), (4, .int (a4 + 1))]) rfl ?_
      exact hk28 a1 a2 v8 (a4 + 1) T9 ha1 h
noncomputable def f_X0_layRow_l28 (n : Nat) : Nat → Int32 → Int32 → Int32 → Mm → Option (Unit × Mm) := Nat.rec (fun _ _ _ _ _ => none) (fun _ ih => f_X0_layRow_b28 ih) n
theorem s_X0_layRow_l28 {x : JX} {ad : Nat → Nat} {U : Mm} {S0 : Hp} {q : Unit × Mm}  (hn9 : x_n x = 8) (C : CB x RX0 cX0_layRow) (M : CMr x 4 none S0 ad true U eV q) : ∀ (n : Nat), ∀ (a1 : Nat) (a2 : Int32) (a3 : Int32) (a4 : Int32) (T : Mm) (_ : kS true a1 = 4), f_X0_layRow_l28  n a1 a2 a3 a4 T = some q → Jr x ad true U T [(0, .ref (ad 24)), (1, .ref (ad a1)), (2, .int a2), (3, .int a3), (4, .int a4)] 28 [] := by
  intro n
  induction n with
  | zero => intro a1 a2 a3 a4 T _ h; exact absurd h (by intro h; cases h)
  | succ n ih => exact fun a1 a2 a3 a4 T ha1 h => s_X0_layRow_b28 hn9 C M (ih) a1 a2 a3 a4 T ha1 h
noncomputable def f_X0_layRow (p1 : Nat) (T : Mm) : Option (Unit × Mm) :=
  bd (f_J7_fill_53178 26 0 T) fun _ T1 =>
  bd (f_X4_dotsInRow p1 T1) fun v2 T3 =>
  bd (f_X11_firstOther (p1 + 1) 0 0 v2 0 T3) fun v4 T5 =>
  f_X0_layRow_l28 FU p1 v2 v4 0 T5
set_option maxRecDepth 100000 in
set_option maxHeartbeats 4000000 in
theorem s_X0_layRow {ad : Nat → Nat} {U T : Mm} {q : Unit × Mm}  (p1 : Nat) (hk1 : kS true p1 = 4) (h : f_X0_layRow p1 T = some q) : Cr 4 yX0_layRow cX0_layRow 8 none [.ref (ad 24), .ref (ad p1)] ad true U T eV q := by
  refine cr_of (by decide) (Nat.le_of_ble_eq_true rfl) fun x S0 hn9 C M => ?_
  have C : CB x RX0 cX0_layRow := C
  refine Jr.eq (lv' := [(0, .ref (ad 24)), (1, .ref (ad p1))]) (st' := []) rfl rfl ?_
  unfold f_X0_layRow at h
  refine r_aload_n C dX0_layRow_0 rfl 0 rfl ?_
  refine r_getp (f := 1) (j := 26) C flX0_15 dX0_layRow_1 kq_24 (by decide) rfl (fun W => pt_1 kq_24 W) ?_
  refine r_iconst (v := 0) C dX0_layRow_4 (by decide) ?_
  refine r_callSN C M h [.ref (ad 26), .int 0] [] mlX0_42 mcJ7_fill_53178 (fun q9 e9 => s_J7_fill_53178 26 0 kq_26 e9) (by decide) (by decide) rfl rfl (Nat.le_of_ble_eq_true rfl) dX0_layRow_5 (fun _ T1 h => ?_)
  refine r_aload_n C dX0_layRow_8 rfl 1 rfl ?_
  show Jr _ _ _ _ _ _ 9 _
  refine r_callVI C M h [] [] mlX0_114 mcX4_dotsInRow (fun q9 e9 => s_X4_dotsInRow p1 hk1 e9) hk1 rfl (by decide) (by decide) rfl rfl (Nat.le_of_ble_eq_true rfl) dX0_layRow_9 (fun v2 T3 h => ?_)
  refine r_istore_n (lv' := [(2, .int v2), (0, .ref (ad 24)), (1, .ref (ad p1))]) C dX0_layRow_12 rfl (by rw [hn9]; decide) rfl ?_
  refine r_aload_n C dX0_layRow_13 rfl 2 rfl ?_
  refine r_getp (f := 407) (j := (p1 + 1)) C flX0_119 dX0_layRow_14 hk1 (by decide) rfl (fun W => pt_407 hk1 W) ?_
  refine r_iconst (v := 0) C dX0_layRow_17 (by decide) ?_
  refine r_iconst (v := 0) C dX0_layRow_18 (by decide) ?_
  show Jr _ _ _ _ _ _ 19 _
  refine r_iload_n C dX0_layRow_19 rfl 0 rfl ?_
  refine r_iconst (v := 0) C dX0_layRow_20 (by decide) ?_
  refine r_callSI C M h [.ref (ad (p1 + 1)), .int 0, .int 0, .int v2, .int 0] [] mlX0_122 mcX11_firstOther (fun q9 e9 => s_X11_firstOther (p1 + 1) 0 0 v2 0 (pk_407 hk1) e9) (by decide) (by decide) rfl rfl (Nat.le_of_ble_eq_true rfl) dX0_layRow_21 (fun v4 T5 h => ?_)
  refine r_istore_n (lv' := [(3, .int v4), (2, .int v2), (0, .ref (ad 24)), (1, .ref (ad p1))]) C dX0_layRow_24 rfl (by rw [hn9]; decide) rfl ?_
  refine r_iconst (v := 0) C dX0_layRow_25 (by decide) ?_
  refine r_istore (lv' := [(4, .int 0), (3, .int v4), (2, .int v2), (0, .ref (ad 24)), (1, .ref (ad p1))]) C dX0_layRow_26 (by rw [hn9]; decide) rfl ?_
  refine Jr.sub [3, 4, 2, 1, 0] (lv' := [(0, .ref (ad 24)), (1, .ref (ad p1)), (2, .int v2), (3, .int v4), (4, .int 0)]) rfl ?_
  exact s_X0_layRow_l28 hn9 C M  FU p1 v2 v4 0 T5 hk1 h
theorem dX9_rasterRow_0 : decode cX9_rasterRow 0 = .ok (.aload_n 0, 1) := by decide +kernel
theorem dX9_rasterRow_1 : decode cX9_rasterRow 1 = .ok (.getfield 57, 3) := by decide +kernel
theorem dX9_rasterRow_4 : decode cX9_rasterRow 4 = .ok (.getfield 652, 3) := by decide +kernel
theorem dX9_rasterRow_7 : decode cX9_rasterRow 7 = .ok (.astore_n 1, 1) := by decide +kernel
theorem dX9_rasterRow_8 : decode cX9_rasterRow 8 = .ok (.aload_n 1, 1) := by decide +kernel
theorem dX9_rasterRow_9 : decode cX9_rasterRow 9 = .ok (.getfield 656, 3) := by decide +kernel
theorem dX9_rasterRow_12 : decode cX9_rasterRow 12 = .ok (.ifCond .ne 8, 3) := by decide +kernel
theorem dX9_rasterRow_15 : decode cX9_rasterRow 15 = .ok (.aload_n 0, 1) := by decide +kernel
theorem dX9_rasterRow_16 : decode cX9_rasterRow 16 = .ok (.iconst 0, 1) := by decide +kernel
theorem dX9_rasterRow_17 : decode cX9_rasterRow 17 = .ok (.invokevirtual 664, 3) := by decide +kernel
theorem dX9_rasterRow_20 : decode cX9_rasterRow 20 = .ok (.aload_n 1, 1) := by decide +kernel
theorem dX9_rasterRow_21 : decode cX9_rasterRow 21 = .ok (.invokevirtual 693, 3) := by decide +kernel
theorem dX9_rasterRow_24 : decode cX9_rasterRow 24 = .ok (.ifCond .eq 4, 3) := by decide +kernel
theorem dX9_rasterRow_27 : decode cX9_rasterRow 27 = .ok (.return_, 1) := by decide +kernel
theorem dX9_rasterRow_28 : decode cX9_rasterRow 28 = .ok (.aload_n 1, 1) := by decide +kernel
theorem dX9_rasterRow_29 : decode cX9_rasterRow 29 = .ok (.aload_n 0, 1) := by decide +kernel
theorem dX9_rasterRow_30 : decode cX9_rasterRow 30 = .ok (.getfield 82, 3) := by decide +kernel
theorem dX9_rasterRow_33 : decode cX9_rasterRow 33 = .ok (.invokevirtual 696, 3) := by decide +kernel
theorem dX9_rasterRow_36 : decode cX9_rasterRow 36 = .ok (.aload_n 0, 1) := by decide +kernel
theorem dX9_rasterRow_37 : decode cX9_rasterRow 37 = .ok (.getfield 12, 3) := by decide +kernel
theorem dX9_rasterRow_40 : decode cX9_rasterRow 40 = .ok (.aload_n 1, 1) := by decide +kernel
theorem dX9_rasterRow_41 : decode cX9_rasterRow 41 = .ok (.invokevirtual 700, 3) := by decide +kernel
theorem dX9_rasterRow_44 : decode cX9_rasterRow 44 = .ok (.aload_n 0, 1) := by decide +kernel
theorem dX9_rasterRow_45 : decode cX9_rasterRow 45 = .ok (.getfield 57, 3) := by decide +kernel
theorem dX9_rasterRow_48 : decode cX9_rasterRow 48 = .ok (.getfield 129, 3) := by decide +kernel
theorem dX9_rasterRow_51 : decode cX9_rasterRow 51 = .ok (.getfield 138, 3) := by decide +kernel
theorem dX9_rasterRow_54 : decode cX9_rasterRow 54 = .ok (.bipush 96, 2) := by decide +kernel
theorem dX9_rasterRow_56 : decode cX9_rasterRow 56 = .ok (.idiv, 1) := by decide +kernel
theorem dX9_rasterRow_57 : decode cX9_rasterRow 57 = .ok (.istore_n 2, 1) := by decide +kernel
theorem dX9_rasterRow_58 : decode cX9_rasterRow 58 = .ok (.aload_n 1, 1) := by decide +kernel
theorem dX9_rasterRow_59 : decode cX9_rasterRow 59 = .ok (.getfield 661, 3) := by decide +kernel
theorem dX9_rasterRow_62 : decode cX9_rasterRow 62 = .ok (.aload_n 1, 1) := by decide +kernel
theorem dX9_rasterRow_63 : decode cX9_rasterRow 63 = .ok (.invokevirtual 704, 3) := by decide +kernel
theorem dX9_rasterRow_66 : decode cX9_rasterRow 66 = .ok (.imul, 1) := by decide +kernel
theorem dX9_rasterRow_67 : decode cX9_rasterRow 67 = .ok (.istore_n 3, 1) := by decide +kernel
theorem dX9_rasterRow_68 : decode cX9_rasterRow 68 = .ok (.aload_n 0, 1) := by decide +kernel
theorem dX9_rasterRow_69 : decode cX9_rasterRow 69 = .ok (.aload_n 1, 1) := by decide +kernel
theorem dX9_rasterRow_70 : decode cX9_rasterRow 70 = .ok (.getfield 707, 3) := by decide +kernel
theorem dX9_rasterRow_73 : decode cX9_rasterRow 73 = .ok (.iload_n 2, 1) := by decide +kernel
theorem dX9_rasterRow_74 : decode cX9_rasterRow 74 = .ok (.iload_n 3, 1) := by decide +kernel
theorem dX9_rasterRow_75 : decode cX9_rasterRow 75 = .ok (.aload_n 1, 1) := by decide +kernel
theorem dX9_rasterRow_76 : decode cX9_rasterRow 76 = .ok (.getfield 661, 3) := by decide +kernel
theorem dX9_rasterRow_79 : decode cX9_rasterRow 79 = .ok (.aload_n 0, 1) := by decide +kernel
theorem dX9_rasterRow_80 : decode cX9_rasterRow 80 = .ok (.getfield 57, 3) := by decide +kernel
theorem dX9_rasterRow_83 : decode cX9_rasterRow 83 = .ok (.getfield 539, 3) := by decide +kernel
theorem dX9_rasterRow_86 : decode cX9_rasterRow 86 = .ok (.invokevirtual 617, 3) := by decide +kernel
theorem dX9_rasterRow_89 : decode cX9_rasterRow 89 = .ok (.aload_n 0, 1) := by decide +kernel
theorem dX9_rasterRow_90 : decode cX9_rasterRow 90 = .ok (.iconst 1, 1) := by decide +kernel
theorem dX9_rasterRow_91 : decode cX9_rasterRow 91 = .ok (.invokevirtual 687, 3) := by decide +kernel
theorem dX9_rasterRow_94 : decode cX9_rasterRow 94 = .ok (.return_, 1) := by decide +kernel
noncomputable def f_X9_rasterRow_20 (T : Mm) : Option (Unit × Mm) :=
  bd (f_X4_isFull 48 T) fun v1 T2 =>
  if v1 = 0 then (rf true (gR T2 913 23) 5 fun j3 =>
  bd (f_X4_unpack 48 j3 T2) fun _ T5 =>
  bd (f_X0_layRow 48 T5) fun _ T6 =>
  lb (((gI T6 707 46) / 96)) fun v7 =>
  bd (f_X4_dotsInRow 48 T6) fun v8 T9 =>
  lb (((gI T6 400 48) * v8)) fun v10 =>
  bd (f_X9_markBox (gI T9 405 48) v7 v10 (gI T9 400 48) 50 T9) fun _ T11 =>
  bd (f_X9_growRows 1 T11) fun _ T12 =>
  some ((), T12))
  else (some ((), T2))
set_option maxRecDepth 100000 in
set_option maxHeartbeats 4000000 in
theorem s_X9_rasterRow_20 {x : JX} {ad : Nat → Nat} {U : Mm} {S0 : Hp} {q : Unit × Mm}  (hn9 : x_n x = 4) (C : CB x RX9 cX9_rasterRow) (M : CMr x 5 none S0 ad true U eV q) (T : Mm) (h : f_X9_rasterRow_20   T = some q) : Jr x ad true U T [(0, .ref (ad 23)), (1, .ref (ad 48))] 20 [] := by
  unfold f_X9_rasterRow_20 at h
  refine r_aload_n C dX9_rasterRow_20 rfl 1 rfl ?_
  refine r_callVI C M h [] [] mlX9_693 mcX4_isFull (fun q9 e9 => s_X4_isFull 48 kq_48 e9) kq_48 rfl (by decide) (by decide) rfl rfl (Nat.le_of_ble_eq_true rfl) dX9_rasterRow_21 (fun v1 T2 h => ?_)
  refine r_if_eq (tgt := 28) C dX9_rasterRow_24 (by decide) h (fun h => ?_) (fun h => ?_)
  · refine r_aload_n C dX9_rasterRow_28 rfl 1 rfl ?_
    refine r_aload_n C dX9_rasterRow_29 rfl 0 rfl ?_
    refine r_getr (f := 913) (c := 5) C flX9_82 dX9_rasterRow_30 kq_23 (by decide) rfl h (fun j3 hj4 h => ?_)
    refine r_callVN C M h [.ref (ad j3)] [] mlX9_696 mcX4_unpack (fun q9 e9 => s_X4_unpack 48 j3 kq_48 hj4 e9) kq_48 rfl (by decide) (by decide) rfl rfl (Nat.le_of_ble_eq_true rfl) dX9_rasterRow_33 (fun _ T5 h => ?_)
    refine r_aload_n C dX9_rasterRow_36 rfl 0 rfl ?_
    show Jr _ _ _ _ _ _ 37 _
    refine r_getp (f := 901) (j := 24) C flX9_12 dX9_rasterRow_37 kq_23 (by decide) rfl (fun W => pt_901 kq_23 W) ?_
    refine r_aload_n C dX9_rasterRow_40 rfl 1 rfl ?_
    refine r_callVN C M h [.ref (ad 48)] [] mlX9_700 mcX0_layRow (fun q9 e9 => s_X0_layRow 48 kq_48 e9) kq_24 rfl (by decide) (by decide) rfl rfl (Nat.le_of_ble_eq_true rfl) dX9_rasterRow_41 (fun _ T6 h => ?_)
    refine r_aload_n C dX9_rasterRow_44 rfl 0 rfl ?_
    refine r_getp (f := 909) (j := 45) C flX9_57 dX9_rasterRow_45 kq_23 (by decide) rfl (fun W => pt_909 kq_23 W) ?_
    refine r_getp (f := 100) (j := 46) C flX9_129 dX9_rasterRow_48 kq_45 (by decide) rfl (fun W => pt_100 kq_45 W) ?_
    show Jr _ _ _ _ _ _ 51 _
    refine r_geti (f := 707) C flX9_138 dX9_rasterRow_51 kq_46 (by decide) (by decide) rfl ?_
    refine r_bipush (v := 96) C dX9_rasterRow_54 (by decide) ?_
    refine r_idiv C dX9_rasterRow_56 (by decide) rfl ?_
    refine r_lbI h (fun v7 h => ?_)
    refine r_istore_n (lv' := [(2, .int v7), (0, .ref (ad 23)), (1, .ref (ad 48))]) C dX9_rasterRow_57 rfl (by rw [hn9]; decide) rfl ?_
    refine r_aload_n C dX9_rasterRow_58 rfl 2 rfl ?_
    refine r_geti (f := 400) C flX9_661 dX9_rasterRow_59 kq_48 (by decide) (by decide) rfl ?_
    show Jr _ _ _ _ _ _ 62 _
    refine r_aload_n C dX9_rasterRow_62 rfl 2 rfl ?_
    refine r_callVI C M h [] [.int (gI T6 400 48)] mlX9_704 mcX4_dotsInRow (fun q9 e9 => s_X4_dotsInRow 48 kq_48 e9) kq_48 rfl (by decide) (by decide) rfl rfl (Nat.le_of_ble_eq_true rfl) dX9_rasterRow_63 (fun v8 T9 h => ?_)
    refine r_imul C dX9_rasterRow_66 rfl ?_
    refine r_lbI h (fun v10 h => ?_)
    refine r_istore_n (lv' := [(3, .int v10), (2, .int v7), (0, .ref (ad 23)), (1, .ref (ad 48))]) C dX9_rasterRow_67 rfl (by rw [hn9]; decide) rfl ?_
    refine r_aload_n C dX9_rasterRow_68 rfl 2 rfl ?_
    refine r_aload_n C dX9_rasterRow_69 rfl 3 rfl ?_
    show Jr _ _ _ _ _ _ 70 _
    refine r_geti (f := 405) C flX9_707 dX9_rasterRow_70 kq_48 (by decide) (by decide) rfl ?_
    refine r_iload_n C dX9_rasterRow_73 rfl 1 rfl ?_
    refine r_iload_n C dX9_rasterRow_74 rfl 0 rfl ?_
    refine r_aload_n C dX9_rasterRow_75 rfl 3 rfl ?_
    refine r_geti (f := 400) C flX9_661 dX9_rasterRow_76 kq_48 (by decide) (by decide) rfl ?_
    refine r_aload_n C dX9_rasterRow_79 rfl 2 rfl ?_
    show Jr _ _ _ _ _ _ 80 _
    refine r_getp (f := 909) (j := 45) C flX9_57 dX9_rasterRow_80 kq_23 (by decide) rfl (fun W => pt_909 kq_23 W) ?_
    refine r_getp (f := 102) (j := 50) C flX9_539 dX9_rasterRow_83 kq_45 (by decide) rfl (fun W => pt_102 kq_45 W) ?_
    refine r_callVN C M h [.int (gI T9 405 48), .int v7, .int v10, .int (gI T9 400 48), .ref (ad 50)] [] mlX9_617 mcX9_markBox (fun q9 e9 => s_X9_markBox (gI T9 405 48) v7 v10 (gI T9 400 48) 50 kq_50 e9) kq_23 rfl (by decide) (by decide) rfl rfl (Nat.le_of_ble_eq_true rfl) dX9_rasterRow_86 (fun _ T11 h => ?_)
    refine r_aload_n C dX9_rasterRow_89 rfl 2 rfl ?_
    refine r_iconst (v := 1) C dX9_rasterRow_90 (by decide) ?_
    refine r_callVN C M h [.int 1] [] mlX9_687 mcX9_growRows (fun q9 e9 => s_X9_growRows 1  e9) kq_23 rfl (by decide) (by decide) rfl rfl (Nat.le_of_ble_eq_true rfl) dX9_rasterRow_91 (fun _ T12 h => ?_)
    show Jr _ _ _ _ _ _ 94 _
    exact r_vret C M dX9_rasterRow_94 h
  · exact r_vret C M dX9_rasterRow_27 h
noncomputable def f_X9_rasterRow (T : Mm) : Option (Unit × Mm) :=
  if (gI T 404 48) = 0 then (bd (f_X9_beginRaster 0 T) fun _ T1 =>
  f_X9_rasterRow_20 T1)
  else (f_X9_rasterRow_20 T)
set_option maxRecDepth 100000 in
set_option maxHeartbeats 4000000 in
theorem s_X9_rasterRow {ad : Nat → Nat} {U T : Mm} {q : Unit × Mm}  (h : f_X9_rasterRow  T = some q) : Cr 5 yX9_rasterRow cX9_rasterRow 4 none [.ref (ad 23)] ad true U T eV q := by
  refine cr_of (by decide) (Nat.le_of_ble_eq_true rfl) fun x S0 hn9 C M => ?_
  have C : CB x RX9 cX9_rasterRow := C
  refine Jr.eq (lv' := [(0, .ref (ad 23))]) (st' := []) rfl rfl ?_
  unfold f_X9_rasterRow at h
  refine r_aload_n C dX9_rasterRow_0 rfl 0 rfl ?_
  refine r_getp (f := 909) (j := 45) C flX9_57 dX9_rasterRow_1 kq_23 (by decide) rfl (fun W => pt_909 kq_23 W) ?_
  refine r_getp (f := 101) (j := 48) C flX9_652 dX9_rasterRow_4 kq_45 (by decide) rfl (fun W => pt_101 kq_45 W) ?_
  refine r_astore_n (lv' := [(1, .ref (ad 48)), (0, .ref (ad 23))]) C dX9_rasterRow_7 rfl (by rw [hn9]; decide) rfl ?_
  refine r_aload_n C dX9_rasterRow_8 rfl 0 rfl ?_
  show Jr _ _ _ _ _ _ 9 _
  refine r_geti (f := 404) C flX9_656 dX9_rasterRow_9 kq_48 (by decide) (by decide) rfl ?_
  refine r_if_ne (tgt := 20) C dX9_rasterRow_12 (by decide) h (fun h => ?_) (fun h => ?_)
  · refine Jr.sub [1, 0] (lv' := [(0, .ref (ad 23)), (1, .ref (ad 48))]) rfl ?_
    exact s_X9_rasterRow_20 hn9 C M  T h
  · refine r_aload_n C dX9_rasterRow_15 rfl 1 rfl ?_
    refine r_iconst (v := 0) C dX9_rasterRow_16 (by decide) ?_
    refine r_callVN C M h [.int 0] [] mlX9_664 mcX9_beginRaster (fun q9 e9 => s_X9_beginRaster 0  e9) kq_23 rfl (by decide) (by decide) rfl rfl (Nat.le_of_ble_eq_true rfl) dX9_rasterRow_17 (fun _ T1 h => ?_)
    refine Jr.sub [1, 0] (lv' := [(0, .ref (ad 23)), (1, .ref (ad 48))]) rfl ?_
    exact s_X9_rasterRow_20 hn9 C M  T1 h
theorem dX9_rowField_0 : decode cX9_rowField 0 = .ok (.aload_n 0, 1) := by decide +kernel
theorem dX9_rowField_1 : decode cX9_rowField 1 = .ok (.getfield 57, 3) := by decide +kernel
theorem dX9_rowField_4 : decode cX9_rowField 4 = .ok (.getfield 652, 3) := by decide +kernel
theorem dX9_rowField_7 : decode cX9_rowField 7 = .ok (.astore_n 2, 1) := by decide +kernel
theorem dX9_rowField_8 : decode cX9_rowField 8 = .ok (.aload_n 0, 1) := by decide +kernel
theorem dX9_rowField_9 : decode cX9_rowField 9 = .ok (.getfield 82, 3) := by decide +kernel
theorem dX9_rowField_12 : decode cX9_rowField 12 = .ok (.getfield 327, 3) := by decide +kernel
theorem dX9_rowField_15 : decode cX9_rowField 15 = .ok (.bipush 77, 2) := by decide +kernel
theorem dX9_rowField_17 : decode cX9_rowField 17 = .ok (.if_icmp .ne 20, 3) := by decide +kernel
theorem dX9_rowField_20 : decode cX9_rowField 20 = .ok (.iload_n 1, 1) := by decide +kernel
theorem dX9_rowField_21 : decode cX9_rowField 21 = .ok (.ifCond .lt 16, 3) := by decide +kernel
theorem dX9_rowField_24 : decode cX9_rowField 24 = .ok (.iload_n 1, 1) := by decide +kernel
theorem dX9_rowField_25 : decode cX9_rowField 25 = .ok (.iconst 3, 1) := by decide +kernel
theorem dX9_rowField_26 : decode cX9_rowField 26 = .ok (.if_icmp .gt 11, 3) := by decide +kernel
theorem dX9_rowField_29 : decode cX9_rowField 29 = .ok (.aload_n 2, 1) := by decide +kernel
theorem dX9_rowField_30 : decode cX9_rowField 30 = .ok (.iload_n 1, 1) := by decide +kernel
theorem dX9_rowField_31 : decode cX9_rowField 31 = .ok (.putfield 678, 3) := by decide +kernel
theorem dX9_rowField_34 : decode cX9_rowField 34 = .ok (.goto 83, 3) := by decide +kernel
theorem dX9_rowField_37 : decode cX9_rowField 37 = .ok (.aload_n 0, 1) := by decide +kernel
theorem dX9_rowField_38 : decode cX9_rowField 38 = .ok (.getfield 82, 3) := by decide +kernel
theorem dX9_rowField_41 : decode cX9_rowField 41 = .ok (.getfield 327, 3) := by decide +kernel
theorem dX9_rowField_44 : decode cX9_rowField 44 = .ok (.bipush 89, 2) := by decide +kernel
theorem dX9_rowField_46 : decode cX9_rowField 46 = .ok (.if_icmp .ne 55, 3) := by decide +kernel
theorem dX9_rowField_49 : decode cX9_rowField 49 = .ok (.iload_n 1, 1) := by decide +kernel
theorem dX9_rowField_50 : decode cX9_rowField 50 = .ok (.ifCond .le 51, 3) := by decide +kernel
theorem dX9_rowField_53 : decode cX9_rowField 53 = .ok (.aload_n 2, 1) := by decide +kernel
theorem dX9_rowField_54 : decode cX9_rowField 54 = .ok (.getfield 656, 3) := by decide +kernel
theorem dX9_rowField_57 : decode cX9_rowField 57 = .ok (.ifCond .eq 44, 3) := by decide +kernel
theorem dX9_rowField_60 : decode cX9_rowField 60 = .ok (.aload_n 2, 1) := by decide +kernel
theorem dX9_rowField_61 : decode cX9_rowField 61 = .ok (.getfield 672, 3) := by decide +kernel
theorem dX9_rowField_64 : decode cX9_rowField 64 = .ok (.ifCond .le 19, 3) := by decide +kernel
theorem dX9_rowField_67 : decode cX9_rowField 67 = .ok (.iload_n 1, 1) := by decide +kernel
theorem dX9_rowField_68 : decode cX9_rowField 68 = .ok (.aload_n 2, 1) := by decide +kernel
theorem dX9_rowField_69 : decode cX9_rowField 69 = .ok (.getfield 672, 3) := by decide +kernel
theorem dX9_rowField_72 : decode cX9_rowField 72 = .ok (.aload_n 2, 1) := by decide +kernel
theorem dX9_rowField_73 : decode cX9_rowField 73 = .ok (.getfield 681, 3) := by decide +kernel
theorem dX9_rowField_76 : decode cX9_rowField 76 = .ok (.isub, 1) := by decide +kernel
theorem dX9_rowField_77 : decode cX9_rowField 77 = .ok (.invokestatic 339, 3) := by decide +kernel
theorem dX9_rowField_80 : decode cX9_rowField 80 = .ok (.goto 4, 3) := by decide +kernel
theorem dX9_rowField_83 : decode cX9_rowField 83 = .ok (.iload_n 1, 1) := by decide +kernel
theorem dX9_rowField_84 : decode cX9_rowField 84 = .ok (.istore_n 3, 1) := by decide +kernel
theorem dX9_rowField_85 : decode cX9_rowField 85 = .ok (.aload_n 2, 1) := by decide +kernel
theorem dX9_rowField_86 : decode cX9_rowField 86 = .ok (.invokevirtual 684, 3) := by decide +kernel
theorem dX9_rowField_89 : decode cX9_rowField 89 = .ok (.aload_n 0, 1) := by decide +kernel
theorem dX9_rowField_90 : decode cX9_rowField 90 = .ok (.iload_n 3, 1) := by decide +kernel
theorem dX9_rowField_91 : decode cX9_rowField 91 = .ok (.iconst 0, 1) := by decide +kernel
theorem dX9_rowField_92 : decode cX9_rowField 92 = .ok (.invokestatic 344, 3) := by decide +kernel
theorem dX9_rowField_95 : decode cX9_rowField 95 = .ok (.invokevirtual 687, 3) := by decide +kernel
theorem dX9_rowField_98 : decode cX9_rowField 98 = .ok (.goto 19, 3) := by decide +kernel
theorem dX9_rowField_101 : decode cX9_rowField 101 = .ok (.aload_n 0, 1) := by decide +kernel
theorem dX9_rowField_102 : decode cX9_rowField 102 = .ok (.getfield 82, 3) := by decide +kernel
theorem dX9_rowField_105 : decode cX9_rowField 105 = .ok (.getfield 327, 3) := by decide +kernel
theorem dX9_rowField_108 : decode cX9_rowField 108 = .ok (.bipush 87, 2) := by decide +kernel
theorem dX9_rowField_110 : decode cX9_rowField 110 = .ok (.if_icmp .ne 7, 3) := by decide +kernel
theorem dX9_rowField_113 : decode cX9_rowField 113 = .ok (.aload_n 0, 1) := by decide +kernel
theorem dX9_rowField_114 : decode cX9_rowField 114 = .ok (.invokevirtual 690, 3) := by decide +kernel
theorem dX9_rowField_117 : decode cX9_rowField 117 = .ok (.return_, 1) := by decide +kernel
noncomputable def f_X9_rowField_101 (T : Mm) : Option (Unit × Mm) :=
  rf true (gR T 913 23) 5 fun j1 =>
  if (gI T 505 j1) = 87 then (bd (f_X9_rasterRow T) fun _ T3 =>
  some ((), T3))
  else (some ((), T))
set_option maxRecDepth 100000 in
set_option maxHeartbeats 4000000 in
theorem s_X9_rowField_101 {x : JX} {ad : Nat → Nat} {U : Mm} {S0 : Hp} {q : Unit × Mm}  (hn9 : x_n x = 4) (C : CB x RX9 cX9_rowField) (M : CMr x 6 none S0 ad true U eV q) (T : Mm) (h : f_X9_rowField_101   T = some q) : Jr x ad true U T [(0, .ref (ad 23))] 101 [] := by
  unfold f_X9_rowField_101 at h
  refine r_aload_n C dX9_rowField_101 rfl 0 rfl ?_
  refine r_getr (f := 913) (c := 5) C flX9_82 dX9_rowField_102 kq_23 (by decide) rfl h (fun j1 hj2 h => ?_)
  refine r_geti (f := 505) C flX9_327 dX9_rowField_105 hj2 (by decide) (by decide) rfl ?_
  refine r_bipush (v := 87) C dX9_rowField_108 (by decide) ?_
  refine r_ic_ne (tgt := 117) C dX9_rowField_110 (by decide) h (fun h => ?_) (fun h => ?_)
  · exact r_vret C M dX9_rowField_117 h
  · refine r_aload_n C dX9_rowField_113 rfl 0 rfl ?_
    refine r_callVN C M h [] [] mlX9_690 mcX9_rasterRow (fun q9 e9 => s_X9_rasterRow   e9) kq_23 rfl (by decide) (by decide) rfl rfl (Nat.le_of_ble_eq_true rfl) dX9_rowField_114 (fun _ T3 h => ?_)
    exact r_vret C M dX9_rowField_117 h
noncomputable def f_X9_rowField_84 (b0 : Int32) (T : Mm) : Option (Unit × Mm) :=
  bd (f_X4_clearRow 48 T) fun _ T1 =>
  bd (f_J9_max_7cf53 b0 0 T1) fun v2 T3 =>
  bd (f_X9_growRows v2 T3) fun _ T4 =>
  some ((), T4)
set_option maxRecDepth 100000 in
set_option maxHeartbeats 4000000 in
theorem s_X9_rowField_84 {x : JX} {ad : Nat → Nat} {U : Mm} {S0 : Hp} {q : Unit × Mm}  (hn9 : x_n x = 4) (C : CB x RX9 cX9_rowField) (M : CMr x 6 none S0 ad true U eV q) (b0 : Int32) (T : Mm) (h : f_X9_rowField_84  b0 T = some q) : Jr x ad true U T [(0, .ref (ad 23)), (2, .ref (ad 48))] 84 [.int b0] := by
  unfold f_X9_rowField_84 at h
  refine r_istore_n (lv' := [(3, .int b0), (0, .ref (ad 23)), (2, .ref (ad 48))]) C dX9_rowField_84 rfl (by rw [hn9]; decide) rfl ?_
  refine r_aload_n C dX9_rowField_85 rfl 2 rfl ?_
  refine r_callVN C M h [] [] mlX9_684 mcX4_clearRow (fun q9 e9 => s_X4_clearRow 48 kq_48 e9) kq_48 rfl (by decide) (by decide) rfl rfl (Nat.le_of_ble_eq_true rfl) dX9_rowField_86 (fun _ T1 h => ?_)
  refine r_aload_n C dX9_rowField_89 rfl 1 rfl ?_
  refine r_iload_n C dX9_rowField_90 rfl 0 rfl ?_
  show Jr _ _ _ _ _ _ 91 _
  refine r_iconst (v := 0) C dX9_rowField_91 (by decide) ?_
  refine r_callSI C M h [.int b0, .int 0] [.ref (ad 23)] mlX9_344 mcJ9_max_7cf53 (fun q9 e9 => s_J9_max_7cf53 b0 0  e9) (by decide) (by decide) rfl rfl (Nat.le_of_ble_eq_true rfl) dX9_rowField_92 (fun v2 T3 h => ?_)
  refine r_callVN C M h [.int v2] [] mlX9_687 mcX9_growRows (fun q9 e9 => s_X9_growRows v2  e9) kq_23 rfl (by decide) (by decide) rfl rfl (Nat.le_of_ble_eq_true rfl) dX9_rowField_95 (fun _ T4 h => ?_)
  refine r_goto (tgt := 117) C dX9_rowField_98 (by decide) ?_
  exact r_vret C M dX9_rowField_117 h
noncomputable def f_X9_rowField_37 (a1 : Int32) (T : Mm) : Option (Unit × Mm) :=
  rf true (gR T 913 23) 5 fun j1 =>
  if (gI T 505 j1) = 89 then (if a1 ≤ 0 then (f_X9_rowField_101 T)
  else (if (gI T 404 48) = 0 then (f_X9_rowField_101 T)
  else (if (gI T 403 48) ≤ 0 then (f_X9_rowField_84 a1 T)
  else (bd (f_J9_min_7cf53 a1 ((gI T 403 48) - (gI T 406 48)) T) fun v3 T4 =>
  f_X9_rowField_84 v3 T4))))
  else (f_X9_rowField_101 T)
set_option maxRecDepth 100000 in
set_option maxHeartbeats 4000000 in
theorem s_X9_rowField_37 {x : JX} {ad : Nat → Nat} {U : Mm} {S0 : Hp} {q : Unit × Mm}  (hn9 : x_n x = 4) (C : CB x RX9 cX9_rowField) (M : CMr x 6 none S0 ad true U eV q) (a1 : Int32) (T : Mm) (h : f_X9_rowField_37  a1 T = some q) : Jr x ad true U T [(0, .ref (ad 23)), (1, .int a1), (2, .ref (ad 48))] 37 [] := by
  unfold f_X9_rowField_37 at h
  refine r_aload_n C dX9_rowField_37 rfl 0 rfl ?_
  refine r_getr (f := 913) (c := 5) C flX9_82 dX9_rowField_38 kq_23 (by decide) rfl h (fun j1 hj2 h => ?_)
  refine r_geti (f := 505) C flX9_327 dX9_rowField_41 hj2 (by decide) (by decide) rfl ?_
  refine r_bipush (v := 89) C dX9_rowField_44 (by decide) ?_
  refine r_ic_ne (tgt := 101) C dX9_rowField_46 (by decide) h (fun h => ?_) (fun h => ?_)
  · refine Jr.sub [0] (lv' := [(0, .ref (ad 23))]) rfl ?_
    exact s_X9_rowField_101 hn9 C M  T h
  · refine r_iload_n C dX9_rowField_49 rfl 1 rfl ?_
    refine r_if_le (tgt := 101) C dX9_rowField_50 (by decide) h (fun h => ?_) (fun h => ?_)
    · refine Jr.sub [0] (lv' := [(0, .ref (ad 23))]) rfl ?_
      exact s_X9_rowField_101 hn9 C M  T h
    · refine r_aload_n C dX9_rowField_53 rfl 2 rfl ?_
      refine r_geti (f := 404) C flX9_656 dX9_rowField_54 kq_48 (by decide) (by decide) rfl ?_
      refine r_if_eq (tgt := 101) C dX9_rowField_57 (by decide) h (fun h => ?_) (fun h => ?_)
      · refine Jr.sub [0] (lv' := [(0, .ref (ad 23))]) rfl ?_
        exact s_X9_rowField_101 hn9 C M  T h
      · refine r_aload_n C dX9_rowField_60 rfl 2 rfl ?_
        refine r_geti (f := 403) C flX9_672 dX9_rowField_61 kq_48 (by decide) (by decide) rfl ?_
        refine r_if_le (tgt := 83) C dX9_rowField_64 (by decide) h (fun h => ?_) (fun h => ?_)
        · refine r_iload_n C dX9_rowField_83 rfl 1 rfl ?_
          refine Jr.sub [0, 2] (lv' := [(0, .ref (ad 23)), (2, .ref (ad 48))]) rfl ?_
          exact s_X9_rowField_84 hn9 C M  a1 T h
        · refine r_iload_n C dX9_rowField_67 rfl 1 rfl ?_
          refine r_aload_n C dX9_rowField_68 rfl 2 rfl ?_
          refine r_geti (f := 403) C flX9_672 dX9_rowField_69 kq_48 (by decide) (by decide) rfl ?_
          refine r_aload_n C dX9_rowField_72 rfl 2 rfl ?_
          refine r_geti (f := 406) C flX9_681 dX9_rowField_73 kq_48 (by decide) (by decide) rfl ?_
          show Jr _ _ _ _ _ _ 76 _
          refine r_isub C dX9_rowField_76 rfl ?_
          refine r_callSI C M h [.int a1, .int ((gI T 403 48) - (gI T 406 48))] [] mlX9_339 mcJ9_min_7cf53 (fun q9 e9 => s_J9_min_7cf53 a1 ((gI T 403 48) - (gI T 406 48))  e9) (by decide) (by decide) rfl rfl (Nat.le_of_ble_eq_true rfl) dX9_rowField_77 (fun v3 T4 h => ?_)
          refine r_goto (tgt := 84) C dX9_rowField_80 (by decide) ?_
          refine Jr.sub [0, 2] (lv' := [(0, .ref (ad 23)), (2, .ref (ad 48))]) rfl ?_
          exact s_X9_rowField_84 hn9 C M  v3 T4 h
noncomputable def f_X9_rowField (p1 : Int32) (T : Mm) : Option (Unit × Mm) :=
  rf true (gR T 913 23) 5 fun j1 =>
  if (gI T 505 j1) = 77 then (if p1 < 0 then (f_X9_rowField_37 p1 T)
  else (if 3 < p1 then (f_X9_rowField_37 p1 T)
  else (lb (uI T 401 48 p1) fun T3 =>
  some ((), T3))))
  else (f_X9_rowField_37 p1 T)
set_option maxRecDepth 100000 in
set_option maxHeartbeats 4000000 in
theorem s_X9_rowField {ad : Nat → Nat} {U T : Mm} {q : Unit × Mm}  (p1 : Int32) (h : f_X9_rowField p1 T = some q) : Cr 6 yX9_rowField cX9_rowField 4 none [.ref (ad 23), .int p1] ad true U T eV q := by
  refine cr_of (by decide) (Nat.le_of_ble_eq_true rfl) fun x S0 hn9 C M => ?_
  have C : CB x RX9 cX9_rowField := C
  refine Jr.eq (lv' := [(0, .ref (ad 23)), (1, .int p1)]) (st' := []) rfl rfl ?_
  unfold f_X9_rowField at h
  refine r_aload_n C dX9_rowField_0 rfl 0 rfl ?_
  refine r_getp (f := 909) (j := 45) C flX9_57 dX9_rowField_1 kq_23 (by decide) rfl (fun W => pt_909 kq_23 W) ?_
  refine r_getp (f := 101) (j := 48) C flX9_652 dX9_rowField_4 kq_45 (by decide) rfl (fun W => pt_101 kq_45 W) ?_
  refine r_astore_n (lv' := [(2, .ref (ad 48)), (0, .ref (ad 23)), (1, .int p1)]) C dX9_rowField_7 rfl (by rw [hn9]; decide) rfl ?_
  refine r_aload_n C dX9_rowField_8 rfl 1 rfl ?_
  show Jr _ _ _ _ _ _ 9 _
  refine r_getr (f := 913) (c := 5) C flX9_82 dX9_rowField_9 kq_23 (by decide) rfl h (fun j1 hj2 h => ?_)
  refine r_geti (f := 505) C flX9_327 dX9_rowField_12 hj2 (by decide) (by decide) rfl ?_
  refine r_bipush (v := 77) C dX9_rowField_15 (by decide) ?_
  refine r_ic_ne (tgt := 37) C dX9_rowField_17 (by decide) h (fun h => ?_) (fun h => ?_)
  · refine Jr.sub [1, 2, 0] (lv' := [(0, .ref (ad 23)), (1, .int p1), (2, .ref (ad 48))]) rfl ?_
    exact s_X9_rowField_37 hn9 C M  p1 T h
  · refine r_iload_n C dX9_rowField_20 rfl 2 rfl ?_
    refine r_if_lt (tgt := 37) C dX9_rowField_21 (by decide) h (fun h => ?_) (fun h => ?_)
    · refine Jr.sub [1, 2, 0] (lv' := [(0, .ref (ad 23)), (1, .int p1), (2, .ref (ad 48))]) rfl ?_
      exact s_X9_rowField_37 hn9 C M  p1 T h
    · refine r_iload_n C dX9_rowField_24 rfl 2 rfl ?_
      refine r_iconst (v := 3) C dX9_rowField_25 (by decide) ?_
      refine r_ic_gt (tgt := 37) C dX9_rowField_26 (by decide) h (fun h => ?_) (fun h => ?_)
      · refine Jr.sub [1, 2, 0] (lv' := [(0, .ref (ad 23)), (1, .int p1), (2, .ref (ad 48))]) rfl ?_
        exact s_X9_rowField_37 hn9 C M  p1 T h
      · refine r_aload_n C dX9_rowField_29 rfl 0 rfl ?_
        refine r_iload_n C dX9_rowField_30 rfl 2 rfl ?_
        refine r_puti (f := 401) C flX9_678 (by decide) rfl rfl dX9_rowField_31 kq_48 rfl h (fun T3 h => ?_)
        refine r_goto (tgt := 117) C dX9_rowField_34 (by decide) ?_
        exact r_vret C M dX9_rowField_117 h
theorem dX2_wishFor_0 : decode cX2_wishFor 0 = .ok (.aload_n 0, 1) := by decide +kernel
theorem dX2_wishFor_1 : decode cX2_wishFor 1 = .ok (.iload_n 1, 1) := by decide +kernel
theorem dX2_wishFor_2 : decode cX2_wishFor 2 = .ok (.invokevirtual 62, 3) := by decide +kernel
theorem dX2_wishFor_5 : decode cX2_wishFor 5 = .ok (.ifCond .eq 10, 3) := by decide +kernel
theorem dX2_wishFor_8 : decode cX2_wishFor 8 = .ok (.aload_n 2, 1) := by decide +kernel
theorem dX2_wishFor_9 : decode cX2_wishFor 9 = .ok (.arraylength, 1) := by decide +kernel
theorem dX2_wishFor_10 : decode cX2_wishFor 10 = .ok (.bipush 8, 2) := by decide +kernel
theorem dX2_wishFor_12 : decode cX2_wishFor 12 = .ok (.if_icmp .ge 5, 3) := by decide +kernel
theorem dX2_wishFor_15 : decode cX2_wishFor 15 = .ok (.iconst 0, 1) := by decide +kernel
theorem dX2_wishFor_16 : decode cX2_wishFor 16 = .ok (.ireturn, 1) := by decide +kernel
theorem dX2_wishFor_17 : decode cX2_wishFor 17 = .ok (.aload_n 0, 1) := by decide +kernel
theorem dX2_wishFor_18 : decode cX2_wishFor 18 = .ok (.getfield 18, 3) := by decide +kernel
theorem dX2_wishFor_21 : decode cX2_wishFor 21 = .ok (.iload_n 1, 1) := by decide +kernel
theorem dX2_wishFor_22 : decode cX2_wishFor 22 = .ok (.bipush 7, 2) := by decide +kernel
theorem dX2_wishFor_24 : decode cX2_wishFor 24 = .ok (.imul, 1) := by decide +kernel
theorem dX2_wishFor_25 : decode cX2_wishFor 25 = .ok (.aload_n 2, 1) := by decide +kernel
theorem dX2_wishFor_26 : decode cX2_wishFor 26 = .ok (.iconst 0, 1) := by decide +kernel
theorem dX2_wishFor_27 : decode cX2_wishFor 27 = .ok (.bipush 7, 2) := by decide +kernel
theorem dX2_wishFor_29 : decode cX2_wishFor 29 = .ok (.invokestatic 42, 3) := by decide +kernel
theorem dX2_wishFor_32 : decode cX2_wishFor 32 = .ok (.aload_n 2, 1) := by decide +kernel
theorem dX2_wishFor_33 : decode cX2_wishFor 33 = .ok (.bipush 7, 2) := by decide +kernel
theorem dX2_wishFor_35 : decode cX2_wishFor 35 = .ok (.iload_n 1, 1) := by decide +kernel
theorem dX2_wishFor_36 : decode cX2_wishFor 36 = .ok (.iastore, 1) := by decide +kernel
theorem dX2_wishFor_37 : decode cX2_wishFor 37 = .ok (.iconst 1, 1) := by decide +kernel
theorem dX2_wishFor_38 : decode cX2_wishFor 38 = .ok (.ireturn, 1) := by decide +kernel
noncomputable def f_X2_wishFor (p1 : Int32) (p2 : Nat) (T : Mm) : Option (Int32 × Mm) :=
  bd (f_X2_has p1 T) fun v1 T2 =>
  if v1 = 0 then (some (0, T2))
  else (if 8 ≤ (Int32.ofNat (LN p2)) then (cp (p1 * 7) 0 7 119 (LN p2) fun q3 q4 q5 => lb (vA T2 p2 (va_cpy (gA T2 30) (gA T2 p2) q3 q4 q5)) fun T6 =>
  ix 7 (LN p2) fun j7 => lb (uA T6 p2 j7 (p1)) fun T9 =>
  some (1, T9))
  else (some (0, T2)))
set_option maxRecDepth 100000 in
set_option maxHeartbeats 4000000 in
theorem s_X2_wishFor {ad : Nat → Nat} {U T : Mm} {q : Int32 × Mm}  (p1 : Int32) (p2 : Nat) (hk2 : kS true p2 = 14) (h : f_X2_wishFor p1 p2 T = some q) : Cr 3 yX2_wishFor cX2_wishFor 3 (some .boolean) [.ref (ad 27), .int p1, .ref (ad p2)] ad true U T eI q := by
  refine cr_of (by decide) (Nat.le_of_ble_eq_true rfl) fun x S0 hn9 C M => ?_
  have C : CB x RX2 cX2_wishFor := C
  refine Jr.eq (lv' := [(0, .ref (ad 27)), (1, .int p1), (2, .ref (ad p2))]) (st' := []) rfl rfl ?_
  unfold f_X2_wishFor at h
  refine r_aload_n C dX2_wishFor_0 rfl 0 rfl ?_
  refine r_iload_n C dX2_wishFor_1 rfl 1 rfl ?_
  refine r_callVI C M h [.int p1] [] mlX2_62 mcX2_has (fun q9 e9 => s_X2_has p1  e9) kq_27 rfl (by decide) (by decide) rfl rfl (Nat.le_of_ble_eq_true rfl) dX2_wishFor_2 (fun v1 T2 h => ?_)
  refine r_if_eq (tgt := 15) C dX2_wishFor_5 (by decide) h (fun h => ?_) (fun h => ?_)
  · refine r_iconst (v := 0) C dX2_wishFor_15 (by decide) ?_
    exact r_zret C M dX2_wishFor_16 (by decide) h
  · refine r_aload_n C dX2_wishFor_8 rfl 2 rfl ?_
    refine r_alen (n := 0) C dX2_wishFor_9 hk2 (by decide) (by decide) rfl ?_
    refine r_bipush (v := 8) C dX2_wishFor_10 (by decide) ?_
    refine r_ic_ge (tgt := 17) C dX2_wishFor_12 (by decide) h (fun h => ?_) (fun h => ?_)
    · refine r_aload_n C dX2_wishFor_17 rfl 0 rfl ?_
      refine r_getp (f := 201) (j := 30) C flX2_18 dX2_wishFor_18 kq_27 (by decide) rfl (fun W => pt_201 kq_27 W) ?_
      refine r_iload_n C dX2_wishFor_21 rfl 1 rfl ?_
      refine r_bipush (v := 7) C dX2_wishFor_22 (by decide) ?_
      refine r_imul C dX2_wishFor_24 rfl ?_
      show Jr _ _ _ _ _ _ 25 _
      refine r_aload_n C dX2_wishFor_25 rfl 2 rfl ?_
      refine r_iconst (v := 0) C dX2_wishFor_26 (by decide) ?_
      refine r_bipush (v := 7) C dX2_wishFor_27 (by decide) ?_
      refine r_copy (n0 := 119) (n1 := (LN p2)) (kd := 14) (ty := .int) C M (by decide) mlX2_42 (by decide) kq_30 lq_30 hk2 rfl dX2_wishFor_29 h (fun q3 q4 q5 T6 h => ?_)
      refine r_aload_n C dX2_wishFor_32 rfl 2 rfl ?_
      refine r_bipush (v := 7) C dX2_wishFor_33 (by decide) ?_
      show Jr _ _ _ _ _ _ 35 _
      refine r_iload_n C dX2_wishFor_35 rfl 1 rfl ?_
      refine r_iast (n := (LN p2)) C dX2_wishFor_36 hk2 rfl h (fun j7 T9 hj8 h => ?_)
      refine r_iconst (v := 1) C dX2_wishFor_37 (by decide) ?_
      exact r_zret C M dX2_wishFor_38 (by decide) h
    · refine r_iconst (v := 0) C dX2_wishFor_15 (by decide) ?_
      exact r_zret C M dX2_wishFor_16 (by decide) h
theorem dX9_wish_0 : decode cX9_wish 0 = .ok (.iload_n 1, 1) := by decide +kernel
theorem dX9_wish_1 : decode cX9_wish 1 = .ok (.ifCond .lt 16, 3) := by decide +kernel
theorem dX9_wish_4 : decode cX9_wish 4 = .ok (.iload_n 1, 1) := by decide +kernel
theorem dX9_wish_5 : decode cX9_wish 5 = .ok (.bipush 7, 2) := by decide +kernel
theorem dX9_wish_7 : decode cX9_wish 7 = .ok (.if_icmp .ge 10, 3) := by decide +kernel
theorem dX9_wish_10 : decode cX9_wish 10 = .ok (.aload_n 0, 1) := by decide +kernel
theorem dX9_wish_11 : decode cX9_wish 11 = .ok (.arraylength, 1) := by decide +kernel
theorem dX9_wish_12 : decode cX9_wish 12 = .ok (.bipush 8, 2) := by decide +kernel
theorem dX9_wish_14 : decode cX9_wish 14 = .ok (.if_icmp .ge 5, 3) := by decide +kernel
theorem dX9_wish_17 : decode cX9_wish 17 = .ok (.iconst 0, 1) := by decide +kernel
theorem dX9_wish_18 : decode cX9_wish 18 = .ok (.ireturn, 1) := by decide +kernel
theorem dX9_wish_19 : decode cX9_wish 19 = .ok (.aload_n 0, 1) := by decide +kernel
theorem dX9_wish_20 : decode cX9_wish 20 = .ok (.iload_n 1, 1) := by decide +kernel
theorem dX9_wish_21 : decode cX9_wish 21 = .ok (.iload_n 2, 1) := by decide +kernel
theorem dX9_wish_22 : decode cX9_wish 22 = .ok (.iastore, 1) := by decide +kernel
theorem dX9_wish_23 : decode cX9_wish 23 = .ok (.aload_n 0, 1) := by decide +kernel
theorem dX9_wish_24 : decode cX9_wish 24 = .ok (.bipush 7, 2) := by decide +kernel
theorem dX9_wish_26 : decode cX9_wish 26 = .ok (.iconst (-1), 1) := by decide +kernel
theorem dX9_wish_27 : decode cX9_wish 27 = .ok (.iastore, 1) := by decide +kernel
theorem dX9_wish_28 : decode cX9_wish 28 = .ok (.iconst 1, 1) := by decide +kernel
theorem dX9_wish_29 : decode cX9_wish 29 = .ok (.ireturn, 1) := by decide +kernel
noncomputable def f_X9_wish (p0 : Nat) (p1 : Int32) (p2 : Int32) (T : Mm) : Option (Int32 × Mm) :=
  if p1 < 0 then (some (0, T))
  else (if 7 ≤ p1 then (some (0, T))
  else (if 8 ≤ (Int32.ofNat (LN p0)) then (ix p1 (LN p0) fun j1 => lb (uA T p0 j1 (p2)) fun T3 =>
  ix 7 (LN p0) fun j4 => lb (uA T3 p0 j4 ((-1))) fun T6 =>
  some (1, T6))
  else (some (0, T))))
set_option maxRecDepth 100000 in
set_option maxHeartbeats 4000000 in
theorem s_X9_wish {ad : Nat → Nat} {U T : Mm} {q : Int32 × Mm}  (p0 : Nat) (p1 : Int32) (p2 : Int32) (hk0 : kS true p0 = 14) (h : f_X9_wish p0 p1 p2 T = some q) : Cr 1 yX9_wish cX9_wish 3 (some .boolean) [.ref (ad p0), .int p1, .int p2] ad true U T eI q := by
  refine cr_of (by decide) (Nat.le_of_ble_eq_true rfl) fun x S0 hn9 C M => ?_
  have C : CB x RX9 cX9_wish := C
  refine Jr.eq (lv' := [(0, .ref (ad p0)), (1, .int p1), (2, .int p2)]) (st' := []) rfl rfl ?_
  unfold f_X9_wish at h
  refine r_iload_n C dX9_wish_0 rfl 1 rfl ?_
  refine r_if_lt (tgt := 17) C dX9_wish_1 (by decide) h (fun h => ?_) (fun h => ?_)
  · refine r_iconst (v := 0) C dX9_wish_17 (by decide) ?_
    exact r_zret C M dX9_wish_18 (by decide) h
  · refine r_iload_n C dX9_wish_4 rfl 1 rfl ?_
    refine r_bipush (v := 7) C dX9_wish_5 (by decide) ?_
    refine r_ic_ge (tgt := 17) C dX9_wish_7 (by decide) h (fun h => ?_) (fun h => ?_)
    · refine r_iconst (v := 0) C dX9_wish_17 (by decide) ?_
      exact r_zret C M dX9_wish_18 (by decide) h
    · refine r_aload_n C dX9_wish_10 rfl 0 rfl ?_
      refine r_alen (n := 0) C dX9_wish_11 hk0 (by decide) (by decide) rfl ?_
      refine r_bipush (v := 8) C dX9_wish_12 (by decide) ?_
      refine r_ic_ge (tgt := 19) C dX9_wish_14 (by decide) h (fun h => ?_) (fun h => ?_)
      · refine r_aload_n C dX9_wish_19 rfl 0 rfl ?_
        refine r_iload_n C dX9_wish_20 rfl 1 rfl ?_
        refine r_iload_n C dX9_wish_21 rfl 2 rfl ?_
        refine r_iast (n := (LN p0)) C dX9_wish_22 hk0 rfl h (fun j1 T3 hj2 h => ?_)
        refine r_aload_n C dX9_wish_23 rfl 0 rfl ?_
        show Jr _ _ _ _ _ _ 24 _
        refine r_bipush (v := 7) C dX9_wish_24 (by decide) ?_
        refine r_iconst (v := (-1)) C dX9_wish_26 (by decide) ?_
        refine r_iast (n := (LN p0)) C dX9_wish_27 hk0 rfl h (fun j4 T6 hj5 h => ?_)
        refine r_iconst (v := 1) C dX9_wish_28 (by decide) ?_
        exact r_zret C M dX9_wish_29 (by decide) h
      · refine r_iconst (v := 0) C dX9_wish_17 (by decide) ?_
        exact r_zret C M dX9_wish_18 (by decide) h
theorem dX9_fontField_0 : decode cX9_fontField 0 = .ok (.aload_n 0, 1) := by decide +kernel
theorem dX9_fontField_1 : decode cX9_fontField 1 = .ok (.getfield 82, 3) := by decide +kernel
theorem dX9_fontField_4 : decode cX9_fontField 4 = .ok (.getfield 327, 3) := by decide +kernel
theorem dX9_fontField_7 : decode cX9_fontField 7 = .ok (.istore_n 3, 1) := by decide +kernel
theorem dX9_fontField_8 : decode cX9_fontField 8 = .ok (.iload_n 3, 1) := by decide +kernel
theorem dX9_fontField_9 : decode cX9_fontField 9 = .ok (.bipush 88, 2) := by decide +kernel
theorem dX9_fontField_11 : decode cX9_fontField 11 = .ok (.if_icmp .ne 13, 3) := by decide +kernel
theorem dX9_fontField_14 : decode cX9_fontField 14 = .ok (.aload_n 0, 1) := by decide +kernel
theorem dX9_fontField_15 : decode cX9_fontField 15 = .ok (.getfield 21, 3) := by decide +kernel
theorem dX9_fontField_18 : decode cX9_fontField 18 = .ok (.iload_n 2, 1) := by decide +kernel
theorem dX9_fontField_19 : decode cX9_fontField 19 = .ok (.aload_n 1, 1) := by decide +kernel
theorem dX9_fontField_20 : decode cX9_fontField 20 = .ok (.invokevirtual 564, 3) := by decide +kernel
theorem dX9_fontField_23 : decode cX9_fontField 23 = .ok (.ireturn, 1) := by decide +kernel
theorem dX9_fontField_24 : decode cX9_fontField 24 = .ok (.iload_n 3, 1) := by decide +kernel
theorem dX9_fontField_25 : decode cX9_fontField 25 = .ok (.bipush 65, 2) := by decide +kernel
theorem dX9_fontField_27 : decode cX9_fontField 27 = .ok (.if_icmp .lt 19, 3) := by decide +kernel
theorem dX9_fontField_30 : decode cX9_fontField 30 = .ok (.iload_n 3, 1) := by decide +kernel
theorem dX9_fontField_31 : decode cX9_fontField 31 = .ok (.bipush 90, 2) := by decide +kernel
theorem dX9_fontField_33 : decode cX9_fontField 33 = .ok (.if_icmp .gt 13, 3) := by decide +kernel
theorem dX9_fontField_36 : decode cX9_fontField 36 = .ok (.iload_n 3, 1) := by decide +kernel
theorem dX9_fontField_37 : decode cX9_fontField 37 = .ok (.bipush 87, 2) := by decide +kernel
theorem dX9_fontField_39 : decode cX9_fontField 39 = .ok (.if_icmp .eq 7, 3) := by decide +kernel
theorem dX9_fontField_42 : decode cX9_fontField 42 = .ok (.iconst 1, 1) := by decide +kernel
theorem dX9_fontField_43 : decode cX9_fontField 43 = .ok (.goto 4, 3) := by decide +kernel
theorem dX9_fontField_46 : decode cX9_fontField 46 = .ok (.iconst 0, 1) := by decide +kernel
theorem dX9_fontField_47 : decode cX9_fontField 47 = .ok (.istore 4, 2) := by decide +kernel
theorem dX9_fontField_49 : decode cX9_fontField 49 = .ok (.iload 4, 2) := by decide +kernel
theorem dX9_fontField_51 : decode cX9_fontField 51 = .ok (.ifCond .eq 24, 3) := by decide +kernel
theorem dX9_fontField_54 : decode cX9_fontField 54 = .ok (.aload_n 1, 1) := by decide +kernel
theorem dX9_fontField_55 : decode cX9_fontField 55 = .ok (.iconst 0, 1) := by decide +kernel
theorem dX9_fontField_56 : decode cX9_fontField 56 = .ok (.bipush 32, 2) := by decide +kernel
theorem dX9_fontField_58 : decode cX9_fontField 58 = .ok (.iload_n 2, 1) := by decide +kernel
theorem dX9_fontField_59 : decode cX9_fontField 59 = .ok (.imul, 1) := by decide +kernel
theorem dX9_fontField_60 : decode cX9_fontField 60 = .ok (.iload_n 3, 1) := by decide +kernel
theorem dX9_fontField_61 : decode cX9_fontField 61 = .ok (.iadd, 1) := by decide +kernel
theorem dX9_fontField_62 : decode cX9_fontField 62 = .ok (.bipush 64, 2) := by decide +kernel
theorem dX9_fontField_64 : decode cX9_fontField 64 = .ok (.isub, 1) := by decide +kernel
theorem dX9_fontField_65 : decode cX9_fontField 65 = .ok (.invokestatic 568, 3) := by decide +kernel
theorem dX9_fontField_68 : decode cX9_fontField 68 = .ok (.ifCond .eq 7, 3) := by decide +kernel
theorem dX9_fontField_71 : decode cX9_fontField 71 = .ok (.iconst 1, 1) := by decide +kernel
theorem dX9_fontField_72 : decode cX9_fontField 72 = .ok (.goto 4, 3) := by decide +kernel
theorem dX9_fontField_75 : decode cX9_fontField 75 = .ok (.iconst 0, 1) := by decide +kernel
theorem dX9_fontField_76 : decode cX9_fontField 76 = .ok (.ireturn, 1) := by decide +kernel
noncomputable def f_X9_fontField_47 (a1 : Nat) (a2 : Int32) (a3 : Int32) (b0 : Int32) (T : Mm) : Option (Int32 × Mm) :=
  if b0 = 0 then (some (0, T))
  else (bd (f_X9_wish a1 0 ((((32 : Int32) * a2) + a3) - 64) T) fun v1 T2 =>
  if v1 = 0 then (some (0, T2))
  else (some (1, T2)))
set_option maxRecDepth 100000 in
set_option maxHeartbeats 4000000 in
theorem s_X9_fontField_47 {x : JX} {ad : Nat → Nat} {U : Mm} {S0 : Hp} {q : Int32 × Mm}  (hn9 : x_n x = 5) (C : CB x RX9 cX9_fontField) (M : CMr x 4 (some .boolean) S0 ad true U eI q) (a1 : Nat) (a2 : Int32) (a3 : Int32) (b0 : Int32) (T : Mm) (ha1 : kS true a1 = 14) (h : f_X9_fontField_47  a1 a2 a3 b0 T = some q) : Jr x ad true U T [(1, .ref (ad a1)), (2, .int a2), (3, .int a3)] 47 [.int b0] := by
  unfold f_X9_fontField_47 at h
  refine r_istore (lv' := [(4, .int b0), (1, .ref (ad a1)), (2, .int a2), (3, .int a3)]) C dX9_fontField_47 (by rw [hn9]; decide) rfl ?_
  refine r_iload C dX9_fontField_49 0 rfl ?_
  refine r_if_eq (tgt := 75) C dX9_fontField_51 (by decide) h (fun h => ?_) (fun h => ?_)
  · refine r_iconst (v := 0) C dX9_fontField_75 (by decide) ?_
    exact r_zret C M dX9_fontField_76 (by decide) h
  · refine r_aload_n C dX9_fontField_54 rfl 1 rfl ?_
    refine r_iconst (v := 0) C dX9_fontField_55 (by decide) ?_
    refine r_bipush (v := 32) C dX9_fontField_56 (by decide) ?_
    refine r_iload_n C dX9_fontField_58 rfl 2 rfl ?_
    refine r_imul C dX9_fontField_59 rfl ?_
    show Jr _ _ _ _ _ _ 60 _
    refine r_iload_n C dX9_fontField_60 rfl 3 rfl ?_
    refine r_iadd C dX9_fontField_61 rfl ?_
    refine r_bipush (v := 64) C dX9_fontField_62 (by decide) ?_
    refine r_isub C dX9_fontField_64 rfl ?_
    refine r_callSI C M h [.ref (ad a1), .int 0, .int ((((32 : Int32) * a2) + a3) - 64)] [] mlX9_568 mcX9_wish (fun q9 e9 => s_X9_wish a1 0 ((((32 : Int32) * a2) + a3) - 64) ha1 e9) (by decide) (by decide) rfl rfl (Nat.le_of_ble_eq_true rfl) dX9_fontField_65 (fun v1 T2 h => ?_)
    refine r_if_eq (tgt := 75) C dX9_fontField_68 (by decide) h (fun h => ?_) (fun h => ?_)
    · refine r_iconst (v := 0) C dX9_fontField_75 (by decide) ?_
      exact r_zret C M dX9_fontField_76 (by decide) h
    · refine r_iconst (v := 1) C dX9_fontField_71 (by decide) ?_
      refine r_goto (tgt := 76) C dX9_fontField_72 (by decide) ?_
      exact r_zret C M dX9_fontField_76 (by decide) h
noncomputable def f_X9_fontField (p1 : Nat) (p2 : Int32) (T : Mm) : Option (Int32 × Mm) :=
  rf true (gR T 913 23) 5 fun j1 =>
  lb ((gI T 505 j1)) fun v3 =>
  if v3 = 88 then (bd (f_X2_wishFor p2 p1 T) fun v4 T5 =>
  gd (v4 = 0 ∨ v4 = 1) <|
  some (v4, T5))
  else (if v3 < 65 then (f_X9_fontField_47 p1 p2 v3 0 T)
  else (if 90 < v3 then (f_X9_fontField_47 p1 p2 v3 0 T)
  else (if v3 = 87 then (f_X9_fontField_47 p1 p2 v3 0 T)
  else (f_X9_fontField_47 p1 p2 v3 1 T))))
set_option maxRecDepth 100000 in
set_option maxHeartbeats 4000000 in
theorem s_X9_fontField {ad : Nat → Nat} {U T : Mm} {q : Int32 × Mm}  (p1 : Nat) (p2 : Int32) (hk1 : kS true p1 = 14) (h : f_X9_fontField p1 p2 T = some q) : Cr 4 yX9_fontField cX9_fontField 5 (some .boolean) [.ref (ad 23), .ref (ad p1), .int p2] ad true U T eI q := by
  refine cr_of (by decide) (Nat.le_of_ble_eq_true rfl) fun x S0 hn9 C M => ?_
  have C : CB x RX9 cX9_fontField := C
  refine Jr.eq (lv' := [(0, .ref (ad 23)), (1, .ref (ad p1)), (2, .int p2)]) (st' := []) rfl rfl ?_
  unfold f_X9_fontField at h
  refine r_aload_n C dX9_fontField_0 rfl 0 rfl ?_
  refine r_getr (f := 913) (c := 5) C flX9_82 dX9_fontField_1 kq_23 (by decide) rfl h (fun j1 hj2 h => ?_)
  refine r_geti (f := 505) C flX9_327 dX9_fontField_4 hj2 (by decide) (by decide) rfl ?_
  refine r_lbI h (fun v3 h => ?_)
  refine r_istore_n (lv' := [(3, .int v3), (0, .ref (ad 23)), (1, .ref (ad p1)), (2, .int p2)]) C dX9_fontField_7 rfl (by rw [hn9]; decide) rfl ?_
  refine r_iload_n C dX9_fontField_8 rfl 0 rfl ?_
  show Jr _ _ _ _ _ _ 9 _
  refine r_bipush (v := 88) C dX9_fontField_9 (by decide) ?_
  refine r_ic_ne (tgt := 24) C dX9_fontField_11 (by decide) h (fun h => ?_) (fun h => ?_)
  · refine r_iload_n C dX9_fontField_24 rfl 0 rfl ?_
    refine r_bipush (v := 65) C dX9_fontField_25 (by decide) ?_
    refine r_ic_lt (tgt := 46) C dX9_fontField_27 (by decide) h (fun h => ?_) (fun h => ?_)
    · refine r_iconst (v := 0) C dX9_fontField_46 (by decide) ?_
      refine Jr.sub [2, 3, 0] (lv' := [(1, .ref (ad p1)), (2, .int p2), (3, .int v3)]) rfl ?_
      exact s_X9_fontField_47 hn9 C M  p1 p2 v3 0 T hk1 h
    · refine r_iload_n C dX9_fontField_30 rfl 0 rfl ?_
      refine r_bipush (v := 90) C dX9_fontField_31 (by decide) ?_
      refine r_ic_gt (tgt := 46) C dX9_fontField_33 (by decide) h (fun h => ?_) (fun h => ?_)
      · refine r_iconst (v := 0) C dX9_fontField_46 (by decide) ?_
        refine Jr.sub [2, 3, 0] (lv' := [(1, .ref (ad p1)), (2, .int p2), (3, .int v3)]) rfl ?_
        exact s_X9_fontField_47 hn9 C M  p1 p2 v3 0 T hk1 h
      · refine r_iload_n C dX9_fontField_36 rfl 0 rfl ?_
        refine r_bipush (v := 87) C dX9_fontField_37 (by decide) ?_
        refine r_ic_eq (tgt := 46) C dX9_fontField_39 (by decide) h (fun h => ?_) (fun h => ?_)
        · refine r_iconst (v := 0) C dX9_fontField_46 (by decide) ?_
          refine Jr.sub [2, 3, 0] (lv' := [(1, .ref (ad p1)), (2, .int p2), (3, .int v3)]) rfl ?_
          exact s_X9_fontField_47 hn9 C M  p1 p2 v3 0 T hk1 h
        · refine r_iconst (v := 1) C dX9_fontField_42 (by decide) ?_
          refine r_goto (tgt := 47) C dX9_fontField_43 (by decide) ?_
          refine Jr.sub [2, 3, 0] (lv' := [(1, .ref (ad p1)), (2, .int p2), (3, .int v3)]) rfl ?_
          exact s_X9_fontField_47 hn9 C M  p1 p2 v3 1 T hk1 h
  · refine r_aload_n C dX9_fontField_14 rfl 1 rfl ?_
    refine r_getp (f := 902) (j := 27) C flX9_21 dX9_fontField_15 kq_23 (by decide) rfl (fun W => pt_902 kq_23 W) ?_
    refine r_iload_n C dX9_fontField_18 rfl 3 rfl ?_
    refine r_aload_n C dX9_fontField_19 rfl 2 rfl ?_
    refine r_callVI C M h [.int p2, .ref (ad p1)] [] mlX9_564 mcX2_wishFor (fun q9 e9 => s_X2_wishFor p2 p1 hk1 e9) kq_27 rfl (by decide) (by decide) rfl rfl (Nat.le_of_ble_eq_true rfl) dX9_fontField_20 (fun v4 T5 h => ?_)
    show Jr _ _ _ _ _ _ 23 _
    refine r_gd h (fun hz6 h => ?_)
    exact r_zret C M dX9_fontField_23 hz6 h
theorem dX9_wishPitch_0 : decode cX9_wishPitch 0 = .ok (.aload_n 0, 1) := by decide +kernel
theorem dX9_wishPitch_1 : decode cX9_wishPitch 1 = .ok (.getfield 82, 3) := by decide +kernel
theorem dX9_wishPitch_4 : decode cX9_wishPitch 4 = .ok (.invokevirtual 576, 3) := by decide +kernel
theorem dX9_wishPitch_7 : decode cX9_wishPitch 7 = .ok (.lstore_n 2, 1) := by decide +kernel
theorem dX9_wishPitch_8 : decode cX9_wishPitch 8 = .ok (.lload_n 2, 1) := by decide +kernel
theorem dX9_wishPitch_9 : decode cX9_wishPitch 9 = .ok (.lconst 0, 1) := by decide +kernel
theorem dX9_wishPitch_10 : decode cX9_wishPitch 10 = .ok (.lcmp, 1) := by decide +kernel
theorem dX9_wishPitch_11 : decode cX9_wishPitch 11 = .ok (.ifCond .gt 5, 3) := by decide +kernel
theorem dX9_wishPitch_14 : decode cX9_wishPitch 14 = .ok (.iconst 0, 1) := by decide +kernel
theorem dX9_wishPitch_15 : decode cX9_wishPitch 15 = .ok (.ireturn, 1) := by decide +kernel
theorem dX9_wishPitch_16 : decode cX9_wishPitch 16 = .ok (.ldc2_w 580, 3) := by decide +kernel
theorem dX9_wishPitch_19 : decode cX9_wishPitch 19 = .ok (.lload_n 2, 1) := by decide +kernel
theorem dX9_wishPitch_20 : decode cX9_wishPitch 20 = .ok (.ldiv, 1) := by decide +kernel
theorem dX9_wishPitch_21 : decode cX9_wishPitch 21 = .ok (.lstore 4, 2) := by decide +kernel
theorem dX9_wishPitch_23 : decode cX9_wishPitch 23 = .ok (.lload 4, 2) := by decide +kernel
theorem dX9_wishPitch_25 : decode cX9_wishPitch 25 = .ok (.lconst 1, 1) := by decide +kernel
theorem dX9_wishPitch_26 : decode cX9_wishPitch 26 = .ok (.lcmp, 1) := by decide +kernel
theorem dX9_wishPitch_27 : decode cX9_wishPitch 27 = .ok (.ifCond .lt 16, 3) := by decide +kernel
theorem dX9_wishPitch_30 : decode cX9_wishPitch 30 = .ok (.lload 4, 2) := by decide +kernel
theorem dX9_wishPitch_32 : decode cX9_wishPitch 32 = .ok (.ldc2_w 582, 3) := by decide +kernel
theorem dX9_wishPitch_35 : decode cX9_wishPitch 35 = .ok (.lcmp, 1) := by decide +kernel
theorem dX9_wishPitch_36 : decode cX9_wishPitch 36 = .ok (.ifCond .gt 7, 3) := by decide +kernel
theorem dX9_wishPitch_39 : decode cX9_wishPitch 39 = .ok (.iconst 1, 1) := by decide +kernel
theorem dX9_wishPitch_40 : decode cX9_wishPitch 40 = .ok (.goto 4, 3) := by decide +kernel
theorem dX9_wishPitch_43 : decode cX9_wishPitch 43 = .ok (.iconst 0, 1) := by decide +kernel
theorem dX9_wishPitch_44 : decode cX9_wishPitch 44 = .ok (.istore 6, 2) := by decide +kernel
theorem dX9_wishPitch_46 : decode cX9_wishPitch 46 = .ok (.iload 6, 2) := by decide +kernel
theorem dX9_wishPitch_48 : decode cX9_wishPitch 48 = .ok (.ifCond .eq 18, 3) := by decide +kernel
theorem dX9_wishPitch_51 : decode cX9_wishPitch 51 = .ok (.aload_n 1, 1) := by decide +kernel
theorem dX9_wishPitch_52 : decode cX9_wishPitch 52 = .ok (.iconst 2, 1) := by decide +kernel
theorem dX9_wishPitch_53 : decode cX9_wishPitch 53 = .ok (.lload 4, 2) := by decide +kernel
theorem dX9_wishPitch_55 : decode cX9_wishPitch 55 = .ok (.l2i, 1) := by decide +kernel
theorem dX9_wishPitch_56 : decode cX9_wishPitch 56 = .ok (.invokestatic 568, 3) := by decide +kernel
theorem dX9_wishPitch_59 : decode cX9_wishPitch 59 = .ok (.ifCond .eq 7, 3) := by decide +kernel
theorem dX9_wishPitch_62 : decode cX9_wishPitch 62 = .ok (.iconst 1, 1) := by decide +kernel
theorem dX9_wishPitch_63 : decode cX9_wishPitch 63 = .ok (.goto 4, 3) := by decide +kernel
theorem dX9_wishPitch_66 : decode cX9_wishPitch 66 = .ok (.iconst 0, 1) := by decide +kernel
theorem dX9_wishPitch_67 : decode cX9_wishPitch 67 = .ok (.ireturn, 1) := by decide +kernel
noncomputable def f_X9_wishPitch_44 (a1 : Nat) (a4 : Int64) (b0 : Int32) (T : Mm) : Option (Int32 × Mm) :=
  if b0 = 0 then (some (0, T))
  else (bd (f_X9_wish a1 2 ((a4).toInt32) T) fun v1 T2 =>
  if v1 = 0 then (some (0, T2))
  else (some (1, T2)))
set_option maxRecDepth 100000 in
set_option maxHeartbeats 4000000 in
theorem s_X9_wishPitch_44 {x : JX} {ad : Nat → Nat} {U : Mm} {S0 : Hp} {q : Int32 × Mm}  (hn9 : x_n x = 7) (C : CB x RX9 cX9_wishPitch) (M : CMr x 2 (some .boolean) S0 ad true U eI q) (a1 : Nat) (a4 : Int64) (b0 : Int32) (T : Mm) (ha1 : kS true a1 = 14) (h : f_X9_wishPitch_44  a1 a4 b0 T = some q) : Jr x ad true U T [(1, .ref (ad a1)), (4, .long a4)] 44 [.int b0] := by
  unfold f_X9_wishPitch_44 at h
  refine r_istore (lv' := [(6, .int b0), (1, .ref (ad a1)), (4, .long a4)]) C dX9_wishPitch_44 (by rw [hn9]; decide) rfl ?_
  refine r_iload C dX9_wishPitch_46 0 rfl ?_
  refine r_if_eq (tgt := 66) C dX9_wishPitch_48 (by decide) h (fun h => ?_) (fun h => ?_)
  · refine r_iconst (v := 0) C dX9_wishPitch_66 (by decide) ?_
    exact r_zret C M dX9_wishPitch_67 (by decide) h
  · refine r_aload_n C dX9_wishPitch_51 rfl 1 rfl ?_
    refine r_iconst (v := 2) C dX9_wishPitch_52 (by decide) ?_
    refine r_lload C dX9_wishPitch_53 2 rfl ?_
    refine r_l2i C dX9_wishPitch_55 rfl ?_
    refine r_callSI C M h [.ref (ad a1), .int 2, .int ((a4).toInt32)] [] mlX9_568 mcX9_wish (fun q9 e9 => s_X9_wish a1 2 ((a4).toInt32) ha1 e9) (by decide) (by decide) rfl rfl (Nat.le_of_ble_eq_true rfl) dX9_wishPitch_56 (fun v1 T2 h => ?_)
    show Jr _ _ _ _ _ _ 59 _
    refine r_if_eq (tgt := 66) C dX9_wishPitch_59 (by decide) h (fun h => ?_) (fun h => ?_)
    · refine r_iconst (v := 0) C dX9_wishPitch_66 (by decide) ?_
      exact r_zret C M dX9_wishPitch_67 (by decide) h
    · refine r_iconst (v := 1) C dX9_wishPitch_62 (by decide) ?_
      refine r_goto (tgt := 67) C dX9_wishPitch_63 (by decide) ?_
      exact r_zret C M dX9_wishPitch_67 (by decide) h
noncomputable def f_X9_wishPitch (p1 : Nat) (T : Mm) : Option (Int32 × Mm) :=
  rf true (gR T 913 23) 5 fun j1 =>
  bd (f_X5_exact j1 T) fun v3 T4 =>
  if 0 < (lg_cmp v3 0) then (gd (¬ v3 = 0) <|
  lb (((72000000 : Int64) / v3)) fun v6 =>
  if (lg_cmp v6 1) < 0 then (f_X9_wishPitch_44 p1 v6 0 T4)
  else (if 0 < (lg_cmp v6 7200) then (f_X9_wishPitch_44 p1 v6 0 T4)
  else (f_X9_wishPitch_44 p1 v6 1 T4)))
  else (some (0, T4))
set_option maxRecDepth 100000 in
set_option maxHeartbeats 4000000 in
theorem s_X9_wishPitch {ad : Nat → Nat} {U T : Mm} {q : Int32 × Mm}  (p1 : Nat) (hk1 : kS true p1 = 14) (h : f_X9_wishPitch p1 T = some q) : Cr 2 yX9_wishPitch cX9_wishPitch 7 (some .boolean) [.ref (ad 23), .ref (ad p1)] ad true U T eI q := by
  refine cr_of (by decide) (Nat.le_of_ble_eq_true rfl) fun x S0 hn9 C M => ?_
  have C : CB x RX9 cX9_wishPitch := C
  refine Jr.eq (lv' := [(0, .ref (ad 23)), (1, .ref (ad p1))]) (st' := []) rfl rfl ?_
  unfold f_X9_wishPitch at h
  refine r_aload_n C dX9_wishPitch_0 rfl 0 rfl ?_
  refine r_getr (f := 913) (c := 5) C flX9_82 dX9_wishPitch_1 kq_23 (by decide) rfl h (fun j1 hj2 h => ?_)
  refine r_callVJ C M h [] [] mlX9_576 mcX5_exact (fun q9 e9 => s_X5_exact j1 hj2 e9) hj2 rfl (by decide) (by decide) rfl rfl (Nat.le_of_ble_eq_true rfl) dX9_wishPitch_4 (fun v3 T4 h => ?_)
  refine r_lstore_n (lv' := [(2, .long v3), (0, .ref (ad 23)), (1, .ref (ad p1))]) C dX9_wishPitch_7 rfl (by rw [hn9]; decide) rfl ?_
  refine r_lload_n C dX9_wishPitch_8 rfl 0 rfl ?_
  show Jr _ _ _ _ _ _ 9 _
  refine r_lconst (v := 0) C dX9_wishPitch_9 (by decide) ?_
  refine r_lcmp C dX9_wishPitch_10 ?_
  refine r_if_gt (tgt := 16) C dX9_wishPitch_11 (by decide) h (fun h => ?_) (fun h => ?_)
  · refine r_ldc2 (v := 72000000) C dX9_wishPitch_16 kcX9_580 ?_
    refine r_lload_n C dX9_wishPitch_19 rfl 0 rfl ?_
    refine r_gd h (fun hz5 h => ?_)
    refine r_ldiv C dX9_wishPitch_20 hz5 rfl ?_
    refine r_lbJ h (fun v6 h => ?_)
    refine r_lstore (lv' := [(4, .long v6), (2, .long v3), (0, .ref (ad 23)), (1, .ref (ad p1))]) C dX9_wishPitch_21 (by rw [hn9]; decide) rfl ?_
    refine r_lload C dX9_wishPitch_23 0 rfl ?_
    show Jr _ _ _ _ _ _ 25 _
    refine r_lconst (v := 1) C dX9_wishPitch_25 (by decide) ?_
    refine r_lcmp C dX9_wishPitch_26 ?_
    refine r_if_lt (tgt := 43) C dX9_wishPitch_27 (by decide) h (fun h => ?_) (fun h => ?_)
    · refine r_iconst (v := 0) C dX9_wishPitch_43 (by decide) ?_
      refine Jr.sub [3, 0] (lv' := [(1, .ref (ad p1)), (4, .long v6)]) rfl ?_
      exact s_X9_wishPitch_44 hn9 C M  p1 v6 0 T4 hk1 h
    · refine r_lload C dX9_wishPitch_30 0 rfl ?_
      refine r_ldc2 (v := 7200) C dX9_wishPitch_32 kcX9_582 ?_
      refine r_lcmp C dX9_wishPitch_35 ?_
      refine r_if_gt (tgt := 43) C dX9_wishPitch_36 (by decide) h (fun h => ?_) (fun h => ?_)
      · refine r_iconst (v := 0) C dX9_wishPitch_43 (by decide) ?_
        refine Jr.sub [3, 0] (lv' := [(1, .ref (ad p1)), (4, .long v6)]) rfl ?_
        exact s_X9_wishPitch_44 hn9 C M  p1 v6 0 T4 hk1 h
      · refine r_iconst (v := 1) C dX9_wishPitch_39 (by decide) ?_
        refine r_goto (tgt := 44) C dX9_wishPitch_40 (by decide) ?_
        refine Jr.sub [3, 0] (lv' := [(1, .ref (ad p1)), (4, .long v6)]) rfl ?_
        exact s_X9_wishPitch_44 hn9 C M  p1 v6 1 T4 hk1 h
  · refine r_iconst (v := 0) C dX9_wishPitch_14 (by decide) ?_
    exact r_zret C M dX9_wishPitch_15 (by decide) h
theorem dX9_styleField_0 : decode cX9_styleField 0 = .ok (.iload_n 2, 1) := by decide +kernel
theorem dX9_styleField_1 : decode cX9_styleField 1 = .ok (.ifCond .lt 14, 3) := by decide +kernel
theorem dX9_styleField_4 : decode cX9_styleField 4 = .ok (.iload_n 2, 1) := by decide +kernel
theorem dX9_styleField_5 : decode cX9_styleField 5 = .ok (.sipush 255, 3) := by decide +kernel
theorem dX9_styleField_8 : decode cX9_styleField 8 = .ok (.if_icmp .gt 7, 3) := by decide +kernel
theorem dX9_styleField_11 : decode cX9_styleField 11 = .ok (.iconst 1, 1) := by decide +kernel
theorem dX9_styleField_12 : decode cX9_styleField 12 = .ok (.goto 4, 3) := by decide +kernel
theorem dX9_styleField_15 : decode cX9_styleField 15 = .ok (.iconst 0, 1) := by decide +kernel
theorem dX9_styleField_16 : decode cX9_styleField 16 = .ok (.istore_n 3, 1) := by decide +kernel
theorem dX9_styleField_17 : decode cX9_styleField 17 = .ok (.aload_n 0, 1) := by decide +kernel
theorem dX9_styleField_18 : decode cX9_styleField 18 = .ok (.getfield 82, 3) := by decide +kernel
theorem dX9_styleField_21 : decode cX9_styleField 21 = .ok (.getfield 327, 3) := by decide +kernel
theorem dX9_styleField_24 : decode cX9_styleField 24 = .ok (.lookupswitch 166 #[(66, 119), (72, 75), (80, 60), (83, 100), (84, 146), (86, 81)], 60) := by decide +kernel
theorem dX9_styleField_84 : decode cX9_styleField 84 = .ok (.aload_n 1, 1) := by decide +kernel
theorem dX9_styleField_85 : decode cX9_styleField 85 = .ok (.iconst 1, 1) := by decide +kernel
theorem dX9_styleField_86 : decode cX9_styleField 86 = .ok (.iload_n 2, 1) := by decide +kernel
theorem dX9_styleField_87 : decode cX9_styleField 87 = .ok (.ifCond .ne 7, 3) := by decide +kernel
theorem dX9_styleField_90 : decode cX9_styleField 90 = .ok (.iconst 0, 1) := by decide +kernel
theorem dX9_styleField_91 : decode cX9_styleField 91 = .ok (.goto 4, 3) := by decide +kernel
theorem dX9_styleField_94 : decode cX9_styleField 94 = .ok (.iconst 1, 1) := by decide +kernel
theorem dX9_styleField_95 : decode cX9_styleField 95 = .ok (.invokestatic 568, 3) := by decide +kernel
theorem dX9_styleField_98 : decode cX9_styleField 98 = .ok (.ireturn, 1) := by decide +kernel
theorem dX9_styleField_99 : decode cX9_styleField 99 = .ok (.aload_n 0, 1) := by decide +kernel
theorem dX9_styleField_100 : decode cX9_styleField 100 = .ok (.aload_n 1, 1) := by decide +kernel
theorem dX9_styleField_101 : decode cX9_styleField 101 = .ok (.invokevirtual 572, 3) := by decide +kernel
theorem dX9_styleField_104 : decode cX9_styleField 104 = .ok (.ireturn, 1) := by decide +kernel
theorem dX9_styleField_105 : decode cX9_styleField 105 = .ok (.iload_n 3, 1) := by decide +kernel
theorem dX9_styleField_106 : decode cX9_styleField 106 = .ok (.ifCond .eq 16, 3) := by decide +kernel
theorem dX9_styleField_109 : decode cX9_styleField 109 = .ok (.aload_n 1, 1) := by decide +kernel
theorem dX9_styleField_110 : decode cX9_styleField 110 = .ok (.iconst 3, 1) := by decide +kernel
theorem dX9_styleField_111 : decode cX9_styleField 111 = .ok (.iload_n 2, 1) := by decide +kernel
theorem dX9_styleField_112 : decode cX9_styleField 112 = .ok (.invokestatic 568, 3) := by decide +kernel
theorem dX9_styleField_115 : decode cX9_styleField 115 = .ok (.ifCond .eq 7, 3) := by decide +kernel
theorem dX9_styleField_118 : decode cX9_styleField 118 = .ok (.iconst 1, 1) := by decide +kernel
theorem dX9_styleField_119 : decode cX9_styleField 119 = .ok (.goto 4, 3) := by decide +kernel
theorem dX9_styleField_122 : decode cX9_styleField 122 = .ok (.iconst 0, 1) := by decide +kernel
theorem dX9_styleField_123 : decode cX9_styleField 123 = .ok (.ireturn, 1) := by decide +kernel
theorem dX9_styleField_124 : decode cX9_styleField 124 = .ok (.iload_n 3, 1) := by decide +kernel
theorem dX9_styleField_125 : decode cX9_styleField 125 = .ok (.ifCond .eq 16, 3) := by decide +kernel
theorem dX9_styleField_128 : decode cX9_styleField 128 = .ok (.aload_n 1, 1) := by decide +kernel
theorem dX9_styleField_129 : decode cX9_styleField 129 = .ok (.iconst 4, 1) := by decide +kernel
theorem dX9_styleField_130 : decode cX9_styleField 130 = .ok (.iload_n 2, 1) := by decide +kernel
theorem dX9_styleField_131 : decode cX9_styleField 131 = .ok (.invokestatic 568, 3) := by decide +kernel
theorem dX9_styleField_134 : decode cX9_styleField 134 = .ok (.ifCond .eq 7, 3) := by decide +kernel
theorem dX9_styleField_137 : decode cX9_styleField 137 = .ok (.iconst 1, 1) := by decide +kernel
theorem dX9_styleField_138 : decode cX9_styleField 138 = .ok (.goto 4, 3) := by decide +kernel
theorem dX9_styleField_141 : decode cX9_styleField 141 = .ok (.iconst 0, 1) := by decide +kernel
theorem dX9_styleField_142 : decode cX9_styleField 142 = .ok (.ireturn, 1) := by decide +kernel
theorem dX9_styleField_143 : decode cX9_styleField 143 = .ok (.iload_n 2, 1) := by decide +kernel
theorem dX9_styleField_144 : decode cX9_styleField 144 = .ok (.bipush (-128), 2) := by decide +kernel
theorem dX9_styleField_146 : decode cX9_styleField 146 = .ok (.if_icmp .lt 22, 3) := by decide +kernel
theorem dX9_styleField_149 : decode cX9_styleField 149 = .ok (.iload_n 2, 1) := by decide +kernel
theorem dX9_styleField_150 : decode cX9_styleField 150 = .ok (.bipush 127, 2) := by decide +kernel
theorem dX9_styleField_152 : decode cX9_styleField 152 = .ok (.if_icmp .gt 16, 3) := by decide +kernel
theorem dX9_styleField_155 : decode cX9_styleField 155 = .ok (.aload_n 1, 1) := by decide +kernel
theorem dX9_styleField_156 : decode cX9_styleField 156 = .ok (.iconst 5, 1) := by decide +kernel
theorem dX9_styleField_157 : decode cX9_styleField 157 = .ok (.iload_n 2, 1) := by decide +kernel
theorem dX9_styleField_158 : decode cX9_styleField 158 = .ok (.invokestatic 568, 3) := by decide +kernel
theorem dX9_styleField_161 : decode cX9_styleField 161 = .ok (.ifCond .eq 7, 3) := by decide +kernel
theorem dX9_styleField_164 : decode cX9_styleField 164 = .ok (.iconst 1, 1) := by decide +kernel
theorem dX9_styleField_165 : decode cX9_styleField 165 = .ok (.goto 4, 3) := by decide +kernel
theorem dX9_styleField_168 : decode cX9_styleField 168 = .ok (.iconst 0, 1) := by decide +kernel
theorem dX9_styleField_169 : decode cX9_styleField 169 = .ok (.ireturn, 1) := by decide +kernel
theorem dX9_styleField_170 : decode cX9_styleField 170 = .ok (.iload_n 3, 1) := by decide +kernel
theorem dX9_styleField_171 : decode cX9_styleField 171 = .ok (.ifCond .eq 17, 3) := by decide +kernel
theorem dX9_styleField_174 : decode cX9_styleField 174 = .ok (.aload_n 1, 1) := by decide +kernel
theorem dX9_styleField_175 : decode cX9_styleField 175 = .ok (.bipush 6, 2) := by decide +kernel
theorem dX9_styleField_177 : decode cX9_styleField 177 = .ok (.iload_n 2, 1) := by decide +kernel
theorem dX9_styleField_178 : decode cX9_styleField 178 = .ok (.invokestatic 568, 3) := by decide +kernel
theorem dX9_styleField_181 : decode cX9_styleField 181 = .ok (.ifCond .eq 7, 3) := by decide +kernel
theorem dX9_styleField_184 : decode cX9_styleField 184 = .ok (.iconst 1, 1) := by decide +kernel
theorem dX9_styleField_185 : decode cX9_styleField 185 = .ok (.goto 4, 3) := by decide +kernel
theorem dX9_styleField_188 : decode cX9_styleField 188 = .ok (.iconst 0, 1) := by decide +kernel
theorem dX9_styleField_189 : decode cX9_styleField 189 = .ok (.ireturn, 1) := by decide +kernel
theorem dX9_styleField_190 : decode cX9_styleField 190 = .ok (.iconst 0, 1) := by decide +kernel
theorem dX9_styleField_191 : decode cX9_styleField 191 = .ok (.ireturn, 1) := by decide +kernel
noncomputable def f_X9_styleField_16 (a1 : Nat) (a2 : Int32) (b0 : Int32) (T : Mm) : Option (Int32 × Mm) :=
  rf true (gR T 913 23) 5 fun j1 =>
  lb ((gI T 505 j1)) fun v3 =>
  if v3 = 66 then (if a2 < (-128) then (some (0, T))
  else (if 127 < a2 then (some (0, T))
  else (bd (f_X9_wish a1 5 a2 T) fun v5 T6 =>
  if v5 = 0 then (some (0, T6))
  else (some (1, T6)))))
  else if v3 = 72 then (bd (f_X9_wishPitch a1 T) fun v8 T9 =>
  gd (v8 = 0 ∨ v8 = 1) <|
  some (v8, T9))
  else if v3 = 80 then (if a2 = 0 then (bd (f_X9_wish a1 1 0 T) fun v15 T16 =>
  gd (v15 = 0 ∨ v15 = 1) <|
  some (v15, T16))
  else (bd (f_X9_wish a1 1 1 T) fun v12 T13 =>
  gd (v12 = 0 ∨ v12 = 1) <|
  some (v12, T13)))
  else if v3 = 83 then (if b0 = 0 then (some (0, T))
  else (bd (f_X9_wish a1 4 a2 T) fun v19 T20 =>
  if v19 = 0 then (some (0, T20))
  else (some (1, T20))))
  else if v3 = 84 then (if b0 = 0 then (some (0, T))
  else (bd (f_X9_wish a1 6 a2 T) fun v22 T23 =>
  if v22 = 0 then (some (0, T23))
  else (some (1, T23))))
  else if v3 = 86 then (if b0 = 0 then (some (0, T))
  else (bd (f_X9_wish a1 3 a2 T) fun v25 T26 =>
  if v25 = 0 then (some (0, T26))
  else (some (1, T26))))
  else (some (0, T))
set_option maxRecDepth 100000 in
set_option maxHeartbeats 4000000 in
theorem s_X9_styleField_16 {x : JX} {ad : Nat → Nat} {U : Mm} {S0 : Hp} {q : Int32 × Mm}  (hn9 : x_n x = 4) (C : CB x RX9 cX9_styleField) (M : CMr x 3 (some .boolean) S0 ad true U eI q) (a1 : Nat) (a2 : Int32) (b0 : Int32) (T : Mm) (ha1 : kS true a1 = 14) (h : f_X9_styleField_16  a1 a2 b0 T = some q) : Jr x ad true U T [(0, .ref (ad 23)), (1, .ref (ad a1)), (2, .int a2)] 16 [.int b0] := by
  unfold f_X9_styleField_16 at h
  refine r_istore_n (lv' := [(3, .int b0), (0, .ref (ad 23)), (1, .ref (ad a1)), (2, .int a2)]) C dX9_styleField_16 rfl (by rw [hn9]; decide) rfl ?_
  refine r_aload_n C dX9_styleField_17 rfl 1 rfl ?_
  refine r_getr (f := 913) (c := 5) C flX9_82 dX9_styleField_18 kq_23 (by decide) rfl h (fun j1 hj2 h => ?_)
  refine r_geti (f := 505) C flX9_327 dX9_styleField_21 hj2 (by decide) (by decide) rfl ?_
  refine r_lbI h (fun v3 h => ?_)
  by_cases hs4 : v3 = 66
  · rw [if_pos hs4] at h
    refine r_top hs4 ?_
    refine r_look (off := 119) (tgt := 143) C dX9_styleField_24 (by decide) (by decide) (by decide) ?_
    refine r_iload_n C dX9_styleField_143 rfl 3 rfl ?_
    refine r_bipush (v := (-128)) C dX9_styleField_144 (by decide) ?_
    refine r_ic_lt (tgt := 168) C dX9_styleField_146 (by decide) h (fun h => ?_) (fun h => ?_)
    · refine r_iconst (v := 0) C dX9_styleField_168 (by decide) ?_
      exact r_zret C M dX9_styleField_169 (by decide) h
    · refine r_iload_n C dX9_styleField_149 rfl 3 rfl ?_
      refine r_bipush (v := 127) C dX9_styleField_150 (by decide) ?_
      refine r_ic_gt (tgt := 168) C dX9_styleField_152 (by decide) h (fun h => ?_) (fun h => ?_)
      · refine r_iconst (v := 0) C dX9_styleField_168 (by decide) ?_
        exact r_zret C M dX9_styleField_169 (by decide) h
      · refine r_aload_n C dX9_styleField_155 rfl 2 rfl ?_
        refine r_iconst (v := 5) C dX9_styleField_156 (by decide) ?_
        refine r_iload_n C dX9_styleField_157 rfl 3 rfl ?_
        refine r_callSI C M h [.ref (ad a1), .int 5, .int a2] [] mlX9_568 mcX9_wish (fun q9 e9 => s_X9_wish a1 5 a2 ha1 e9) (by decide) (by decide) rfl rfl (Nat.le_of_ble_eq_true rfl) dX9_styleField_158 (fun v5 T6 h => ?_)
        refine r_if_eq (tgt := 168) C dX9_styleField_161 (by decide) h (fun h => ?_) (fun h => ?_)
        · refine r_iconst (v := 0) C dX9_styleField_168 (by decide) ?_
          exact r_zret C M dX9_styleField_169 (by decide) h
        · refine r_iconst (v := 1) C dX9_styleField_164 (by decide) ?_
          refine r_goto (tgt := 169) C dX9_styleField_165 (by decide) ?_
          exact r_zret C M dX9_styleField_169 (by decide) h
  rw [if_neg hs4] at h
  by_cases hs7 : v3 = 72
  · rw [if_pos hs7] at h
    refine r_top hs7 ?_
    refine r_look (off := 75) (tgt := 99) C dX9_styleField_24 (by decide) (by decide) (by decide) ?_
    refine r_aload_n C dX9_styleField_99 rfl 1 rfl ?_
    refine r_aload_n C dX9_styleField_100 rfl 2 rfl ?_
    refine r_callVI C M h [.ref (ad a1)] [] mlX9_572 mcX9_wishPitch (fun q9 e9 => s_X9_wishPitch a1 ha1 e9) kq_23 rfl (by decide) (by decide) rfl rfl (Nat.le_of_ble_eq_true rfl) dX9_styleField_101 (fun v8 T9 h => ?_)
    refine r_gd h (fun hz10 h => ?_)
    exact r_zret C M dX9_styleField_104 hz10 h
  rw [if_neg hs7] at h
  by_cases hs11 : v3 = 80
  · rw [if_pos hs11] at h
    refine r_top hs11 ?_
    refine r_look (off := 60) (tgt := 84) C dX9_styleField_24 (by decide) (by decide) (by decide) ?_
    refine r_aload_n C dX9_styleField_84 rfl 2 rfl ?_
    refine r_iconst (v := 1) C dX9_styleField_85 (by decide) ?_
    refine r_iload_n C dX9_styleField_86 rfl 3 rfl ?_
    refine r_if_ne (tgt := 94) C dX9_styleField_87 (by decide) h (fun h => ?_) (fun h => ?_)
    · refine r_iconst (v := 1) C dX9_styleField_94 (by decide) ?_
      refine r_callSI C M h [.ref (ad a1), .int 1, .int 1] [] mlX9_568 mcX9_wish (fun q9 e9 => s_X9_wish a1 1 1 ha1 e9) (by decide) (by decide) rfl rfl (Nat.le_of_ble_eq_true rfl) dX9_styleField_95 (fun v12 T13 h => ?_)
      refine r_gd h (fun hz14 h => ?_)
      exact r_zret C M dX9_styleField_98 hz14 h
    · refine r_iconst (v := 0) C dX9_styleField_90 (by decide) ?_
      refine r_goto (tgt := 95) C dX9_styleField_91 (by decide) ?_
      refine r_callSI C M h [.ref (ad a1), .int 1, .int 0] [] mlX9_568 mcX9_wish (fun q9 e9 => s_X9_wish a1 1 0 ha1 e9) (by decide) (by decide) rfl rfl (Nat.le_of_ble_eq_true rfl) dX9_styleField_95 (fun v15 T16 h => ?_)
      refine r_gd h (fun hz17 h => ?_)
      exact r_zret C M dX9_styleField_98 hz17 h
  rw [if_neg hs11] at h
  by_cases hs18 : v3 = 83
  · rw [if_pos hs18] at h
    refine r_top hs18 ?_
    refine r_look (off := 100) (tgt := 124) C dX9_styleField_24 (by decide) (by decide) (by decide) ?_
    refine r_iload_n C dX9_styleField_124 rfl 0 rfl ?_
    refine r_if_eq (tgt := 141) C dX9_styleField_125 (by decide) h (fun h => ?_) (fun h => ?_)
    · refine r_iconst (v := 0) C dX9_styleField_141 (by decide) ?_
      exact r_zret C M dX9_styleField_142 (by decide) h
    · refine r_aload_n C dX9_styleField_128 rfl 2 rfl ?_
      refine r_iconst (v := 4) C dX9_styleField_129 (by decide) ?_
      refine r_iload_n C dX9_styleField_130 rfl 3 rfl ?_
      refine r_callSI C M h [.ref (ad a1), .int 4, .int a2] [] mlX9_568 mcX9_wish (fun q9 e9 => s_X9_wish a1 4 a2 ha1 e9) (by decide) (by decide) rfl rfl (Nat.le_of_ble_eq_true rfl) dX9_styleField_131 (fun v19 T20 h => ?_)
      refine r_if_eq (tgt := 141) C dX9_styleField_134 (by decide) h (fun h => ?_) (fun h => ?_)
      · refine r_iconst (v := 0) C dX9_styleField_141 (by decide) ?_
        exact r_zret C M dX9_styleField_142 (by decide) h
      · refine r_iconst (v := 1) C dX9_styleField_137 (by decide) ?_
        refine r_goto (tgt := 142) C dX9_styleField_138 (by decide) ?_
        exact r_zret C M dX9_styleField_142 (by decide) h
  rw [if_neg hs18] at h
  by_cases hs21 : v3 = 84
  · rw [if_pos hs21] at h
    refine r_top hs21 ?_
    refine r_look (off := 146) (tgt := 170) C dX9_styleField_24 (by decide) (by decide) (by decide) ?_
    refine r_iload_n C dX9_styleField_170 rfl 0 rfl ?_
    refine r_if_eq (tgt := 188) C dX9_styleField_171 (by decide) h (fun h => ?_) (fun h => ?_)
    · refine r_iconst (v := 0) C dX9_styleField_188 (by decide) ?_
      exact r_zret C M dX9_styleField_189 (by decide) h
    · refine r_aload_n C dX9_styleField_174 rfl 2 rfl ?_
      refine r_bipush (v := 6) C dX9_styleField_175 (by decide) ?_
      refine r_iload_n C dX9_styleField_177 rfl 3 rfl ?_
      refine r_callSI C M h [.ref (ad a1), .int 6, .int a2] [] mlX9_568 mcX9_wish (fun q9 e9 => s_X9_wish a1 6 a2 ha1 e9) (by decide) (by decide) rfl rfl (Nat.le_of_ble_eq_true rfl) dX9_styleField_178 (fun v22 T23 h => ?_)
      refine r_if_eq (tgt := 188) C dX9_styleField_181 (by decide) h (fun h => ?_) (fun h => ?_)
      · refine r_iconst (v := 0) C dX9_styleField_188 (by decide) ?_
        exact r_zret C M dX9_styleField_189 (by decide) h
      · refine r_iconst (v := 1) C dX9_styleField_184 (by decide) ?_
        refine r_goto (tgt := 189) C dX9_styleField_185 (by decide) ?_
        exact r_zret C M dX9_styleField_189 (by decide) h
  rw [if_neg hs21] at h
  by_cases hs24 : v3 = 86
  · rw [if_pos hs24] at h
    refine r_top hs24 ?_
    refine r_look (off := 81) (tgt := 105) C dX9_styleField_24 (by decide) (by decide) (by decide) ?_
    refine r_iload_n C dX9_styleField_105 rfl 0 rfl ?_
    refine r_if_eq (tgt := 122) C dX9_styleField_106 (by decide) h (fun h => ?_) (fun h => ?_)
    · refine r_iconst (v := 0) C dX9_styleField_122 (by decide) ?_
      exact r_zret C M dX9_styleField_123 (by decide) h
    · refine r_aload_n C dX9_styleField_109 rfl 2 rfl ?_
      refine r_iconst (v := 3) C dX9_styleField_110 (by decide) ?_
      refine r_iload_n C dX9_styleField_111 rfl 3 rfl ?_
      refine r_callSI C M h [.ref (ad a1), .int 3, .int a2] [] mlX9_568 mcX9_wish (fun q9 e9 => s_X9_wish a1 3 a2 ha1 e9) (by decide) (by decide) rfl rfl (Nat.le_of_ble_eq_true rfl) dX9_styleField_112 (fun v25 T26 h => ?_)
      refine r_if_eq (tgt := 122) C dX9_styleField_115 (by decide) h (fun h => ?_) (fun h => ?_)
      · refine r_iconst (v := 0) C dX9_styleField_122 (by decide) ?_
        exact r_zret C M dX9_styleField_123 (by decide) h
      · refine r_iconst (v := 1) C dX9_styleField_118 (by decide) ?_
        refine r_goto (tgt := 123) C dX9_styleField_119 (by decide) ?_
        exact r_zret C M dX9_styleField_123 (by decide) h
  rw [if_neg hs24] at h
  refine r_look (tgt := 190) (off := 166) C dX9_styleField_24 (by decide) (by rw [lv_osw hs4 (by decide), lv_osw hs7 (by decide), lv_osw hs11 (by decide), lv_osw hs18 (by decide), lv_osw hs21 (by decide), lv_osw hs24 (by decide)]; rfl) (by decide) ?_
  refine r_iconst (v := 0) C dX9_styleField_190 (by decide) ?_
  exact r_zret C M dX9_styleField_191 (by decide) h
noncomputable def f_X9_styleField (p1 : Nat) (p2 : Int32) (T : Mm) : Option (Int32 × Mm) :=
  if p2 < 0 then (f_X9_styleField_16 p1 p2 0 T)
  else (if 255 < p2 then (f_X9_styleField_16 p1 p2 0 T)
  else (f_X9_styleField_16 p1 p2 1 T))
set_option maxRecDepth 100000 in
set_option maxHeartbeats 4000000 in
theorem s_X9_styleField {ad : Nat → Nat} {U T : Mm} {q : Int32 × Mm}  (p1 : Nat) (p2 : Int32) (hk1 : kS true p1 = 14) (h : f_X9_styleField p1 p2 T = some q) : Cr 3 yX9_styleField cX9_styleField 4 (some .boolean) [.ref (ad 23), .ref (ad p1), .int p2] ad true U T eI q := by
  refine cr_of (by decide) (Nat.le_of_ble_eq_true rfl) fun x S0 hn9 C M => ?_
  have C : CB x RX9 cX9_styleField := C
  refine Jr.eq (lv' := [(0, .ref (ad 23)), (1, .ref (ad p1)), (2, .int p2)]) (st' := []) rfl rfl ?_
  unfold f_X9_styleField at h
  refine r_iload_n C dX9_styleField_0 rfl 2 rfl ?_
  refine r_if_lt (tgt := 15) C dX9_styleField_1 (by decide) h (fun h => ?_) (fun h => ?_)
  · refine r_iconst (v := 0) C dX9_styleField_15 (by decide) ?_
    exact s_X9_styleField_16 hn9 C M  p1 p2 0 T hk1 h
  · refine r_iload_n C dX9_styleField_4 rfl 2 rfl ?_
    refine r_sipush (v := 255) C dX9_styleField_5 (by decide) ?_
    refine r_ic_gt (tgt := 15) C dX9_styleField_8 (by decide) h (fun h => ?_) (fun h => ?_)
    · refine r_iconst (v := 0) C dX9_styleField_15 (by decide) ?_
      exact s_X9_styleField_16 hn9 C M  p1 p2 0 T hk1 h
    · refine r_iconst (v := 1) C dX9_styleField_11 (by decide) ?_
      refine r_goto (tgt := 16) C dX9_styleField_12 (by decide) ?_
      exact s_X9_styleField_16 hn9 C M  p1 p2 1 T hk1 h
theorem dX5_dataTwo_0 : decode cX5_dataTwo 0 = .ok (.aload_n 0, 1) := by decide +kernel
theorem dX5_dataTwo_1 : decode cX5_dataTwo 1 = .ok (.iload_n 1, 1) := by decide +kernel
theorem dX5_dataTwo_2 : decode cX5_dataTwo 2 = .ok (.invokevirtual 67, 3) := by decide +kernel
theorem dX5_dataTwo_5 : decode cX5_dataTwo 5 = .ok (.bipush 8, 2) := by decide +kernel
theorem dX5_dataTwo_7 : decode cX5_dataTwo 7 = .ok (.ishl, 1) := by decide +kernel
theorem dX5_dataTwo_8 : decode cX5_dataTwo 8 = .ok (.aload_n 0, 1) := by decide +kernel
theorem dX5_dataTwo_9 : decode cX5_dataTwo 9 = .ok (.iload_n 1, 1) := by decide +kernel
theorem dX5_dataTwo_10 : decode cX5_dataTwo 10 = .ok (.iconst 1, 1) := by decide +kernel
theorem dX5_dataTwo_11 : decode cX5_dataTwo 11 = .ok (.iadd, 1) := by decide +kernel
theorem dX5_dataTwo_12 : decode cX5_dataTwo 12 = .ok (.invokevirtual 67, 3) := by decide +kernel
theorem dX5_dataTwo_15 : decode cX5_dataTwo 15 = .ok (.ior, 1) := by decide +kernel
theorem dX5_dataTwo_16 : decode cX5_dataTwo 16 = .ok (.ireturn, 1) := by decide +kernel
noncomputable def f_X5_dataTwo (p0 : Nat) (p1 : Int32) (T : Mm) : Option (Int32 × Mm) :=
  bd (f_X5_dataByte p0 p1 T) fun v1 T2 =>
  bd (f_X5_dataByte p0 (p1 + 1) T2) fun v3 T4 =>
  some (((v1 <<< ((8 : Int32) &&& 31)) ||| v3), T4)
set_option maxRecDepth 100000 in
set_option maxHeartbeats 4000000 in
theorem s_X5_dataTwo {ad : Nat → Nat} {U T : Mm} {q : Int32 × Mm}  (p0 : Nat) (p1 : Int32) (hk0 : kS true p0 = 5) (h : f_X5_dataTwo p0 p1 T = some q) : Cr 2 yX5_dataTwo cX5_dataTwo 2 (some .int) [.ref (ad p0), .int p1] ad true U T eI q := by
  refine cr_of (by decide) (Nat.le_of_ble_eq_true rfl) fun x S0 hn9 C M => ?_
  have C : CB x RX5 cX5_dataTwo := C
  refine Jr.eq (lv' := [(0, .ref (ad p0)), (1, .int p1)]) (st' := []) rfl rfl ?_
  unfold f_X5_dataTwo at h
  refine r_aload_n C dX5_dataTwo_0 rfl 0 rfl ?_
  refine r_iload_n C dX5_dataTwo_1 rfl 1 rfl ?_
  refine r_callVI C M h [.int p1] [] mlX5_67 mcX5_dataByte (fun q9 e9 => s_X5_dataByte p0 p1 hk0 e9) hk0 rfl (by decide) (by decide) rfl rfl (Nat.le_of_ble_eq_true rfl) dX5_dataTwo_2 (fun v1 T2 h => ?_)
  refine r_bipush (v := 8) C dX5_dataTwo_5 (by decide) ?_
  refine r_ishl C dX5_dataTwo_7 rfl ?_
  show Jr _ _ _ _ _ _ 8 _
  refine r_aload_n C dX5_dataTwo_8 rfl 0 rfl ?_
  refine r_iload_n C dX5_dataTwo_9 rfl 1 rfl ?_
  refine r_iconst (v := 1) C dX5_dataTwo_10 (by decide) ?_
  refine r_iadd C dX5_dataTwo_11 rfl ?_
  refine r_callVI C M h [.int (p1 + 1)] [.int (v1 <<< ((8 : Int32) &&& 31))] mlX5_67 mcX5_dataByte (fun q9 e9 => s_X5_dataByte p0 (p1 + 1) hk0 e9) hk0 rfl (by decide) (by decide) rfl rfl (Nat.le_of_ble_eq_true rfl) dX5_dataTwo_12 (fun v3 T4 h => ?_)
  refine r_ior C dX5_dataTwo_15 rfl ?_
  show Jr _ _ _ _ _ _ 16 _
  exact r_iret C M dX5_dataTwo_16 h
theorem dX2_slotFor_0 : decode cX2_slotFor 0 = .ok (.iload_n 1, 1) := by decide +kernel
theorem dX2_slotFor_1 : decode cX2_slotFor 1 = .ok (.sipush 256, 3) := by decide +kernel
theorem dX2_slotFor_4 : decode cX2_slotFor 4 = .ok (.imul, 1) := by decide +kernel
theorem dX2_slotFor_5 : decode cX2_slotFor 5 = .ok (.iload_n 2, 1) := by decide +kernel
theorem dX2_slotFor_6 : decode cX2_slotFor 6 = .ok (.iadd, 1) := by decide +kernel
theorem dX2_slotFor_7 : decode cX2_slotFor 7 = .ok (.istore_n 3, 1) := by decide +kernel
theorem dX2_slotFor_8 : decode cX2_slotFor 8 = .ok (.iload_n 3, 1) := by decide +kernel
theorem dX2_slotFor_9 : decode cX2_slotFor 9 = .ok (.ifCond .lt 12, 3) := by decide +kernel
theorem dX2_slotFor_12 : decode cX2_slotFor 12 = .ok (.iload_n 3, 1) := by decide +kernel
theorem dX2_slotFor_13 : decode cX2_slotFor 13 = .ok (.aload_n 0, 1) := by decide +kernel
theorem dX2_slotFor_14 : decode cX2_slotFor 14 = .ok (.getfield 22, 3) := by decide +kernel
theorem dX2_slotFor_17 : decode cX2_slotFor 17 = .ok (.arraylength, 1) := by decide +kernel
theorem dX2_slotFor_18 : decode cX2_slotFor 18 = .ok (.if_icmp .lt 5, 3) := by decide +kernel
theorem dX2_slotFor_21 : decode cX2_slotFor 21 = .ok (.iconst (-1), 1) := by decide +kernel
theorem dX2_slotFor_22 : decode cX2_slotFor 22 = .ok (.ireturn, 1) := by decide +kernel
theorem dX2_slotFor_23 : decode cX2_slotFor 23 = .ok (.aload_n 0, 1) := by decide +kernel
theorem dX2_slotFor_24 : decode cX2_slotFor 24 = .ok (.getfield 22, 3) := by decide +kernel
theorem dX2_slotFor_27 : decode cX2_slotFor 27 = .ok (.iload_n 3, 1) := by decide +kernel
theorem dX2_slotFor_28 : decode cX2_slotFor 28 = .ok (.iaload, 1) := by decide +kernel
theorem dX2_slotFor_29 : decode cX2_slotFor 29 = .ok (.ifCond .le 12, 3) := by decide +kernel
theorem dX2_slotFor_32 : decode cX2_slotFor 32 = .ok (.aload_n 0, 1) := by decide +kernel
theorem dX2_slotFor_33 : decode cX2_slotFor 33 = .ok (.getfield 22, 3) := by decide +kernel
theorem dX2_slotFor_36 : decode cX2_slotFor 36 = .ok (.iload_n 3, 1) := by decide +kernel
theorem dX2_slotFor_37 : decode cX2_slotFor 37 = .ok (.iaload, 1) := by decide +kernel
theorem dX2_slotFor_38 : decode cX2_slotFor 38 = .ok (.iconst 1, 1) := by decide +kernel
theorem dX2_slotFor_39 : decode cX2_slotFor 39 = .ok (.isub, 1) := by decide +kernel
theorem dX2_slotFor_40 : decode cX2_slotFor 40 = .ok (.ireturn, 1) := by decide +kernel
theorem dX2_slotFor_41 : decode cX2_slotFor 41 = .ok (.iconst 0, 1) := by decide +kernel
theorem dX2_slotFor_42 : decode cX2_slotFor 42 = .ok (.istore 4, 2) := by decide +kernel
theorem dX2_slotFor_44 : decode cX2_slotFor 44 = .ok (.iload 4, 2) := by decide +kernel
theorem dX2_slotFor_46 : decode cX2_slotFor 46 = .ok (.sipush 400, 3) := by decide +kernel
theorem dX2_slotFor_49 : decode cX2_slotFor 49 = .ok (.if_icmp .ge 50, 3) := by decide +kernel
theorem dX2_slotFor_52 : decode cX2_slotFor 52 = .ok (.aload_n 0, 1) := by decide +kernel
theorem dX2_slotFor_53 : decode cX2_slotFor 53 = .ok (.getfield 25, 3) := by decide +kernel
theorem dX2_slotFor_56 : decode cX2_slotFor 56 = .ok (.iload 4, 2) := by decide +kernel
theorem dX2_slotFor_58 : decode cX2_slotFor 58 = .ok (.baload, 1) := by decide +kernel
theorem dX2_slotFor_59 : decode cX2_slotFor 59 = .ok (.ifCond .ne 34, 3) := by decide +kernel
theorem dX2_slotFor_62 : decode cX2_slotFor 62 = .ok (.aload_n 0, 1) := by decide +kernel
theorem dX2_slotFor_63 : decode cX2_slotFor 63 = .ok (.getfield 25, 3) := by decide +kernel
theorem dX2_slotFor_66 : decode cX2_slotFor 66 = .ok (.iload 4, 2) := by decide +kernel
theorem dX2_slotFor_68 : decode cX2_slotFor 68 = .ok (.iconst 1, 1) := by decide +kernel
theorem dX2_slotFor_69 : decode cX2_slotFor 69 = .ok (.bastore, 1) := by decide +kernel
theorem dX2_slotFor_70 : decode cX2_slotFor 70 = .ok (.aload_n 0, 1) := by decide +kernel
theorem dX2_slotFor_71 : decode cX2_slotFor 71 = .ok (.dup, 1) := by decide +kernel
theorem dX2_slotFor_72 : decode cX2_slotFor 72 = .ok (.getfield 91, 3) := by decide +kernel
theorem dX2_slotFor_75 : decode cX2_slotFor 75 = .ok (.iconst 1, 1) := by decide +kernel
theorem dX2_slotFor_76 : decode cX2_slotFor 76 = .ok (.iadd, 1) := by decide +kernel
theorem dX2_slotFor_77 : decode cX2_slotFor 77 = .ok (.putfield 91, 3) := by decide +kernel
theorem dX2_slotFor_80 : decode cX2_slotFor 80 = .ok (.aload_n 0, 1) := by decide +kernel
theorem dX2_slotFor_81 : decode cX2_slotFor 81 = .ok (.getfield 22, 3) := by decide +kernel
theorem dX2_slotFor_84 : decode cX2_slotFor 84 = .ok (.iload_n 3, 1) := by decide +kernel
theorem dX2_slotFor_85 : decode cX2_slotFor 85 = .ok (.iload 4, 2) := by decide +kernel
theorem dX2_slotFor_87 : decode cX2_slotFor 87 = .ok (.iconst 1, 1) := by decide +kernel
theorem dX2_slotFor_88 : decode cX2_slotFor 88 = .ok (.iadd, 1) := by decide +kernel
theorem dX2_slotFor_89 : decode cX2_slotFor 89 = .ok (.iastore, 1) := by decide +kernel
theorem dX2_slotFor_90 : decode cX2_slotFor 90 = .ok (.iload 4, 2) := by decide +kernel
theorem dX2_slotFor_92 : decode cX2_slotFor 92 = .ok (.ireturn, 1) := by decide +kernel
theorem dX2_slotFor_93 : decode cX2_slotFor 93 = .ok (.iinc 4 1, 3) := by decide +kernel
theorem dX2_slotFor_96 : decode cX2_slotFor 96 = .ok (.goto (-52), 3) := by decide +kernel
theorem dX2_slotFor_99 : decode cX2_slotFor 99 = .ok (.iconst (-1), 1) := by decide +kernel
theorem dX2_slotFor_100 : decode cX2_slotFor 100 = .ok (.ireturn, 1) := by decide +kernel
noncomputable def f_X2_slotFor_b44 (k44 : Int32 → Int32 → Mm → Option (Int32 × Mm)) (a3 : Int32) (a4 : Int32) (T : Mm) : Option (Int32 × Mm) :=
  if 400 ≤ a4 then (some ((-1), T))
  else (ix a4 400 fun j1 =>
  if (gA T 32 j1) = 0 then (ix a4 400 fun j3 => lb (uA T 32 j3 (1)) fun T5 =>
  lb (uI T5 206 27 ((gI T5 206 27) + 1)) fun T6 =>
  ix a3 4352 fun j7 => lb (uA T6 31 j7 ((a4 + 1))) fun T9 =>
  some (a4, T9))
  else (k44 a3 (a4 + 1) T))
set_option maxRecDepth 100000 in
set_option maxHeartbeats 4000000 in
theorem s_X2_slotFor_b44 {x : JX} {ad : Nat → Nat} {U : Mm} {S0 : Hp} {q : Int32 × Mm}  {k44 : Int32 → Int32 → Mm → Option (Int32 × Mm)} (hn9 : x_n x = 5) (C : CB x RX2 cX2_slotFor) (M : CMr x 1 (some .int) S0 ad true U eI q) (hk44 : ∀ (a3 : Int32) (a4 : Int32) (T : Mm), k44 a3 a4 T = some q → Jr x ad true U T [(0, .ref (ad 27)), (3, .int a3), (4, .int a4)] 44 []) (a3 : Int32) (a4 : Int32) (T : Mm) (h : f_X2_slotFor_b44 k44 a3 a4 T = some q) : Jr x ad true U T [(0, .ref (ad 27)), (3, .int a3), (4, .int a4)] 44 [] := by
  unfold f_X2_slotFor_b44 at h
  refine r_iload C dX2_slotFor_44 2 rfl ?_
  refine r_sipush (v := 400) C dX2_slotFor_46 (by decide) ?_
  refine r_ic_ge (tgt := 99) C dX2_slotFor_49 (by decide) h (fun h => ?_) (fun h => ?_)
  · refine r_iconst (v := (-1)) C dX2_slotFor_99 (by decide) ?_
    exact r_iret C M dX2_slotFor_100 h
  · refine r_aload_n C dX2_slotFor_52 rfl 0 rfl ?_
    refine r_getp (f := 203) (j := 32) C flX2_25 dX2_slotFor_53 kq_27 (by decide) rfl (fun W => pt_203 kq_27 W) ?_
    refine r_iload C dX2_slotFor_56 2 rfl ?_
    refine r_zald (n := 400) C dX2_slotFor_58 kq_32 lq_32 h (fun j1 hj2 h => ?_)
    refine r_if_ne (tgt := 93) C dX2_slotFor_59 (by decide) h (fun h => ?_) (fun h => ?_)
    · refine r_iinc (q := 2) (v := (a4 + 1)) (lv' := [(4, .int (a4 + 1)), (0, .ref (ad 27)), (3, .int a3)]) C dX2_slotFor_93 rfl (by rw [show Int32.ofInt (1) = 1 by decide]) (by rw [hn9]; decide) rfl ?_
      refine r_goto (tgt := 44) C dX2_slotFor_96 (by decide) ?_
      refine Jr.sub [1, 2, 0] (lv' := [(0, .ref (ad 27)), (3, .int a3), (4, .int (a4 + 1))]) rfl ?_
      exact hk44 a3 (a4 + 1) T h
    · refine r_aload_n C dX2_slotFor_62 rfl 0 rfl ?_
      refine r_getp (f := 203) (j := 32) C flX2_25 dX2_slotFor_63 kq_27 (by decide) rfl (fun W => pt_203 kq_27 W) ?_
      refine r_iload C dX2_slotFor_66 2 rfl ?_
      refine r_iconst (v := 1) C dX2_slotFor_68 (by decide) ?_
      refine r_zast (n := 400) C dX2_slotFor_69 kq_32 lq_32 (by decide) h (fun j3 T5 hj4 h => ?_)
      show Jr _ _ _ _ _ _ 70 _
      refine r_aload_n C dX2_slotFor_70 rfl 0 rfl ?_
      refine r_dup C dX2_slotFor_71 rfl ?_
      refine r_geti (f := 206) C flX2_91 dX2_slotFor_72 kq_27 (by decide) (by decide) rfl ?_
      refine r_iconst (v := 1) C dX2_slotFor_75 (by decide) ?_
      refine r_iadd C dX2_slotFor_76 rfl ?_
      refine r_puti (f := 206) C flX2_91 (by decide) rfl rfl dX2_slotFor_77 kq_27 rfl h (fun T6 h => ?_)
      show Jr _ _ _ _ _ _ 80 _
      refine r_aload_n C dX2_slotFor_80 rfl 0 rfl ?_
      refine r_getp (f := 202) (j := 31) C flX2_22 dX2_slotFor_81 kq_27 (by decide) rfl (fun W => pt_202 kq_27 W) ?_
      refine r_iload_n C dX2_slotFor_84 rfl 1 rfl ?_
      refine r_iload C dX2_slotFor_85 2 rfl ?_
      refine r_iconst (v := 1) C dX2_slotFor_87 (by decide) ?_
      refine r_iadd C dX2_slotFor_88 rfl ?_
      show Jr _ _ _ _ _ _ 89 _
      refine r_iast (n := 4352) C dX2_slotFor_89 kq_31 lq_31 h (fun j7 T9 hj8 h => ?_)
      refine r_iload C dX2_slotFor_90 2 rfl ?_
      exact r_iret C M dX2_slotFor_92 h
noncomputable def f_X2_slotFor_l44 (n : Nat) : Int32 → Int32 → Mm → Option (Int32 × Mm) := Nat.rec (fun _ _ _ => none) (fun _ ih => f_X2_slotFor_b44 ih) n
theorem s_X2_slotFor_l44 {x : JX} {ad : Nat → Nat} {U : Mm} {S0 : Hp} {q : Int32 × Mm}  (hn9 : x_n x = 5) (C : CB x RX2 cX2_slotFor) (M : CMr x 1 (some .int) S0 ad true U eI q) : ∀ (n : Nat), ∀ (a3 : Int32) (a4 : Int32) (T : Mm), f_X2_slotFor_l44  n a3 a4 T = some q → Jr x ad true U T [(0, .ref (ad 27)), (3, .int a3), (4, .int a4)] 44 [] := by
  intro n
  induction n with
  | zero => intro a3 a4 T  h; exact absurd h (by intro h; cases h)
  | succ n ih => exact fun a3 a4 T  h => s_X2_slotFor_b44 hn9 C M (ih) a3 a4 T  h
noncomputable def f_X2_slotFor (p1 : Int32) (p2 : Int32) (T : Mm) : Option (Int32 × Mm) :=
  lb (((p1 * 256) + p2)) fun v1 =>
  if v1 < 0 then (some ((-1), T))
  else (if v1 < 4352 then (ix v1 4352 fun j2 =>
  if (gA T 31 j2) ≤ 0 then (f_X2_slotFor_l44 FU v1 0 T)
  else (ix v1 4352 fun j4 =>
  some (((gA T 31 j4) - 1), T)))
  else (some ((-1), T)))
set_option maxRecDepth 100000 in
set_option maxHeartbeats 4000000 in
theorem s_X2_slotFor {ad : Nat → Nat} {U T : Mm} {q : Int32 × Mm}  (p1 : Int32) (p2 : Int32) (h : f_X2_slotFor p1 p2 T = some q) : Cr 1 yX2_slotFor cX2_slotFor 5 (some .int) [.ref (ad 27), .int p1, .int p2] ad true U T eI q := by
  refine cr_of (by decide) (Nat.le_of_ble_eq_true rfl) fun x S0 hn9 C M => ?_
  have C : CB x RX2 cX2_slotFor := C
  refine Jr.eq (lv' := [(0, .ref (ad 27)), (1, .int p1), (2, .int p2)]) (st' := []) rfl rfl ?_
  unfold f_X2_slotFor at h
  refine r_iload_n C dX2_slotFor_0 rfl 1 rfl ?_
  refine r_sipush (v := 256) C dX2_slotFor_1 (by decide) ?_
  refine r_imul C dX2_slotFor_4 rfl ?_
  refine r_iload_n C dX2_slotFor_5 rfl 2 rfl ?_
  refine r_iadd C dX2_slotFor_6 rfl ?_
  show Jr _ _ _ _ _ _ 7 _
  refine r_lbI h (fun v1 h => ?_)
  refine r_istore_n (lv' := [(3, .int v1), (0, .ref (ad 27)), (1, .int p1), (2, .int p2)]) C dX2_slotFor_7 rfl (by rw [hn9]; decide) rfl ?_
  refine r_iload_n C dX2_slotFor_8 rfl 0 rfl ?_
  refine r_if_lt (tgt := 21) C dX2_slotFor_9 (by decide) h (fun h => ?_) (fun h => ?_)
  · refine r_iconst (v := (-1)) C dX2_slotFor_21 (by decide) ?_
    exact r_iret C M dX2_slotFor_22 h
  · refine r_iload_n C dX2_slotFor_12 rfl 0 rfl ?_
    refine r_aload_n C dX2_slotFor_13 rfl 1 rfl ?_
    refine r_getp (f := 202) (j := 31) C flX2_22 dX2_slotFor_14 kq_27 (by decide) rfl (fun W => pt_202 kq_27 W) ?_
    refine r_alen (n := 0) (v := 4352) C dX2_slotFor_17 kq_31 (by decide) (by decide) (congrArg Int32.ofNat lq_31) ?_
    refine r_ic_lt (tgt := 23) C dX2_slotFor_18 (by decide) h (fun h => ?_) (fun h => ?_)
    · refine r_aload_n C dX2_slotFor_23 rfl 1 rfl ?_
      refine r_getp (f := 202) (j := 31) C flX2_22 dX2_slotFor_24 kq_27 (by decide) rfl (fun W => pt_202 kq_27 W) ?_
      refine r_iload_n C dX2_slotFor_27 rfl 0 rfl ?_
      refine r_iald (n := 4352) C dX2_slotFor_28 kq_31 lq_31 h (fun j2 hj3 h => ?_)
      refine r_if_le (tgt := 41) C dX2_slotFor_29 (by decide) h (fun h => ?_) (fun h => ?_)
      · refine r_iconst (v := 0) C dX2_slotFor_41 (by decide) ?_
        refine r_istore (lv' := [(4, .int 0), (3, .int v1), (0, .ref (ad 27)), (1, .int p1), (2, .int p2)]) C dX2_slotFor_42 (by rw [hn9]; decide) rfl ?_
        refine Jr.sub [2, 1, 0] (lv' := [(0, .ref (ad 27)), (3, .int v1), (4, .int 0)]) rfl ?_
        exact s_X2_slotFor_l44 hn9 C M  FU v1 0 T h
      · refine r_aload_n C dX2_slotFor_32 rfl 1 rfl ?_
        refine r_getp (f := 202) (j := 31) C flX2_22 dX2_slotFor_33 kq_27 (by decide) rfl (fun W => pt_202 kq_27 W) ?_
        refine r_iload_n C dX2_slotFor_36 rfl 0 rfl ?_
        refine r_iald (n := 4352) C dX2_slotFor_37 kq_31 lq_31 h (fun j4 hj5 h => ?_)
        refine r_iconst (v := 1) C dX2_slotFor_38 (by decide) ?_
        show Jr _ _ _ _ _ _ 39 _
        refine r_isub C dX2_slotFor_39 rfl ?_
        exact r_iret C M dX2_slotFor_40 h
    · refine r_iconst (v := (-1)) C dX2_slotFor_21 (by decide) ?_
      exact r_iret C M dX2_slotFor_22 h
theorem dX2_sendGlyph_0 : decode cX2_sendGlyph 0 = .ok (.aload_n 3, 1) := by decide +kernel
theorem dX2_sendGlyph_1 : decode cX2_sendGlyph 1 = .ok (.iconst 2, 1) := by decide +kernel
theorem dX2_sendGlyph_2 : decode cX2_sendGlyph 2 = .ok (.invokevirtual 80, 3) := by decide +kernel
theorem dX2_sendGlyph_5 : decode cX2_sendGlyph 5 = .ok (.istore 4, 2) := by decide +kernel
theorem dX2_sendGlyph_7 : decode cX2_sendGlyph 7 = .ok (.aload_n 3, 1) := by decide +kernel
theorem dX2_sendGlyph_8 : decode cX2_sendGlyph 8 = .ok (.iconst 3, 1) := by decide +kernel
theorem dX2_sendGlyph_9 : decode cX2_sendGlyph 9 = .ok (.invokevirtual 80, 3) := by decide +kernel
theorem dX2_sendGlyph_12 : decode cX2_sendGlyph 12 = .ok (.istore 5, 2) := by decide +kernel
theorem dX2_sendGlyph_14 : decode cX2_sendGlyph 14 = .ok (.aload_n 3, 1) := by decide +kernel
theorem dX2_sendGlyph_15 : decode cX2_sendGlyph 15 = .ok (.iconst 4, 1) := by decide +kernel
theorem dX2_sendGlyph_16 : decode cX2_sendGlyph 16 = .ok (.invokevirtual 63, 3) := by decide +kernel
theorem dX2_sendGlyph_19 : decode cX2_sendGlyph 19 = .ok (.istore 6, 2) := by decide +kernel
theorem dX2_sendGlyph_21 : decode cX2_sendGlyph 21 = .ok (.iload 4, 2) := by decide +kernel
theorem dX2_sendGlyph_23 : decode cX2_sendGlyph 23 = .ok (.bipush 7, 2) := by decide +kernel
theorem dX2_sendGlyph_25 : decode cX2_sendGlyph 25 = .ok (.iadd, 1) := by decide +kernel
theorem dX2_sendGlyph_26 : decode cX2_sendGlyph 26 = .ok (.bipush 8, 2) := by decide +kernel
theorem dX2_sendGlyph_28 : decode cX2_sendGlyph 28 = .ok (.idiv, 1) := by decide +kernel
theorem dX2_sendGlyph_29 : decode cX2_sendGlyph 29 = .ok (.istore 7, 2) := by decide +kernel
theorem dX2_sendGlyph_31 : decode cX2_sendGlyph 31 = .ok (.iload 4, 2) := by decide +kernel
theorem dX2_sendGlyph_33 : decode cX2_sendGlyph 33 = .ok (.iconst 1, 1) := by decide +kernel
theorem dX2_sendGlyph_34 : decode cX2_sendGlyph 34 = .ok (.if_icmp .lt 57, 3) := by decide +kernel
theorem dX2_sendGlyph_37 : decode cX2_sendGlyph 37 = .ok (.iload 4, 2) := by decide +kernel
theorem dX2_sendGlyph_39 : decode cX2_sendGlyph 39 = .ok (.bipush 32, 2) := by decide +kernel
theorem dX2_sendGlyph_41 : decode cX2_sendGlyph 41 = .ok (.if_icmp .gt 50, 3) := by decide +kernel
theorem dX2_sendGlyph_44 : decode cX2_sendGlyph 44 = .ok (.iload 5, 2) := by decide +kernel
theorem dX2_sendGlyph_46 : decode cX2_sendGlyph 46 = .ok (.iconst 1, 1) := by decide +kernel
theorem dX2_sendGlyph_47 : decode cX2_sendGlyph 47 = .ok (.if_icmp .lt 44, 3) := by decide +kernel
theorem dX2_sendGlyph_50 : decode cX2_sendGlyph 50 = .ok (.iload 5, 2) := by decide +kernel
theorem dX2_sendGlyph_52 : decode cX2_sendGlyph 52 = .ok (.bipush 32, 2) := by decide +kernel
theorem dX2_sendGlyph_54 : decode cX2_sendGlyph 54 = .ok (.if_icmp .gt 37, 3) := by decide +kernel
theorem dX2_sendGlyph_57 : decode cX2_sendGlyph 57 = .ok (.iload 6, 2) := by decide +kernel
theorem dX2_sendGlyph_59 : decode cX2_sendGlyph 59 = .ok (.sipush 7200, 3) := by decide +kernel
theorem dX2_sendGlyph_62 : decode cX2_sendGlyph 62 = .ok (.if_icmp .gt 29, 3) := by decide +kernel
theorem dX2_sendGlyph_65 : decode cX2_sendGlyph 65 = .ok (.aload_n 3, 1) := by decide +kernel
theorem dX2_sendGlyph_66 : decode cX2_sendGlyph 66 = .ok (.getfield 69, 3) := by decide +kernel
theorem dX2_sendGlyph_69 : decode cX2_sendGlyph 69 = .ok (.bipush 6, 2) := by decide +kernel
theorem dX2_sendGlyph_71 : decode cX2_sendGlyph 71 = .ok (.iload 5, 2) := by decide +kernel
theorem dX2_sendGlyph_73 : decode cX2_sendGlyph 73 = .ok (.iload 7, 2) := by decide +kernel
theorem dX2_sendGlyph_75 : decode cX2_sendGlyph 75 = .ok (.imul, 1) := by decide +kernel
theorem dX2_sendGlyph_76 : decode cX2_sendGlyph 76 = .ok (.iadd, 1) := by decide +kernel
theorem dX2_sendGlyph_77 : decode cX2_sendGlyph 77 = .ok (.if_icmp .lt 14, 3) := by decide +kernel
theorem dX2_sendGlyph_80 : decode cX2_sendGlyph 80 = .ok (.aload_n 0, 1) := by decide +kernel
theorem dX2_sendGlyph_81 : decode cX2_sendGlyph 81 = .ok (.getfield 14, 3) := by decide +kernel
theorem dX2_sendGlyph_84 : decode cX2_sendGlyph 84 = .ok (.iload_n 1, 1) := by decide +kernel
theorem dX2_sendGlyph_85 : decode cX2_sendGlyph 85 = .ok (.invokevirtual 58, 3) := by decide +kernel
theorem dX2_sendGlyph_88 : decode cX2_sendGlyph 88 = .ok (.ifCond .ne 4, 3) := by decide +kernel
theorem dX2_sendGlyph_91 : decode cX2_sendGlyph 91 = .ok (.return_, 1) := by decide +kernel
theorem dX2_sendGlyph_92 : decode cX2_sendGlyph 92 = .ok (.aload_n 0, 1) := by decide +kernel
theorem dX2_sendGlyph_93 : decode cX2_sendGlyph 93 = .ok (.iload_n 1, 1) := by decide +kernel
theorem dX2_sendGlyph_94 : decode cX2_sendGlyph 94 = .ok (.iload_n 2, 1) := by decide +kernel
theorem dX2_sendGlyph_95 : decode cX2_sendGlyph 95 = .ok (.invokevirtual 87, 3) := by decide +kernel
theorem dX2_sendGlyph_98 : decode cX2_sendGlyph 98 = .ok (.istore 8, 2) := by decide +kernel
theorem dX2_sendGlyph_100 : decode cX2_sendGlyph 100 = .ok (.iload 8, 2) := by decide +kernel
theorem dX2_sendGlyph_102 : decode cX2_sendGlyph 102 = .ok (.ifCond .ge 4, 3) := by decide +kernel
theorem dX2_sendGlyph_105 : decode cX2_sendGlyph 105 = .ok (.return_, 1) := by decide +kernel
theorem dX2_sendGlyph_106 : decode cX2_sendGlyph 106 = .ok (.aload_n 0, 1) := by decide +kernel
theorem dX2_sendGlyph_107 : decode cX2_sendGlyph 107 = .ok (.iload 8, 2) := by decide +kernel
theorem dX2_sendGlyph_109 : decode cX2_sendGlyph 109 = .ok (.aload_n 3, 1) := by decide +kernel
theorem dX2_sendGlyph_110 : decode cX2_sendGlyph 110 = .ok (.iconst 0, 1) := by decide +kernel
theorem dX2_sendGlyph_111 : decode cX2_sendGlyph 111 = .ok (.invokevirtual 80, 3) := by decide +kernel
theorem dX2_sendGlyph_114 : decode cX2_sendGlyph 114 = .ok (.i2b, 1) := by decide +kernel
theorem dX2_sendGlyph_115 : decode cX2_sendGlyph 115 = .ok (.aload_n 3, 1) := by decide +kernel
theorem dX2_sendGlyph_116 : decode cX2_sendGlyph 116 = .ok (.iconst 1, 1) := by decide +kernel
theorem dX2_sendGlyph_117 : decode cX2_sendGlyph 117 = .ok (.invokevirtual 80, 3) := by decide +kernel
theorem dX2_sendGlyph_120 : decode cX2_sendGlyph 120 = .ok (.i2b, 1) := by decide +kernel
theorem dX2_sendGlyph_121 : decode cX2_sendGlyph 121 = .ok (.iload 4, 2) := by decide +kernel
theorem dX2_sendGlyph_123 : decode cX2_sendGlyph 123 = .ok (.iload 5, 2) := by decide +kernel
theorem dX2_sendGlyph_125 : decode cX2_sendGlyph 125 = .ok (.iload 6, 2) := by decide +kernel
theorem dX2_sendGlyph_127 : decode cX2_sendGlyph 127 = .ok (.invokevirtual 48, 3) := by decide +kernel
theorem dX2_sendGlyph_130 : decode cX2_sendGlyph 130 = .ok (.iconst 0, 1) := by decide +kernel
theorem dX2_sendGlyph_131 : decode cX2_sendGlyph 131 = .ok (.istore 9, 2) := by decide +kernel
theorem dX2_sendGlyph_133 : decode cX2_sendGlyph 133 = .ok (.iload 9, 2) := by decide +kernel
theorem dX2_sendGlyph_135 : decode cX2_sendGlyph 135 = .ok (.iload 5, 2) := by decide +kernel
theorem dX2_sendGlyph_137 : decode cX2_sendGlyph 137 = .ok (.if_icmp .ge 94, 3) := by decide +kernel
theorem dX2_sendGlyph_140 : decode cX2_sendGlyph 140 = .ok (.iconst 0, 1) := by decide +kernel
theorem dX2_sendGlyph_141 : decode cX2_sendGlyph 141 = .ok (.istore 10, 2) := by decide +kernel
theorem dX2_sendGlyph_143 : decode cX2_sendGlyph 143 = .ok (.iconst 0, 1) := by decide +kernel
theorem dX2_sendGlyph_144 : decode cX2_sendGlyph 144 = .ok (.istore 11, 2) := by decide +kernel
theorem dX2_sendGlyph_146 : decode cX2_sendGlyph 146 = .ok (.iload 11, 2) := by decide +kernel
theorem dX2_sendGlyph_148 : decode cX2_sendGlyph 148 = .ok (.iload 7, 2) := by decide +kernel
theorem dX2_sendGlyph_150 : decode cX2_sendGlyph 150 = .ok (.if_icmp .ge 38, 3) := by decide +kernel
theorem dX2_sendGlyph_153 : decode cX2_sendGlyph 153 = .ok (.iload 10, 2) := by decide +kernel
theorem dX2_sendGlyph_155 : decode cX2_sendGlyph 155 = .ok (.aload_n 3, 1) := by decide +kernel
theorem dX2_sendGlyph_156 : decode cX2_sendGlyph 156 = .ok (.bipush 6, 2) := by decide +kernel
theorem dX2_sendGlyph_158 : decode cX2_sendGlyph 158 = .ok (.iload 9, 2) := by decide +kernel
theorem dX2_sendGlyph_160 : decode cX2_sendGlyph 160 = .ok (.iload 7, 2) := by decide +kernel
theorem dX2_sendGlyph_162 : decode cX2_sendGlyph 162 = .ok (.imul, 1) := by decide +kernel
theorem dX2_sendGlyph_163 : decode cX2_sendGlyph 163 = .ok (.iadd, 1) := by decide +kernel
theorem dX2_sendGlyph_164 : decode cX2_sendGlyph 164 = .ok (.iload 11, 2) := by decide +kernel
theorem dX2_sendGlyph_166 : decode cX2_sendGlyph 166 = .ok (.iadd, 1) := by decide +kernel
theorem dX2_sendGlyph_167 : decode cX2_sendGlyph 167 = .ok (.invokevirtual 80, 3) := by decide +kernel
theorem dX2_sendGlyph_170 : decode cX2_sendGlyph 170 = .ok (.bipush 24, 2) := by decide +kernel
theorem dX2_sendGlyph_172 : decode cX2_sendGlyph 172 = .ok (.bipush 8, 2) := by decide +kernel
theorem dX2_sendGlyph_174 : decode cX2_sendGlyph 174 = .ok (.iload 11, 2) := by decide +kernel
theorem dX2_sendGlyph_176 : decode cX2_sendGlyph 176 = .ok (.imul, 1) := by decide +kernel
theorem dX2_sendGlyph_177 : decode cX2_sendGlyph 177 = .ok (.isub, 1) := by decide +kernel
theorem dX2_sendGlyph_178 : decode cX2_sendGlyph 178 = .ok (.ishl, 1) := by decide +kernel
theorem dX2_sendGlyph_179 : decode cX2_sendGlyph 179 = .ok (.ior, 1) := by decide +kernel
theorem dX2_sendGlyph_180 : decode cX2_sendGlyph 180 = .ok (.istore 10, 2) := by decide +kernel
theorem dX2_sendGlyph_182 : decode cX2_sendGlyph 182 = .ok (.iinc 11 1, 3) := by decide +kernel
theorem dX2_sendGlyph_185 : decode cX2_sendGlyph 185 = .ok (.goto (-39), 3) := by decide +kernel
theorem dX2_sendGlyph_188 : decode cX2_sendGlyph 188 = .ok (.iload 8, 2) := by decide +kernel
theorem dX2_sendGlyph_190 : decode cX2_sendGlyph 190 = .ok (.bipush 32, 2) := by decide +kernel
theorem dX2_sendGlyph_192 : decode cX2_sendGlyph 192 = .ok (.imul, 1) := by decide +kernel
theorem dX2_sendGlyph_193 : decode cX2_sendGlyph 193 = .ok (.iload 9, 2) := by decide +kernel
theorem dX2_sendGlyph_195 : decode cX2_sendGlyph 195 = .ok (.iadd, 1) := by decide +kernel
theorem dX2_sendGlyph_196 : decode cX2_sendGlyph 196 = .ok (.istore 11, 2) := by decide +kernel
theorem dX2_sendGlyph_198 : decode cX2_sendGlyph 198 = .ok (.iload 11, 2) := by decide +kernel
theorem dX2_sendGlyph_200 : decode cX2_sendGlyph 200 = .ok (.aload_n 0, 1) := by decide +kernel
theorem dX2_sendGlyph_201 : decode cX2_sendGlyph 201 = .ok (.getfield 32, 3) := by decide +kernel
theorem dX2_sendGlyph_204 : decode cX2_sendGlyph 204 = .ok (.arraylength, 1) := by decide +kernel
theorem dX2_sendGlyph_205 : decode cX2_sendGlyph 205 = .ok (.if_icmp .ge 20, 3) := by decide +kernel
theorem dX2_sendGlyph_208 : decode cX2_sendGlyph 208 = .ok (.aload_n 0, 1) := by decide +kernel
theorem dX2_sendGlyph_209 : decode cX2_sendGlyph 209 = .ok (.getfield 32, 3) := by decide +kernel
theorem dX2_sendGlyph_212 : decode cX2_sendGlyph 212 = .ok (.iload 11, 2) := by decide +kernel
theorem dX2_sendGlyph_214 : decode cX2_sendGlyph 214 = .ok (.iload 10, 2) := by decide +kernel
theorem dX2_sendGlyph_216 : decode cX2_sendGlyph 216 = .ok (.iconst (-1), 1) := by decide +kernel
theorem dX2_sendGlyph_217 : decode cX2_sendGlyph 217 = .ok (.bipush 32, 2) := by decide +kernel
theorem dX2_sendGlyph_219 : decode cX2_sendGlyph 219 = .ok (.iload 4, 2) := by decide +kernel
theorem dX2_sendGlyph_221 : decode cX2_sendGlyph 221 = .ok (.isub, 1) := by decide +kernel
theorem dX2_sendGlyph_222 : decode cX2_sendGlyph 222 = .ok (.ishl, 1) := by decide +kernel
theorem dX2_sendGlyph_223 : decode cX2_sendGlyph 223 = .ok (.iand, 1) := by decide +kernel
theorem dX2_sendGlyph_224 : decode cX2_sendGlyph 224 = .ok (.iastore, 1) := by decide +kernel
theorem dX2_sendGlyph_225 : decode cX2_sendGlyph 225 = .ok (.iinc 9 1, 3) := by decide +kernel
theorem dX2_sendGlyph_228 : decode cX2_sendGlyph 228 = .ok (.goto (-95), 3) := by decide +kernel
theorem dX2_sendGlyph_231 : decode cX2_sendGlyph 231 = .ok (.return_, 1) := by decide +kernel
noncomputable def f_X2_sendGlyph_b146 (k133 : Nat → Int32 → Int32 → Int32 → Int32 → Int32 → Mm → Option (Unit × Mm)) (k146 : Nat → Int32 → Int32 → Int32 → Int32 → Int32 → Int32 → Int32 → Mm → Option (Unit × Mm)) (a3 : Nat) (a4 : Int32) (a5 : Int32) (a7 : Int32) (a8 : Int32) (a9 : Int32) (a10 : Int32) (a11 : Int32) (T : Mm) : Option (Unit × Mm) :=
  if a7 ≤ a11 then (lb (((a8 * 32) + a9)) fun v1 =>
  if 15808 ≤ v1 then (k133 a3 a4 a5 a7 a8 (a9 + 1) T)
  else (ix v1 15808 fun j2 => lb (uA T 34 j2 ((a10 &&& ((-1 : Int32) <<< (((32 : Int32) - a4) &&& 31))))) fun T4 =>
  k133 a3 a4 a5 a7 a8 (a9 + 1) T4))
  else (bd (f_X5_dataByte a3 (((6 : Int32) + (a9 * a7)) + a11) T) fun v5 T6 =>
  lb ((a10 ||| (v5 <<< (((24 : Int32) - ((8 : Int32) * a11)) &&& 31)))) fun v7 =>
  k146 a3 a4 a5 a7 a8 a9 v7 (a11 + 1) T6)
set_option maxRecDepth 100000 in
set_option maxHeartbeats 4000000 in
theorem s_X2_sendGlyph_b146 {x : JX} {ad : Nat → Nat} {U : Mm} {S0 : Hp} {q : Unit × Mm}  {k133 : Nat → Int32 → Int32 → Int32 → Int32 → Int32 → Mm → Option (Unit × Mm)} {k146 : Nat → Int32 → Int32 → Int32 → Int32 → Int32 → Int32 → Int32 → Mm → Option (Unit × Mm)} (hn9 : x_n x = 12) (C : CB x RX2 cX2_sendGlyph) (M : CMr x 3 none S0 ad true U eV q) (hk133 : ∀ (a3 : Nat) (a4 : Int32) (a5 : Int32) (a7 : Int32) (a8 : Int32) (a9 : Int32) (T : Mm) (_ : kS true a3 = 5), k133 a3 a4 a5 a7 a8 a9 T = some q → Jr x ad true U T [(0, .ref (ad 27)), (3, .ref (ad a3)), (4, .int a4), (5, .int a5), (7, .int a7), (8, .int a8), (9, .int a9)] 133 []) (hk146 : ∀ (a3 : Nat) (a4 : Int32) (a5 : Int32) (a7 : Int32) (a8 : Int32) (a9 : Int32) (a10 : Int32) (a11 : Int32) (T : Mm) (_ : kS true a3 = 5), k146 a3 a4 a5 a7 a8 a9 a10 a11 T = some q → Jr x ad true U T [(0, .ref (ad 27)), (3, .ref (ad a3)), (4, .int a4), (5, .int a5), (7, .int a7), (8, .int a8), (9, .int a9), (10, .int a10), (11, .int a11)] 146 []) (a3 : Nat) (a4 : Int32) (a5 : Int32) (a7 : Int32) (a8 : Int32) (a9 : Int32) (a10 : Int32) (a11 : Int32) (T : Mm) (ha3 : kS true a3 = 5) (h : f_X2_sendGlyph_b146 k133 k146 a3 a4 a5 a7 a8 a9 a10 a11 T = some q) : Jr x ad true U T [(0, .ref (ad 27)), (3, .ref (ad a3)), (4, .int a4), (5, .int a5), (7, .int a7), (8, .int a8), (9, .int a9), (10, .int a10), (11, .int a11)] 146 [] := by
  unfold f_X2_sendGlyph_b146 at h
  refine r_iload C dX2_sendGlyph_146 8 rfl ?_
  refine r_iload C dX2_sendGlyph_148 4 rfl ?_
  refine r_ic_ge (tgt := 188) C dX2_sendGlyph_150 (by decide) h (fun h => ?_) (fun h => ?_)
  · refine r_iload C dX2_sendGlyph_188 5 rfl ?_
    refine r_bipush (v := 32) C dX2_sendGlyph_190 (by decide) ?_
    refine r_imul C dX2_sendGlyph_192 rfl ?_
    refine r_iload C dX2_sendGlyph_193 6 rfl ?_
    refine r_iadd C dX2_sendGlyph_195 rfl ?_
    show Jr _ _ _ _ _ _ 196 _
    refine r_lbI h (fun v1 h => ?_)
    refine r_istore (lv' := [(11, .int v1), (0, .ref (ad 27)), (3, .ref (ad a3)), (4, .int a4), (5, .int a5), (7, .int a7), (8, .int a8), (9, .int a9), (10, .int a10)]) C dX2_sendGlyph_196 (by rw [hn9]; decide) rfl ?_
    refine r_iload C dX2_sendGlyph_198 0 rfl ?_
    refine r_aload_n C dX2_sendGlyph_200 rfl 1 rfl ?_
    refine r_getp (f := 205) (j := 34) C flX2_32 dX2_sendGlyph_201 kq_27 (by decide) rfl (fun W => pt_205 kq_27 W) ?_
    refine r_alen (n := 0) (v := 15808) C dX2_sendGlyph_204 kq_34 (by decide) (by decide) (congrArg Int32.ofNat lq_34) ?_
    refine r_ic_ge (tgt := 225) C dX2_sendGlyph_205 (by decide) h (fun h => ?_) (fun h => ?_)
    · refine r_iinc (q := 7) (v := (a9 + 1)) (lv' := [(9, .int (a9 + 1)), (11, .int v1), (0, .ref (ad 27)), (3, .ref (ad a3)), (4, .int a4), (5, .int a5), (7, .int a7), (8, .int a8), (10, .int a10)]) C dX2_sendGlyph_225 rfl (by rw [show Int32.ofInt (1) = 1 by decide]) (by rw [hn9]; decide) rfl ?_
      refine r_goto (tgt := 133) C dX2_sendGlyph_228 (by decide) ?_
      refine Jr.sub [2, 3, 4, 5, 6, 7, 0] (lv' := [(0, .ref (ad 27)), (3, .ref (ad a3)), (4, .int a4), (5, .int a5), (7, .int a7), (8, .int a8), (9, .int (a9 + 1))]) rfl ?_
      exact hk133 a3 a4 a5 a7 a8 (a9 + 1) T ha3 h
    · refine r_aload_n C dX2_sendGlyph_208 rfl 1 rfl ?_
      refine r_getp (f := 205) (j := 34) C flX2_32 dX2_sendGlyph_209 kq_27 (by decide) rfl (fun W => pt_205 kq_27 W) ?_
      refine r_iload C dX2_sendGlyph_212 0 rfl ?_
      refine r_iload C dX2_sendGlyph_214 8 rfl ?_
      refine r_iconst (v := (-1)) C dX2_sendGlyph_216 (by decide) ?_
      show Jr _ _ _ _ _ _ 217 _
      refine r_bipush (v := 32) C dX2_sendGlyph_217 (by decide) ?_
      refine r_iload C dX2_sendGlyph_219 3 rfl ?_
      refine r_isub C dX2_sendGlyph_221 rfl ?_
      refine r_ishl C dX2_sendGlyph_222 rfl ?_
      refine r_iand C dX2_sendGlyph_223 rfl ?_
      refine r_iast (n := 15808) C dX2_sendGlyph_224 kq_34 lq_34 h (fun j2 T4 hj3 h => ?_)
      show Jr _ _ _ _ _ _ 225 _
      refine r_iinc (q := 7) (v := (a9 + 1)) (lv' := [(9, .int (a9 + 1)), (11, .int v1), (0, .ref (ad 27)), (3, .ref (ad a3)), (4, .int a4), (5, .int a5), (7, .int a7), (8, .int a8), (10, .int a10)]) C dX2_sendGlyph_225 rfl (by rw [show Int32.ofInt (1) = 1 by decide]) (by rw [hn9]; decide) rfl ?_
      refine r_goto (tgt := 133) C dX2_sendGlyph_228 (by decide) ?_
      refine Jr.sub [2, 3, 4, 5, 6, 7, 0] (lv' := [(0, .ref (ad 27)), (3, .ref (ad a3)), (4, .int a4), (5, .int a5), (7, .int a7), (8, .int a8), (9, .int (a9 + 1))]) rfl ?_
      exact hk133 a3 a4 a5 a7 a8 (a9 + 1) T4 ha3 h
  · refine r_iload C dX2_sendGlyph_153 7 rfl ?_
    refine r_aload_n C dX2_sendGlyph_155 rfl 1 rfl ?_
    refine r_bipush (v := 6) C dX2_sendGlyph_156 (by decide) ?_
    refine r_iload C dX2_sendGlyph_158 6 rfl ?_
    refine r_iload C dX2_sendGlyph_160 4 rfl ?_
    show Jr _ _ _ _ _ _ 162 _
    refine r_imul C dX2_sendGlyph_162 rfl ?_
    refine r_iadd C dX2_sendGlyph_163 rfl ?_
    refine r_iload C dX2_sendGlyph_164 8 rfl ?_
    refine r_iadd C dX2_sendGlyph_166 rfl ?_
    refine r_callVI C M h [.int (((6 : Int32) + (a9 * a7)) + a11)] [.int a10] mlX2_80 mcX5_dataByte (fun q9 e9 => s_X5_dataByte a3 (((6 : Int32) + (a9 * a7)) + a11) ha3 e9) ha3 rfl (by decide) (by decide) rfl rfl (Nat.le_of_ble_eq_true rfl) dX2_sendGlyph_167 (fun v5 T6 h => ?_)
    refine r_bipush (v := 24) C dX2_sendGlyph_170 (by decide) ?_
    show Jr _ _ _ _ _ _ 172 _
    refine r_bipush (v := 8) C dX2_sendGlyph_172 (by decide) ?_
    refine r_iload C dX2_sendGlyph_174 8 rfl ?_
    refine r_imul C dX2_sendGlyph_176 rfl ?_
    refine r_isub C dX2_sendGlyph_177 rfl ?_
    refine r_ishl C dX2_sendGlyph_178 rfl ?_
    refine r_ior C dX2_sendGlyph_179 rfl ?_
    show Jr _ _ _ _ _ _ 180 _
    refine r_lbI h (fun v7 h => ?_)
    refine r_istore (lv' := [(10, .int v7), (0, .ref (ad 27)), (3, .ref (ad a3)), (4, .int a4), (5, .int a5), (7, .int a7), (8, .int a8), (9, .int a9), (11, .int a11)]) C dX2_sendGlyph_180 (by rw [hn9]; decide) rfl ?_
    refine r_iinc (q := 8) (v := (a11 + 1)) (lv' := [(11, .int (a11 + 1)), (10, .int v7), (0, .ref (ad 27)), (3, .ref (ad a3)), (4, .int a4), (5, .int a5), (7, .int a7), (8, .int a8), (9, .int a9)]) C dX2_sendGlyph_182 rfl (by rw [show Int32.ofInt (1) = 1 by decide]) (by rw [hn9]; decide) rfl ?_
    refine r_goto (tgt := 146) C dX2_sendGlyph_185 (by decide) ?_
    refine Jr.sub [2, 3, 4, 5, 6, 7, 8, 1, 0] (lv' := [(0, .ref (ad 27)), (3, .ref (ad a3)), (4, .int a4), (5, .int a5), (7, .int a7), (8, .int a8), (9, .int a9), (10, .int v7), (11, .int (a11 + 1))]) rfl ?_
    exact hk146 a3 a4 a5 a7 a8 a9 v7 (a11 + 1) T6 ha3 h
noncomputable def f_X2_sendGlyph_l146 (k133 : Nat → Int32 → Int32 → Int32 → Int32 → Int32 → Mm → Option (Unit × Mm)) (n : Nat) : Nat → Int32 → Int32 → Int32 → Int32 → Int32 → Int32 → Int32 → Mm → Option (Unit × Mm) := Nat.rec (fun _ _ _ _ _ _ _ _ _ => none) (fun _ ih => f_X2_sendGlyph_b146 k133 ih) n
theorem s_X2_sendGlyph_l146 {x : JX} {ad : Nat → Nat} {U : Mm} {S0 : Hp} {q : Unit × Mm}  {k133 : Nat → Int32 → Int32 → Int32 → Int32 → Int32 → Mm → Option (Unit × Mm)} (hn9 : x_n x = 12) (C : CB x RX2 cX2_sendGlyph) (M : CMr x 3 none S0 ad true U eV q) (hk133 : ∀ (a3 : Nat) (a4 : Int32) (a5 : Int32) (a7 : Int32) (a8 : Int32) (a9 : Int32) (T : Mm) (_ : kS true a3 = 5), k133 a3 a4 a5 a7 a8 a9 T = some q → Jr x ad true U T [(0, .ref (ad 27)), (3, .ref (ad a3)), (4, .int a4), (5, .int a5), (7, .int a7), (8, .int a8), (9, .int a9)] 133 []) : ∀ (n : Nat), ∀ (a3 : Nat) (a4 : Int32) (a5 : Int32) (a7 : Int32) (a8 : Int32) (a9 : Int32) (a10 : Int32) (a11 : Int32) (T : Mm) (_ : kS true a3 = 5), f_X2_sendGlyph_l146 k133 n a3 a4 a5 a7 a8 a9 a10 a11 T = some q → Jr x ad true U T [(0, .ref (ad 27)), (3, .ref (ad a3)), (4, .int a4), (5, .int a5), (7, .int a7), (8, .int a8), (9, .int a9), (10, .int a10), (11, .int a11)] 146 [] := by
  intro n
  induction n with
  | zero => intro a3 a4 a5 a7 a8 a9 a10 a11 T _ h; exact absurd h (by intro h; cases h)
  | succ n ih => exact fun a3 a4 a5 a7 a8 a9 a10 a11 T ha3 h => s_X2_sendGlyph_b146 hn9 C M hk133 (ih) a3 a4 a5 a7 a8 a9 a10 a11 T ha3 h
noncomputable def f_X2_sendGlyph_b133 (k133 : Nat → Int32 → Int32 → Int32 → Int32 → Int32 → Mm → Option (Unit × Mm)) (a3 : Nat) (a4 : Int32) (a5 : Int32) (a7 : Int32) (a8 : Int32) (a9 : Int32) (T : Mm) : Option (Unit × Mm) :=
  if a5 ≤ a9 then (some ((), T))
  else (f_X2_sendGlyph_l146 k133 FU a3 a4 a5 a7 a8 a9 0 0 T)
set_option maxRecDepth 100000 in
set_option maxHeartbeats 4000000 in
theorem s_X2_sendGlyph_b133 {x : JX} {ad : Nat → Nat} {U : Mm} {S0 : Hp} {q : Unit × Mm}  {k133 : Nat → Int32 → Int32 → Int32 → Int32 → Int32 → Mm → Option (Unit × Mm)} (hn9 : x_n x = 12) (C : CB x RX2 cX2_sendGlyph) (M : CMr x 3 none S0 ad true U eV q) (hk133 : ∀ (a3 : Nat) (a4 : Int32) (a5 : Int32) (a7 : Int32) (a8 : Int32) (a9 : Int32) (T : Mm) (_ : kS true a3 = 5), k133 a3 a4 a5 a7 a8 a9 T = some q → Jr x ad true U T [(0, .ref (ad 27)), (3, .ref (ad a3)), (4, .int a4), (5, .int a5), (7, .int a7), (8, .int a8), (9, .int a9)] 133 []) (a3 : Nat) (a4 : Int32) (a5 : Int32) (a7 : Int32) (a8 : Int32) (a9 : Int32) (T : Mm) (ha3 : kS true a3 = 5) (h : f_X2_sendGlyph_b133 k133 a3 a4 a5 a7 a8 a9 T = some q) : Jr x ad true U T [(0, .ref (ad 27)), (3, .ref (ad a3)), (4, .int a4), (5, .int a5), (7, .int a7), (8, .int a8), (9, .int a9)] 133 [] := by
  unfold f_X2_sendGlyph_b133 at h
  refine r_iload C dX2_sendGlyph_133 6 rfl ?_
  refine r_iload C dX2_sendGlyph_135 3 rfl ?_
  refine r_ic_ge (tgt := 231) C dX2_sendGlyph_137 (by decide) h (fun h => ?_) (fun h => ?_)
  · exact r_vret C M dX2_sendGlyph_231 h
  · refine r_iconst (v := 0) C dX2_sendGlyph_140 (by decide) ?_
    refine r_istore (lv' := [(10, .int 0), (0, .ref (ad 27)), (3, .ref (ad a3)), (4, .int a4), (5, .int a5), (7, .int a7), (8, .int a8), (9, .int a9)]) C dX2_sendGlyph_141 (by rw [hn9]; decide) rfl ?_
    refine r_iconst (v := 0) C dX2_sendGlyph_143 (by decide) ?_
    refine r_istore (lv' := [(11, .int 0), (10, .int 0), (0, .ref (ad 27)), (3, .ref (ad a3)), (4, .int a4), (5, .int a5), (7, .int a7), (8, .int a8), (9, .int a9)]) C dX2_sendGlyph_144 (by rw [hn9]; decide) rfl ?_
    refine Jr.sub [2, 3, 4, 5, 6, 7, 8, 1, 0] (lv' := [(0, .ref (ad 27)), (3, .ref (ad a3)), (4, .int a4), (5, .int a5), (7, .int a7), (8, .int a8), (9, .int a9), (10, .int 0), (11, .int 0)]) rfl ?_
    exact s_X2_sendGlyph_l146 hn9 C M hk133 FU a3 a4 a5 a7 a8 a9 0 0 T ha3 h
noncomputable def f_X2_sendGlyph_l133 (n : Nat) : Nat → Int32 → Int32 → Int32 → Int32 → Int32 → Mm → Option (Unit × Mm) := Nat.rec (fun _ _ _ _ _ _ _ => none) (fun _ ih => f_X2_sendGlyph_b133 ih) n
theorem s_X2_sendGlyph_l133 {x : JX} {ad : Nat → Nat} {U : Mm} {S0 : Hp} {q : Unit × Mm}  (hn9 : x_n x = 12) (C : CB x RX2 cX2_sendGlyph) (M : CMr x 3 none S0 ad true U eV q) : ∀ (n : Nat), ∀ (a3 : Nat) (a4 : Int32) (a5 : Int32) (a7 : Int32) (a8 : Int32) (a9 : Int32) (T : Mm) (_ : kS true a3 = 5), f_X2_sendGlyph_l133  n a3 a4 a5 a7 a8 a9 T = some q → Jr x ad true U T [(0, .ref (ad 27)), (3, .ref (ad a3)), (4, .int a4), (5, .int a5), (7, .int a7), (8, .int a8), (9, .int a9)] 133 [] := by
  intro n
  induction n with
  | zero => intro a3 a4 a5 a7 a8 a9 T _ h; exact absurd h (by intro h; cases h)
  | succ n ih => exact fun a3 a4 a5 a7 a8 a9 T ha3 h => s_X2_sendGlyph_b133 hn9 C M (ih) a3 a4 a5 a7 a8 a9 T ha3 h
noncomputable def f_X2_sendGlyph (p1 : Int32) (p2 : Int32) (p3 : Nat) (T : Mm) : Option (Unit × Mm) :=
  bd (f_X5_dataByte p3 2 T) fun v1 T2 =>
  bd (f_X5_dataByte p3 3 T2) fun v3 T4 =>
  bd (f_X5_dataTwo p3 4 T4) fun v5 T6 =>
  lb (((v1 + 7) / 8)) fun v7 =>
  if v1 < 1 then (some ((), T6))
  else (if 32 < v1 then (some ((), T6))
  else (if v3 < 1 then (some ((), T6))
  else (if 32 < v3 then (some ((), T6))
  else (if 7200 < v5 then (some ((), T6))
  else (if (gI T6 512 p3) < ((6 : Int32) + (v3 * v7)) then (some ((), T6))
  else (bd (f_X8_has 28 p1 T6) fun v8 T9 =>
  if v8 = 0 then (some ((), T9))
  else (bd (f_X2_slotFor p1 p2 T9) fun v10 T11 =>
  if 0 ≤ v10 then (bd (f_X5_dataByte p3 0 T11) fun v12 T13 =>
  bd (f_X5_dataByte p3 1 T13) fun v14 T15 =>
  bd (f_X2_setHead v10 ((v12).toInt8.toInt32) ((v14).toInt8.toInt32) v1 v3 v5 T15) fun _ T16 =>
  f_X2_sendGlyph_l133 FU p3 v1 v3 v7 v10 0 T16)
  else (some ((), T11)))))))))
set_option maxRecDepth 100000 in
set_option maxHeartbeats 4000000 in
theorem s_X2_sendGlyph {ad : Nat → Nat} {U T : Mm} {q : Unit × Mm}  (p1 : Int32) (p2 : Int32) (p3 : Nat) (hk3 : kS true p3 = 5) (h : f_X2_sendGlyph p1 p2 p3 T = some q) : Cr 3 yX2_sendGlyph cX2_sendGlyph 12 none [.ref (ad 27), .int p1, .int p2, .ref (ad p3)] ad true U T eV q := by
  refine cr_of (by decide) (Nat.le_of_ble_eq_true rfl) fun x S0 hn9 C M => ?_
  have C : CB x RX2 cX2_sendGlyph := C
  refine Jr.eq (lv' := [(0, .ref (ad 27)), (1, .int p1), (2, .int p2), (3, .ref (ad p3))]) (st' := []) rfl rfl ?_
  unfold f_X2_sendGlyph at h
  refine r_aload_n C dX2_sendGlyph_0 rfl 3 rfl ?_
  refine r_iconst (v := 2) C dX2_sendGlyph_1 (by decide) ?_
  refine r_callVI C M h [.int 2] [] mlX2_80 mcX5_dataByte (fun q9 e9 => s_X5_dataByte p3 2 hk3 e9) hk3 rfl (by decide) (by decide) rfl rfl (Nat.le_of_ble_eq_true rfl) dX2_sendGlyph_2 (fun v1 T2 h => ?_)
  refine r_istore (lv' := [(4, .int v1), (0, .ref (ad 27)), (1, .int p1), (2, .int p2), (3, .ref (ad p3))]) C dX2_sendGlyph_5 (by rw [hn9]; decide) rfl ?_
  refine r_aload_n C dX2_sendGlyph_7 rfl 4 rfl ?_
  show Jr _ _ _ _ _ _ 8 _
  refine r_iconst (v := 3) C dX2_sendGlyph_8 (by decide) ?_
  refine r_callVI C M h [.int 3] [] mlX2_80 mcX5_dataByte (fun q9 e9 => s_X5_dataByte p3 3 hk3 e9) hk3 rfl (by decide) (by decide) rfl rfl (Nat.le_of_ble_eq_true rfl) dX2_sendGlyph_9 (fun v3 T4 h => ?_)
  refine r_istore (lv' := [(5, .int v3), (4, .int v1), (0, .ref (ad 27)), (1, .int p1), (2, .int p2), (3, .ref (ad p3))]) C dX2_sendGlyph_12 (by rw [hn9]; decide) rfl ?_
  refine r_aload_n C dX2_sendGlyph_14 rfl 5 rfl ?_
  refine r_iconst (v := 4) C dX2_sendGlyph_15 (by decide) ?_
  refine r_callVI C M h [.int 4] [] mlX2_63 mcX5_dataTwo (fun q9 e9 => s_X5_dataTwo p3 4 hk3 e9) hk3 rfl (by decide) (by decide) rfl rfl (Nat.le_of_ble_eq_true rfl) dX2_sendGlyph_16 (fun v5 T6 h => ?_)
  show Jr _ _ _ _ _ _ 19 _
  refine r_istore (lv' := [(6, .int v5), (5, .int v3), (4, .int v1), (0, .ref (ad 27)), (1, .int p1), (2, .int p2), (3, .ref (ad p3))]) C dX2_sendGlyph_19 (by rw [hn9]; decide) rfl ?_
  refine r_iload C dX2_sendGlyph_21 2 rfl ?_
  refine r_bipush (v := 7) C dX2_sendGlyph_23 (by decide) ?_
  refine r_iadd C dX2_sendGlyph_25 rfl ?_
  refine r_bipush (v := 8) C dX2_sendGlyph_26 (by decide) ?_
  refine r_idiv C dX2_sendGlyph_28 (by decide) rfl ?_
  show Jr _ _ _ _ _ _ 29 _
  refine r_lbI h (fun v7 h => ?_)
  refine r_istore (lv' := [(7, .int v7), (6, .int v5), (5, .int v3), (4, .int v1), (0, .ref (ad 27)), (1, .int p1), (2, .int p2), (3, .ref (ad p3))]) C dX2_sendGlyph_29 (by rw [hn9]; decide) rfl ?_
  refine r_iload C dX2_sendGlyph_31 3 rfl ?_
  refine r_iconst (v := 1) C dX2_sendGlyph_33 (by decide) ?_
  refine r_ic_lt (tgt := 91) C dX2_sendGlyph_34 (by decide) h (fun h => ?_) (fun h => ?_)
  · exact r_vret C M dX2_sendGlyph_91 h
  · refine r_iload C dX2_sendGlyph_37 3 rfl ?_
    refine r_bipush (v := 32) C dX2_sendGlyph_39 (by decide) ?_
    refine r_ic_gt (tgt := 91) C dX2_sendGlyph_41 (by decide) h (fun h => ?_) (fun h => ?_)
    · exact r_vret C M dX2_sendGlyph_91 h
    · refine r_iload C dX2_sendGlyph_44 2 rfl ?_
      refine r_iconst (v := 1) C dX2_sendGlyph_46 (by decide) ?_
      refine r_ic_lt (tgt := 91) C dX2_sendGlyph_47 (by decide) h (fun h => ?_) (fun h => ?_)
      · exact r_vret C M dX2_sendGlyph_91 h
      · refine r_iload C dX2_sendGlyph_50 2 rfl ?_
        refine r_bipush (v := 32) C dX2_sendGlyph_52 (by decide) ?_
        refine r_ic_gt (tgt := 91) C dX2_sendGlyph_54 (by decide) h (fun h => ?_) (fun h => ?_)
        · exact r_vret C M dX2_sendGlyph_91 h
        · refine r_iload C dX2_sendGlyph_57 1 rfl ?_
          refine r_sipush (v := 7200) C dX2_sendGlyph_59 (by decide) ?_
          refine r_ic_gt (tgt := 91) C dX2_sendGlyph_62 (by decide) h (fun h => ?_) (fun h => ?_)
          · exact r_vret C M dX2_sendGlyph_91 h
          · refine r_aload_n C dX2_sendGlyph_65 rfl 7 rfl ?_
            refine r_geti (f := 512) C flX2_69 dX2_sendGlyph_66 hk3 (by decide) (by decide) rfl ?_
            refine r_bipush (v := 6) C dX2_sendGlyph_69 (by decide) ?_
            refine r_iload C dX2_sendGlyph_71 2 rfl ?_
            refine r_iload C dX2_sendGlyph_73 0 rfl ?_
            show Jr _ _ _ _ _ _ 75 _
            refine r_imul C dX2_sendGlyph_75 rfl ?_
            refine r_iadd C dX2_sendGlyph_76 rfl ?_
            refine r_ic_lt (tgt := 91) C dX2_sendGlyph_77 (by decide) h (fun h => ?_) (fun h => ?_)
            · exact r_vret C M dX2_sendGlyph_91 h
            · refine r_aload_n C dX2_sendGlyph_80 rfl 4 rfl ?_
              refine r_getp (f := 200) (j := 28) C flX2_14 dX2_sendGlyph_81 kq_27 (by decide) rfl (fun W => pt_200 kq_27 W) ?_
              refine r_iload_n C dX2_sendGlyph_84 rfl 5 rfl ?_
              refine r_callVI C M h [.int p1] [] mlX2_58 mcX8_has (fun q9 e9 => s_X8_has 28 p1 kq_28 e9) kq_28 rfl (by decide) (by decide) rfl rfl (Nat.le_of_ble_eq_true rfl) dX2_sendGlyph_85 (fun v8 T9 h => ?_)
              refine r_if_ne (tgt := 92) C dX2_sendGlyph_88 (by decide) h (fun h => ?_) (fun h => ?_)
              · refine r_aload_n C dX2_sendGlyph_92 rfl 4 rfl ?_
                refine r_iload_n C dX2_sendGlyph_93 rfl 5 rfl ?_
                refine r_iload_n C dX2_sendGlyph_94 rfl 6 rfl ?_
                refine r_callVI C M h [.int p1, .int p2] [] mlX2_87 mcX2_slotFor (fun q9 e9 => s_X2_slotFor p1 p2  e9) kq_27 rfl (by decide) (by decide) rfl rfl (Nat.le_of_ble_eq_true rfl) dX2_sendGlyph_95 (fun v10 T11 h => ?_)
                refine r_istore (lv' := [(8, .int v10), (7, .int v7), (6, .int v5), (5, .int v3), (4, .int v1), (0, .ref (ad 27)), (1, .int p1), (2, .int p2), (3, .ref (ad p3))]) C dX2_sendGlyph_98 (by rw [hn9]; decide) rfl ?_
                show Jr _ _ _ _ _ _ 100 _
                refine r_iload C dX2_sendGlyph_100 0 rfl ?_
                refine r_if_ge (tgt := 106) C dX2_sendGlyph_102 (by decide) h (fun h => ?_) (fun h => ?_)
                · refine r_aload_n C dX2_sendGlyph_106 rfl 5 rfl ?_
                  refine r_iload C dX2_sendGlyph_107 0 rfl ?_
                  refine r_aload_n C dX2_sendGlyph_109 rfl 8 rfl ?_
                  refine r_iconst (v := 0) C dX2_sendGlyph_110 (by decide) ?_
                  refine r_callVI C M h [.int 0] [.int v10, .ref (ad 27)] mlX2_80 mcX5_dataByte (fun q9 e9 => s_X5_dataByte p3 0 hk3 e9) hk3 rfl (by decide) (by decide) rfl rfl (Nat.le_of_ble_eq_true rfl) dX2_sendGlyph_111 (fun v12 T13 h => ?_)
                  show Jr _ _ _ _ _ _ 114 _
                  refine r_i2b C dX2_sendGlyph_114 rfl ?_
                  refine r_aload_n C dX2_sendGlyph_115 rfl 8 rfl ?_
                  refine r_iconst (v := 1) C dX2_sendGlyph_116 (by decide) ?_
                  refine r_callVI C M h [.int 1] [.int ((v12).toInt8.toInt32), .int v10, .ref (ad 27)] mlX2_80 mcX5_dataByte (fun q9 e9 => s_X5_dataByte p3 1 hk3 e9) hk3 rfl (by decide) (by decide) rfl rfl (Nat.le_of_ble_eq_true rfl) dX2_sendGlyph_117 (fun v14 T15 h => ?_)
                  refine r_i2b C dX2_sendGlyph_120 rfl ?_
                  refine r_iload C dX2_sendGlyph_121 4 rfl ?_
                  show Jr _ _ _ _ _ _ 123 _
                  refine r_iload C dX2_sendGlyph_123 3 rfl ?_
                  refine r_iload C dX2_sendGlyph_125 2 rfl ?_
                  refine r_callVN C M h [.int v10, .int ((v12).toInt8.toInt32), .int ((v14).toInt8.toInt32), .int v1, .int v3, .int v5] [] mlX2_48 mcX2_setHead (fun q9 e9 => s_X2_setHead v10 ((v12).toInt8.toInt32) ((v14).toInt8.toInt32) v1 v3 v5  e9) kq_27 rfl (by decide) (by decide) rfl rfl (Nat.le_of_ble_eq_true rfl) dX2_sendGlyph_127 (fun _ T16 h => ?_)
                  refine r_iconst (v := 0) C dX2_sendGlyph_130 (by decide) ?_
                  refine r_istore (lv' := [(9, .int 0), (8, .int v10), (7, .int v7), (6, .int v5), (5, .int v3), (4, .int v1), (0, .ref (ad 27)), (1, .int p1), (2, .int p2), (3, .ref (ad p3))]) C dX2_sendGlyph_131 (by rw [hn9]; decide) rfl ?_
                  refine Jr.sub [6, 9, 5, 4, 2, 1, 0] (lv' := [(0, .ref (ad 27)), (3, .ref (ad p3)), (4, .int v1), (5, .int v3), (7, .int v7), (8, .int v10), (9, .int 0)]) rfl ?_
                  exact s_X2_sendGlyph_l133 hn9 C M  FU p3 v1 v3 v7 v10 0 T16 hk3 h
                · exact r_vret C M dX2_sendGlyph_105 h
              · exact r_vret C M dX2_sendGlyph_91 h
