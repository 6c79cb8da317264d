noncomputable def f_J7_fill_53178_b5 (k5 : Nat → Int32 → Int32 → Int32 → Mm → Option (Unit × Mm)) (a0 : Nat) (a1 : Int32) (a2 : Int32) (a3 : Int32) (T : Mm) : Option (Unit × Mm) :=
  if a3 ≤ a2 then (some ((), T))
  else (ix a2 (LN a0) fun j1 => lb (uA T a0 j1 (a1)) fun T3 =>
  k5 a0 a1 (a2 + 1) a3 T3)
set_option maxRecDepth 100000 in
set_option maxHeartbeats 4000000 in
theorem s_J7_fill_53178_b5 {x : JX} {ad : Nat → Nat} {U : Mm} {S0 : Hp} {q : Unit × Mm}  {k5 : Nat → Int32 → Int32 → Int32 → Mm → Option (Unit × Mm)} (hn9 : x_n x = 4) (C : CB x RJ7 cJ7_fill_53178) (M : CMr x 1 none S0 ad true U eV q) (hk5 : ∀ (a0 : Nat) (a1 : Int32) (a2 : Int32) (a3 : Int32) (T : Mm) (_ : kS true a0 = 14), k5 a0 a1 a2 a3 T = some q → Jr x ad true U T [(0, .ref (ad a0)), (1, .int a1), (2, .int a2), (3, .int a3)] 5 []) (a0 : Nat) (a1 : Int32) (a2 : Int32) (a3 : Int32) (T : Mm) (ha0 : kS true a0 = 14) (h : f_J7_fill_53178_b5 k5 a0 a1 a2 a3 T = some q) : Jr x ad true U T [(0, .ref (ad a0)), (1, .int a1), (2, .int a2), (3, .int a3)] 5 [] := by
  unfold f_J7_fill_53178_b5 at h
  refine r_iload_n C dJ7_fill_53178_5 rfl 2 rfl ?_
  refine r_iload_n C dJ7_fill_53178_6 rfl 3 rfl ?_
  refine r_ic_ge (tgt := 20) C dJ7_fill_53178_7 (by decide) h (fun h => ?_) (fun h => ?_)
  · exact r_vret C M dJ7_fill_53178_20 h
  · refine r_aload_n C dJ7_fill_53178_10 rfl 0 rfl ?_
    refine r_iload_n C dJ7_fill_53178_11 rfl 2 rfl ?_
    refine r_iload_n C dJ7_fill_53178_12 rfl 1 rfl ?_
    refine r_iast (n := (LN a0)) C dJ7_fill_53178_13 ha0 rfl h (fun j1 T3 hj2 h => ?_)
    refine r_iinc (q := 2) (v := (a2 + 1)) (lv' := [(2, .int (a2 + 1)), (0, .ref (ad a0)), (1, .int a1), (3, .int a3)]) C dJ7_fill_53178_14 rfl (by rw [show Int32.ofInt (1) = 1 by decide]) (by rw [hn9]; decide) rfl ?_
    show Jr _ _ _ _ _ _ 17 _
    refine r_goto (tgt := 5) C dJ7_fill_53178_17 (by decide) ?_
    refine Jr.sub [1, 2, 0, 3] (lv' := [(0, .ref (ad a0)), (1, .int a1), (2, .int (a2 + 1)), (3, .int a3)]) rfl ?_
    exact hk5 a0 a1 (a2 + 1) a3 T3 ha0 h
noncomputable def f_J7_fill_53178_l5 (n : Nat) : Nat → Int32 → Int32 → Int32 → Mm → Option (Unit × Mm) := Nat.rec (fun _ _ _ _ _ => none) (fun _ ih => f_J7_fill_53178_b5 ih) n
theorem s_J7_fill_53178_l5 {x : JX} {ad : Nat → Nat} {U : Mm} {S0 : Hp} {q : Unit × Mm}  (hn9 : x_n x = 4) (C : CB x RJ7 cJ7_fill_53178) (M : CMr x 1 none S0 ad true U eV q) : ∀ (n : Nat), ∀ (a0 : Nat) (a1 : Int32) (a2 : Int32) (a3 : Int32) (T : Mm) (_ : kS true a0 = 14), f_J7_fill_53178_l5  n a0 a1 a2 a3 T = some q → Jr x ad true U T [(0, .ref (ad a0)), (1, .int a1), (2, .int a2), (3, .int a3)] 5 [] := by
  intro n
  induction n with
  | zero => intro a0 a1 a2 a3 T _ h; exact absurd h (by intro h; cases h)
  | succ n ih => exact fun a0 a1 a2 a3 T ha0 h => s_J7_fill_53178_b5 hn9 C M (ih) a0 a1 a2 a3 T ha0 h
noncomputable def f_J7_fill_53178 (p0 : Nat) (p1 : Int32) (T : Mm) : Option (Unit × Mm) :=
  lb ((Int32.ofNat (LN p0))) fun v1 =>
  f_J7_fill_53178_l5 FU p0 p1 0 v1 T
set_option maxRecDepth 100000 in
set_option maxHeartbeats 4000000 in
theorem s_J7_fill_53178 {ad : Nat → Nat} {U T : Mm} {q : Unit × Mm}  (p0 : Nat) (p1 : Int32) (hk0 : kS true p0 = 14) (h : f_J7_fill_53178 p0 p1 T = some q) : Cr 1 yJ7_fill_53178 cJ7_fill_53178 4 none [.ref (ad p0), .int p1] ad true U T eV q := by
  refine cr_ofF (by decide +kernel) (Nat.le_of_ble_eq_true rfl) fun x S0 hn9 C M => ?_
  have C : CB x RJ7 cJ7_fill_53178 := C
  refine Jr.eq (lv' := [(0, .ref (ad p0)), (1, .int p1)]) (st' := []) rfl rfl ?_
  unfold f_J7_fill_53178 at h
  refine r_iconst (v := 0) C dJ7_fill_53178_0 (by decide) ?_
  refine r_istore_n (lv' := [(2, .int 0), (0, .ref (ad p0)), (1, .int p1)]) C dJ7_fill_53178_1 rfl (by rw [hn9]; decide) rfl ?_
  refine r_aload_n C dJ7_fill_53178_2 rfl 1 rfl ?_
  refine r_alen (n := 0) C dJ7_fill_53178_3 hk0 (by decide) (by decide) rfl ?_
  refine r_lbI h (fun v1 h => ?_)
  refine r_istore_n (lv' := [(3, .int v1), (2, .int 0), (0, .ref (ad p0)), (1, .int p1)]) C dJ7_fill_53178_4 rfl (by rw [hn9]; decide) rfl ?_
  refine Jr.sub [2, 3, 1, 0] (lv' := [(0, .ref (ad p0)), (1, .int p1), (2, .int 0), (3, .int v1)]) rfl ?_
  exact s_J7_fill_53178_l5 hn9 C M  FU p0 p1 0 v1 T hk0 h
noncomputable def f_J9_min_f86c9 (p0 : Int64) (p2 : Int64) (T : Mm) : Option (Int64 × Mm) :=
  if 0 < (lg_cmp p0 p2) then (some (p2, T))
  else (some (p0, T))
set_option maxRecDepth 100000 in
set_option maxHeartbeats 4000000 in
theorem s_J9_min_f86c9 {ad : Nat → Nat} {U T : Mm} {q : Int64 × Mm}  (p0 : Int64) (p2 : Int64) (h : f_J9_min_f86c9 p0 p2 T = some q) : Cr 1 yJ9_min_f86c9 cJ9_min_f86c9 4 (some .long) [.long p0, .long p2] ad true U T eJ q := by
  refine cr_ofF (by decide +kernel) (Nat.le_of_ble_eq_true rfl) fun x S0 hn9 C M => ?_
  have C : CB x RJ9 cJ9_min_f86c9 := C
  refine Jr.eq (lv' := [(0, .long p0), (2, .long p2)]) (st' := []) rfl rfl ?_
  unfold f_J9_min_f86c9 at h
  refine r_lload_n C dJ9_min_f86c9_0 rfl 0 rfl ?_
  refine r_lload_n C dJ9_min_f86c9_1 rfl 1 rfl ?_
  refine r_lcmp C dJ9_min_f86c9_2 ?_
  refine r_if_gt (tgt := 10) C dJ9_min_f86c9_3 (by decide) h (fun h => ?_) (fun h => ?_)
  · refine r_lload_n C dJ9_min_f86c9_10 rfl 1 rfl ?_
    exact r_lret C M dJ9_min_f86c9_11 h
  · refine r_lload_n C dJ9_min_f86c9_6 rfl 0 rfl ?_
    refine r_goto (tgt := 11) C dJ9_min_f86c9_7 (by decide) ?_
    exact r_lret C M dJ9_min_f86c9_11 h
noncomputable def f_J9_max_f86c9 (p0 : Int64) (p2 : Int64) (T : Mm) : Option (Int64 × Mm) :=
  if (lg_cmp p0 p2) < 0 then (some (p2, T))
  else (some (p0, T))
set_option maxRecDepth 100000 in
set_option maxHeartbeats 4000000 in
theorem s_J9_max_f86c9 {ad : Nat → Nat} {U T : Mm} {q : Int64 × Mm}  (p0 : Int64) (p2 : Int64) (h : f_J9_max_f86c9 p0 p2 T = some q) : Cr 1 yJ9_max_f86c9 cJ9_max_f86c9 4 (some .long) [.long p0, .long p2] ad true U T eJ q := by
  refine cr_ofF (by decide +kernel) (Nat.le_of_ble_eq_true rfl) fun x S0 hn9 C M => ?_
  have C : CB x RJ9 cJ9_max_f86c9 := C
  refine Jr.eq (lv' := [(0, .long p0), (2, .long p2)]) (st' := []) rfl rfl ?_
  unfold f_J9_max_f86c9 at h
  refine r_lload_n C dJ9_max_f86c9_0 rfl 0 rfl ?_
  refine r_lload_n C dJ9_max_f86c9_1 rfl 1 rfl ?_
  refine r_lcmp C dJ9_max_f86c9_2 ?_
  refine r_if_lt (tgt := 10) C dJ9_max_f86c9_3 (by decide) h (fun h => ?_) (fun h => ?_)
  · refine r_lload_n C dJ9_max_f86c9_10 rfl 1 rfl ?_
    exact r_lret C M dJ9_max_f86c9_11 h
  · refine r_lload_n C dJ9_max_f86c9_6 rfl 0 rfl ?_
    refine r_goto (tgt := 11) C dJ9_max_f86c9_7 (by decide) ?_
    exact r_lret C M dJ9_max_f86c9_11 h
noncomputable def f_J9_min_7cf53 (p0 : Int32) (p1 : Int32) (T : Mm) : Option (Int32 × Mm) :=
  if p1 < p0 then (some (p1, T))
  else (some (p0, T))
set_option maxRecDepth 100000 in
set_option maxHeartbeats 4000000 in
theorem s_J9_min_7cf53 {ad : Nat → Nat} {U T : Mm} {q : Int32 × Mm}  (p0 : Int32) (p1 : Int32) (h : f_J9_min_7cf53 p0 p1 T = some q) : Cr 1 yJ9_min_7cf53 cJ9_min_7cf53 2 (some .int) [.int p0, .int p1] ad true U T eI q := by
  refine cr_ofF (by decide +kernel) (Nat.le_of_ble_eq_true rfl) fun x S0 hn9 C M => ?_
  have C : CB x RJ9 cJ9_min_7cf53 := C
  refine Jr.eq (lv' := [(0, .int p0), (1, .int p1)]) (st' := []) rfl rfl ?_
  unfold f_J9_min_7cf53 at h
  refine r_iload_n C dJ9_min_7cf53_0 rfl 0 rfl ?_
  refine r_iload_n C dJ9_min_7cf53_1 rfl 1 rfl ?_
  refine r_ic_gt (tgt := 9) C dJ9_min_7cf53_2 (by decide) h (fun h => ?_) (fun h => ?_)
  · refine r_iload_n C dJ9_min_7cf53_9 rfl 1 rfl ?_
    exact r_iret C M dJ9_min_7cf53_10 h
  · refine r_iload_n C dJ9_min_7cf53_5 rfl 0 rfl ?_
    refine r_goto (tgt := 10) C dJ9_min_7cf53_6 (by decide) ?_
    exact r_iret C M dJ9_min_7cf53_10 h
noncomputable def f_J9_max_7cf53 (p0 : Int32) (p1 : Int32) (T : Mm) : Option (Int32 × Mm) :=
  if p0 < p1 then (some (p1, T))
  else (some (p0, T))
set_option maxRecDepth 100000 in
set_option maxHeartbeats 4000000 in
theorem s_J9_max_7cf53 {ad : Nat → Nat} {U T : Mm} {q : Int32 × Mm}  (p0 : Int32) (p1 : Int32) (h : f_J9_max_7cf53 p0 p1 T = some q) : Cr 1 yJ9_max_7cf53 cJ9_max_7cf53 2 (some .int) [.int p0, .int p1] ad true U T eI q := by
  refine cr_ofF (by decide +kernel) (Nat.le_of_ble_eq_true rfl) fun x S0 hn9 C M => ?_
  have C : CB x RJ9 cJ9_max_7cf53 := C
  refine Jr.eq (lv' := [(0, .int p0), (1, .int p1)]) (st' := []) rfl rfl ?_
  unfold f_J9_max_7cf53 at h
  refine r_iload_n C dJ9_max_7cf53_0 rfl 0 rfl ?_
  refine r_iload_n C dJ9_max_7cf53_1 rfl 1 rfl ?_
  refine r_ic_lt (tgt := 9) C dJ9_max_7cf53_2 (by decide) h (fun h => ?_) (fun h => ?_)
  · refine r_iload_n C dJ9_max_7cf53_9 rfl 1 rfl ?_
    exact r_iret C M dJ9_max_7cf53_10 h
  · refine r_iload_n C dJ9_max_7cf53_5 rfl 0 rfl ?_
    refine r_goto (tgt := 10) C dJ9_max_7cf53_6 (by decide) ?_
    exact r_iret C M dJ9_max_7cf53_10 h
noncomputable def f_J6_bitCount_0f7a4 (p0 : Int32) (T : Mm) : Option (Int32 × Mm) :=
  lb ((p0 - ((((p0).toUInt32 >>> ((1 : Int32).toUInt32 &&& Int32.toUInt32 31)).toInt32) &&& 1431655765))) fun v1 =>
  lb (((v1 &&& 858993459) + ((((v1).toUInt32 >>> ((2 : Int32).toUInt32 &&& Int32.toUInt32 31)).toInt32) &&& 858993459))) fun v2 =>
  lb (((v2 + (((v2).toUInt32 >>> ((4 : Int32).toUInt32 &&& Int32.toUInt32 31)).toInt32)) &&& 252645135)) fun v3 =>
  lb ((v3 + (((v3).toUInt32 >>> ((8 : Int32).toUInt32 &&& Int32.toUInt32 31)).toInt32))) fun v4 =>
  lb ((v4 + (((v4).toUInt32 >>> ((16 : Int32).toUInt32 &&& Int32.toUInt32 31)).toInt32))) fun v5 =>
  some ((v5 &&& 63), T)
set_option maxRecDepth 100000 in
set_option maxHeartbeats 4000000 in
theorem s_J6_bitCount_0f7a4 {ad : Nat → Nat} {U T : Mm} {q : Int32 × Mm}  (p0 : Int32) (h : f_J6_bitCount_0f7a4 p0 T = some q) : Cr 1 yJ6_bitCount_0f7a4 cJ6_bitCount_0f7a4 1 (some .int) [.int p0] ad true U T eI q := by
  refine cr_ofF (by decide +kernel) (Nat.le_of_ble_eq_true rfl) fun x S0 hn9 C M => ?_
  have C : CB x RJ6 cJ6_bitCount_0f7a4 := C
  refine Jr.eq (lv' := [(0, .int p0)]) (st' := []) rfl rfl ?_
  unfold f_J6_bitCount_0f7a4 at h
  refine r_iload_n C dJ6_bitCount_0f7a4_0 rfl 0 rfl ?_
  refine r_iload_n C dJ6_bitCount_0f7a4_1 rfl 0 rfl ?_
  refine r_iconst (v := 1) C dJ6_bitCount_0f7a4_2 (by decide) ?_
  refine r_iushr C dJ6_bitCount_0f7a4_3 rfl ?_
  refine r_ldcw (v := 1431655765) C dJ6_bitCount_0f7a4_4 kcJ6_265 ?_
  show Jr _ _ _ _ _ _ 7 _
  refine r_iand C dJ6_bitCount_0f7a4_7 rfl ?_
  refine r_isub C dJ6_bitCount_0f7a4_8 rfl ?_
  refine r_lbI h (fun v1 h => ?_)
  refine r_istore_n (lv' := [(0, .int v1)]) C dJ6_bitCount_0f7a4_9 rfl (by rw [hn9]; decide) rfl ?_
  refine r_iload_n C dJ6_bitCount_0f7a4_10 rfl 0 rfl ?_
  refine r_ldcw (v := 858993459) C dJ6_bitCount_0f7a4_11 kcJ6_266 ?_
  refine r_iand C dJ6_bitCount_0f7a4_14 rfl ?_
  show Jr _ _ _ _ _ _ 15 _
  refine r_iload_n C dJ6_bitCount_0f7a4_15 rfl 0 rfl ?_
  refine r_iconst (v := 2) C dJ6_bitCount_0f7a4_16 (by decide) ?_
  refine r_iushr C dJ6_bitCount_0f7a4_17 rfl ?_
  refine r_ldcw (v := 858993459) C dJ6_bitCount_0f7a4_18 kcJ6_266 ?_
  refine r_iand C dJ6_bitCount_0f7a4_21 rfl ?_
  refine r_iadd C dJ6_bitCount_0f7a4_22 rfl ?_
  show Jr _ _ _ _ _ _ 23 _
  refine r_lbI h (fun v2 h => ?_)
  refine r_istore_n (lv' := [(0, .int v2)]) C dJ6_bitCount_0f7a4_23 rfl (by rw [hn9]; decide) rfl ?_
  refine r_iload_n C dJ6_bitCount_0f7a4_24 rfl 0 rfl ?_
  refine r_iload_n C dJ6_bitCount_0f7a4_25 rfl 0 rfl ?_
  refine r_iconst (v := 4) C dJ6_bitCount_0f7a4_26 (by decide) ?_
  refine r_iushr C dJ6_bitCount_0f7a4_27 rfl ?_
  refine r_iadd C dJ6_bitCount_0f7a4_28 rfl ?_
  show Jr _ _ _ _ _ _ 29 _
  refine r_ldcw (v := 252645135) C dJ6_bitCount_0f7a4_29 kcJ6_267 ?_
  refine r_iand C dJ6_bitCount_0f7a4_32 rfl ?_
  refine r_lbI h (fun v3 h => ?_)
  refine r_istore_n (lv' := [(0, .int v3)]) C dJ6_bitCount_0f7a4_33 rfl (by rw [hn9]; decide) rfl ?_
  refine r_iload_n C dJ6_bitCount_0f7a4_34 rfl 0 rfl ?_
  refine r_iload_n C dJ6_bitCount_0f7a4_35 rfl 0 rfl ?_
  refine r_bipush (v := 8) C dJ6_bitCount_0f7a4_36 (by decide) ?_
  show Jr _ _ _ _ _ _ 38 _
  refine r_iushr C dJ6_bitCount_0f7a4_38 rfl ?_
  refine r_iadd C dJ6_bitCount_0f7a4_39 rfl ?_
  refine r_lbI h (fun v4 h => ?_)
  refine r_istore_n (lv' := [(0, .int v4)]) C dJ6_bitCount_0f7a4_40 rfl (by rw [hn9]; decide) rfl ?_
  refine r_iload_n C dJ6_bitCount_0f7a4_41 rfl 0 rfl ?_
  refine r_iload_n C dJ6_bitCount_0f7a4_42 rfl 0 rfl ?_
  refine r_bipush (v := 16) C dJ6_bitCount_0f7a4_43 (by decide) ?_
  show Jr _ _ _ _ _ _ 45 _
  refine r_iushr C dJ6_bitCount_0f7a4_45 rfl ?_
  refine r_iadd C dJ6_bitCount_0f7a4_46 rfl ?_
  refine r_lbI h (fun v5 h => ?_)
  refine r_istore_n (lv' := [(0, .int v5)]) C dJ6_bitCount_0f7a4_47 rfl (by rw [hn9]; decide) rfl ?_
  refine r_iload_n C dJ6_bitCount_0f7a4_48 rfl 0 rfl ?_
  refine r_bipush (v := 63) C dJ6_bitCount_0f7a4_49 (by decide) ?_
  refine r_iand C dJ6_bitCount_0f7a4_51 rfl ?_
  show Jr _ _ _ _ _ _ 52 _
  exact r_iret C M dJ6_bitCount_0f7a4_52 h
theorem dJ9_abs_0f7a4_0 : decode cJ9_abs_0f7a4 0 = .ok (.iload_n 0, 1) := by decide +kernel
theorem dJ9_abs_0f7a4_1 : decode cJ9_abs_0f7a4 1 = .ok (.ifCond .ge 8, 3) := by decide +kernel
theorem dJ9_abs_0f7a4_4 : decode cJ9_abs_0f7a4 4 = .ok (.iload_n 0, 1) := by decide +kernel
theorem dJ9_abs_0f7a4_5 : decode cJ9_abs_0f7a4 5 = .ok (.ineg, 1) := by decide +kernel
theorem dJ9_abs_0f7a4_6 : decode cJ9_abs_0f7a4 6 = .ok (.goto 4, 3) := by decide +kernel
theorem dJ9_abs_0f7a4_9 : decode cJ9_abs_0f7a4 9 = .ok (.iload_n 0, 1) := by decide +kernel
theorem dJ9_abs_0f7a4_10 : decode cJ9_abs_0f7a4 10 = .ok (.ireturn, 1) := by decide +kernel
noncomputable def f_J9_abs_0f7a4 (p0 : Int32) (T : Mm) : Option (Int32 × Mm) :=
  if 0 ≤ p0 then (some (p0, T))
  else (some ((-p0), T))
set_option maxRecDepth 100000 in
set_option maxHeartbeats 4000000 in
theorem s_J9_abs_0f7a4 {ad : Nat → Nat} {U T : Mm} {q : Int32 × Mm}  (p0 : Int32) (h : f_J9_abs_0f7a4 p0 T = some q) : Cr 1 yJ9_abs_0f7a4 cJ9_abs_0f7a4 1 (some .int) [.int p0] ad true U T eI q := by
  refine cr_ofF (by decide +kernel) (Nat.le_of_ble_eq_true rfl) fun x S0 hn9 C M => ?_
  have C : CB x RJ9 cJ9_abs_0f7a4 := C
  refine Jr.eq (lv' := [(0, .int p0)]) (st' := []) rfl rfl ?_
  unfold f_J9_abs_0f7a4 at h
  refine r_iload_n C dJ9_abs_0f7a4_0 rfl 0 rfl ?_
  refine r_if_ge (tgt := 9) C dJ9_abs_0f7a4_1 (by decide) h (fun h => ?_) (fun h => ?_)
  · refine r_iload_n C dJ9_abs_0f7a4_9 rfl 0 rfl ?_
    exact r_iret C M dJ9_abs_0f7a4_10 h
  · refine r_iload_n C dJ9_abs_0f7a4_4 rfl 0 rfl ?_
    refine r_ineg C dJ9_abs_0f7a4_5 rfl ?_
    refine r_goto (tgt := 10) C dJ9_abs_0f7a4_6 (by decide) ?_
    exact r_iret C M dJ9_abs_0f7a4_10 h
theorem dJ9_floorDiv_7cf53_0 : decode cJ9_floorDiv_7cf53 0 = .ok (.iload_n 0, 1) := by decide +kernel
theorem dJ9_floorDiv_7cf53_1 : decode cJ9_floorDiv_7cf53 1 = .ok (.iload_n 1, 1) := by decide +kernel
theorem dJ9_floorDiv_7cf53_2 : decode cJ9_floorDiv_7cf53 2 = .ok (.idiv, 1) := by decide +kernel
theorem dJ9_floorDiv_7cf53_3 : decode cJ9_floorDiv_7cf53 3 = .ok (.istore_n 2, 1) := by decide +kernel
theorem dJ9_floorDiv_7cf53_4 : decode cJ9_floorDiv_7cf53 4 = .ok (.iload_n 0, 1) := by decide +kernel
theorem dJ9_floorDiv_7cf53_5 : decode cJ9_floorDiv_7cf53 5 = .ok (.iload_n 1, 1) := by decide +kernel
theorem dJ9_floorDiv_7cf53_6 : decode cJ9_floorDiv_7cf53 6 = .ok (.ixor, 1) := by decide +kernel
theorem dJ9_floorDiv_7cf53_7 : decode cJ9_floorDiv_7cf53 7 = .ok (.ifCond .ge 14, 3) := by decide +kernel
theorem dJ9_floorDiv_7cf53_10 : decode cJ9_floorDiv_7cf53 10 = .ok (.iload_n 2, 1) := by decide +kernel
theorem dJ9_floorDiv_7cf53_11 : decode cJ9_floorDiv_7cf53 11 = .ok (.iload_n 1, 1) := by decide +kernel
theorem dJ9_floorDiv_7cf53_12 : decode cJ9_floorDiv_7cf53 12 = .ok (.imul, 1) := by decide +kernel
theorem dJ9_floorDiv_7cf53_13 : decode cJ9_floorDiv_7cf53 13 = .ok (.iload_n 0, 1) := by decide +kernel
theorem dJ9_floorDiv_7cf53_14 : decode cJ9_floorDiv_7cf53 14 = .ok (.if_icmp .eq 7, 3) := by decide +kernel
theorem dJ9_floorDiv_7cf53_17 : decode cJ9_floorDiv_7cf53 17 = .ok (.iload_n 2, 1) := by decide +kernel
theorem dJ9_floorDiv_7cf53_18 : decode cJ9_floorDiv_7cf53 18 = .ok (.iconst 1, 1) := by decide +kernel
theorem dJ9_floorDiv_7cf53_19 : decode cJ9_floorDiv_7cf53 19 = .ok (.isub, 1) := by decide +kernel
theorem dJ9_floorDiv_7cf53_20 : decode cJ9_floorDiv_7cf53 20 = .ok (.ireturn, 1) := by decide +kernel
theorem dJ9_floorDiv_7cf53_21 : decode cJ9_floorDiv_7cf53 21 = .ok (.iload_n 2, 1) := by decide +kernel
theorem dJ9_floorDiv_7cf53_22 : decode cJ9_floorDiv_7cf53 22 = .ok (.ireturn, 1) := by decide +kernel
noncomputable def f_J9_floorDiv_7cf53 (p0 : Int32) (p1 : Int32) (T : Mm) : Option (Int32 × Mm) :=
  gd (¬ p1 = 0) <|
  lb ((p0 / p1)) fun v2 =>
  if 0 ≤ (p0 ^^^ p1) then (some (v2, T))
  else (if (v2 * p1) = p0 then (some (v2, T))
  else (some ((v2 - 1), T)))
set_option maxRecDepth 100000 in
set_option maxHeartbeats 4000000 in
theorem s_J9_floorDiv_7cf53 {ad : Nat → Nat} {U T : Mm} {q : Int32 × Mm}  (p0 : Int32) (p1 : Int32) (h : f_J9_floorDiv_7cf53 p0 p1 T = some q) : Cr 1 yJ9_floorDiv_7cf53 cJ9_floorDiv_7cf53 3 (some .int) [.int p0, .int p1] ad true U T eI q := by
  refine cr_ofF (by decide +kernel) (Nat.le_of_ble_eq_true rfl) fun x S0 hn9 C M => ?_
  have C : CB x RJ9 cJ9_floorDiv_7cf53 := C
  refine Jr.eq (lv' := [(0, .int p0), (1, .int p1)]) (st' := []) rfl rfl ?_
  unfold f_J9_floorDiv_7cf53 at h
  refine r_iload_n C dJ9_floorDiv_7cf53_0 rfl 0 rfl ?_
  refine r_iload_n C dJ9_floorDiv_7cf53_1 rfl 1 rfl ?_
  refine r_gd h (fun hz1 h => ?_)
  refine r_idiv C dJ9_floorDiv_7cf53_2 hz1 rfl ?_
  refine r_lbI h (fun v2 h => ?_)
  refine r_istore_n (lv' := [(2, .int v2), (0, .int p0), (1, .int p1)]) C dJ9_floorDiv_7cf53_3 rfl (by rw [hn9]; decide) rfl ?_
  refine r_iload_n C dJ9_floorDiv_7cf53_4 rfl 1 rfl ?_
  show Jr _ _ _ _ _ _ 5 _
  refine r_iload_n C dJ9_floorDiv_7cf53_5 rfl 2 rfl ?_
  refine r_ixor C dJ9_floorDiv_7cf53_6 rfl ?_
  refine r_if_ge (tgt := 21) C dJ9_floorDiv_7cf53_7 (by decide) h (fun h => ?_) (fun h => ?_)
  · refine r_iload_n C dJ9_floorDiv_7cf53_21 rfl 0 rfl ?_
    exact r_iret C M dJ9_floorDiv_7cf53_22 h
  · refine r_iload_n C dJ9_floorDiv_7cf53_10 rfl 0 rfl ?_
    refine r_iload_n C dJ9_floorDiv_7cf53_11 rfl 2 rfl ?_
    refine r_imul C dJ9_floorDiv_7cf53_12 rfl ?_
    refine r_iload_n C dJ9_floorDiv_7cf53_13 rfl 1 rfl ?_
    refine r_ic_eq (tgt := 21) C dJ9_floorDiv_7cf53_14 (by decide) h (fun h => ?_) (fun h => ?_)
    · refine r_iload_n C dJ9_floorDiv_7cf53_21 rfl 0 rfl ?_
      exact r_iret C M dJ9_floorDiv_7cf53_22 h
    · refine r_iload_n C dJ9_floorDiv_7cf53_17 rfl 0 rfl ?_
      refine r_iconst (v := 1) C dJ9_floorDiv_7cf53_18 (by decide) ?_
      refine r_isub C dJ9_floorDiv_7cf53_19 rfl ?_
      exact r_iret C M dJ9_floorDiv_7cf53_20 h
noncomputable def f_J9_floorMod_7cf53 (p0 : Int32) (p1 : Int32) (T : Mm) : Option (Int32 × Mm) :=
  gd (¬ p1 = 0) <|
  lb ((p0 - p0 / p1 * p1)) fun v2 =>
  if 0 ≤ (p0 ^^^ p1) then (some (v2, T))
  else (if v2 = 0 then (some (v2, T))
  else (some ((v2 + p1), T)))
set_option maxRecDepth 100000 in
set_option maxHeartbeats 4000000 in
theorem s_J9_floorMod_7cf53 {ad : Nat → Nat} {U T : Mm} {q : Int32 × Mm}  (p0 : Int32) (p1 : Int32) (h : f_J9_floorMod_7cf53 p0 p1 T = some q) : Cr 1 yJ9_floorMod_7cf53 cJ9_floorMod_7cf53 3 (some .int) [.int p0, .int p1] ad true U T eI q := by
  refine cr_ofF (by decide +kernel) (Nat.le_of_ble_eq_true rfl) fun x S0 hn9 C M => ?_
  have C : CB x RJ9 cJ9_floorMod_7cf53 := C
  refine Jr.eq (lv' := [(0, .int p0), (1, .int p1)]) (st' := []) rfl rfl ?_
  unfold f_J9_floorMod_7cf53 at h
  refine r_iload_n C dJ9_floorMod_7cf53_0 rfl 0 rfl ?_
  refine r_iload_n C dJ9_floorMod_7cf53_1 rfl 1 rfl ?_
  refine r_gd h (fun hz1 h => ?_)
  refine r_irem C dJ9_floorMod_7cf53_2 hz1 rfl ?_
  refine r_lbI h (fun v2 h => ?_)
  refine r_istore_n (lv' := [(2, .int v2), (0, .int p0), (1, .int p1)]) C dJ9_floorMod_7cf53_3 rfl (by rw [hn9]; decide) rfl ?_
  refine r_iload_n C dJ9_floorMod_7cf53_4 rfl 1 rfl ?_
  show Jr _ _ _ _ _ _ 5 _
  refine r_iload_n C dJ9_floorMod_7cf53_5 rfl 2 rfl ?_
  refine r_ixor C dJ9_floorMod_7cf53_6 rfl ?_
  refine r_if_ge (tgt := 18) C dJ9_floorMod_7cf53_7 (by decide) h (fun h => ?_) (fun h => ?_)
  · refine r_iload_n C dJ9_floorMod_7cf53_18 rfl 0 rfl ?_
    exact r_iret C M dJ9_floorMod_7cf53_19 h
  · refine r_iload_n C dJ9_floorMod_7cf53_10 rfl 0 rfl ?_
    refine r_if_eq (tgt := 18) C dJ9_floorMod_7cf53_11 (by decide) h (fun h => ?_) (fun h => ?_)
    · refine r_iload_n C dJ9_floorMod_7cf53_18 rfl 0 rfl ?_
      exact r_iret C M dJ9_floorMod_7cf53_19 h
    · refine r_iload_n C dJ9_floorMod_7cf53_14 rfl 0 rfl ?_
      refine r_iload_n C dJ9_floorMod_7cf53_15 rfl 2 rfl ?_
      refine r_iadd C dJ9_floorMod_7cf53_16 rfl ?_
      exact r_iret C M dJ9_floorMod_7cf53_17 h
