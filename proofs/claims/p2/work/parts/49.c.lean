theorem dX3_invert_0 : decode cX3_invert 0 = .ok (.iconst 0, 1) := by decide +kernel
theorem dX3_invert_1 : decode cX3_invert 1 = .ok (.istore_n 2, 1) := by decide +kernel
theorem dX3_invert_2 : decode cX3_invert 2 = .ok (.iload_n 2, 1) := by decide +kernel
theorem dX3_invert_3 : decode cX3_invert 3 = .ok (.i2l, 1) := by decide +kernel
theorem dX3_invert_4 : decode cX3_invert 4 = .ok (.aload_n 0, 1) := by decide +kernel
theorem dX3_invert_5 : decode cX3_invert 5 = .ok (.getfield 109, 3) := by decide +kernel
theorem dX3_invert_8 : decode cX3_invert 8 = .ok (.lcmp, 1) := by decide +kernel
theorem dX3_invert_9 : decode cX3_invert 9 = .ok (.ifCond .ge 62, 3) := by decide +kernel
theorem dX3_invert_12 : decode cX3_invert 12 = .ok (.iload_n 2, 1) := by decide +kernel
theorem dX3_invert_13 : decode cX3_invert 13 = .ok (.sipush 800, 3) := by decide +kernel
theorem dX3_invert_16 : decode cX3_invert 16 = .ok (.if_icmp .ge 55, 3) := by decide +kernel
theorem dX3_invert_19 : decode cX3_invert 19 = .ok (.iconst 0, 1) := by decide +kernel
theorem dX3_invert_20 : decode cX3_invert 20 = .ok (.istore_n 3, 1) := by decide +kernel
theorem dX3_invert_21 : decode cX3_invert 21 = .ok (.iload_n 3, 1) := by decide +kernel
theorem dX3_invert_22 : decode cX3_invert 22 = .ok (.bipush 20, 2) := by decide +kernel
theorem dX3_invert_24 : decode cX3_invert 24 = .ok (.if_icmp .ge 41, 3) := by decide +kernel
theorem dX3_invert_27 : decode cX3_invert 27 = .ok (.iload_n 2, 1) := by decide +kernel
theorem dX3_invert_28 : decode cX3_invert 28 = .ok (.bipush 20, 2) := by decide +kernel
theorem dX3_invert_30 : decode cX3_invert 30 = .ok (.imul, 1) := by decide +kernel
theorem dX3_invert_31 : decode cX3_invert 31 = .ok (.iload_n 3, 1) := by decide +kernel
theorem dX3_invert_32 : decode cX3_invert 32 = .ok (.iadd, 1) := by decide +kernel
theorem dX3_invert_33 : decode cX3_invert 33 = .ok (.istore 4, 2) := by decide +kernel
theorem dX3_invert_35 : decode cX3_invert 35 = .ok (.iload 4, 2) := by decide +kernel
theorem dX3_invert_37 : decode cX3_invert 37 = .ok (.aload_n 1, 1) := by decide +kernel
theorem dX3_invert_38 : decode cX3_invert 38 = .ok (.arraylength, 1) := by decide +kernel
theorem dX3_invert_39 : decode cX3_invert 39 = .ok (.if_icmp .ge 20, 3) := by decide +kernel
theorem dX3_invert_42 : decode cX3_invert 42 = .ok (.aload_n 1, 1) := by decide +kernel
theorem dX3_invert_43 : decode cX3_invert 43 = .ok (.iload 4, 2) := by decide +kernel
theorem dX3_invert_45 : decode cX3_invert 45 = .ok (.dup2, 1) := by decide +kernel
theorem dX3_invert_46 : decode cX3_invert 46 = .ok (.iaload, 1) := by decide +kernel
theorem dX3_invert_47 : decode cX3_invert 47 = .ok (.iload_n 3, 1) := by decide +kernel
theorem dX3_invert_48 : decode cX3_invert 48 = .ok (.iconst 0, 1) := by decide +kernel
theorem dX3_invert_49 : decode cX3_invert 49 = .ok (.aload_n 0, 1) := by decide +kernel
theorem dX3_invert_50 : decode cX3_invert 50 = .ok (.getfield 105, 3) := by decide +kernel
theorem dX3_invert_53 : decode cX3_invert 53 = .ok (.l2i, 1) := by decide +kernel
theorem dX3_invert_54 : decode cX3_invert 54 = .ok (.invokestatic 194, 3) := by decide +kernel
theorem dX3_invert_57 : decode cX3_invert 57 = .ok (.ixor, 1) := by decide +kernel
theorem dX3_invert_58 : decode cX3_invert 58 = .ok (.iastore, 1) := by decide +kernel
theorem dX3_invert_59 : decode cX3_invert 59 = .ok (.iinc 3 1, 3) := by decide +kernel
theorem dX3_invert_62 : decode cX3_invert 62 = .ok (.goto (-41), 3) := by decide +kernel
theorem dX3_invert_65 : decode cX3_invert 65 = .ok (.iinc 2 1, 3) := by decide +kernel
theorem dX3_invert_68 : decode cX3_invert 68 = .ok (.goto (-66), 3) := by decide +kernel
theorem dX3_invert_71 : decode cX3_invert 71 = .ok (.return_, 1) := by decide +kernel
noncomputable def f_X3_invert_b21 (k2 : Nat → Int32 → Mm → Option (Unit × Mm)) (k21 : Nat → Int32 → Int32 → Mm → Option (Unit × Mm)) (a1 : Nat) (a2 : Int32) (a3 : Int32) (T : Mm) : Option (Unit × Mm) :=
  if 20 ≤ a3 then (k2 a1 (a2 + 1) T)
  else (lb (((a2 * 20) + a3)) fun v1 =>
  if (Int32.ofNat (LN a1)) ≤ v1 then (k21 a1 a2 (a3 + 1) T)
  else (ix v1 (LN a1) fun j2 =>
  bd (f_X11_maskOf a3 0 (((gJ T 309 129)).toInt32) T) fun v4 T5 =>
  ix v1 (LN a1) fun j6 => lb (uA T5 a1 j6 (((gA T a1 j2) ^^^ v4))) fun T8 =>
  k21 a1 a2 (a3 + 1) T8))
set_option maxRecDepth 100000 in
set_option maxHeartbeats 4000000 in
theorem s_X3_invert_b21 {x : JX} {ad : Nat → Nat} {U : Mm} {S0 : Hp} {q : Unit × Mm}  {k2 : Nat → Int32 → Mm → Option (Unit × Mm)} {k21 : Nat → Int32 → Int32 → Mm → Option (Unit × Mm)} (hn9 : x_n x = 5) (C : CB x RX3 cX3_invert) (M : CMr x 3 none S0 ad true U eV q) (hk2 : ∀ (a1 : Nat) (a2 : Int32) (T : Mm) (_ : kS true a1 = 14), k2 a1 a2 T = some q → Jr x ad true U T [(0, .ref (ad 129)), (1, .ref (ad a1)), (2, .int a2)] 2 []) (hk21 : ∀ (a1 : Nat) (a2 : Int32) (a3 : Int32) (T : Mm) (_ : kS true a1 = 14), k21 a1 a2 a3 T = some q → Jr x ad true U T [(0, .ref (ad 129)), (1, .ref (ad a1)), (2, .int a2), (3, .int a3)] 21 []) (a1 : Nat) (a2 : Int32) (a3 : Int32) (T : Mm) (ha1 : kS true a1 = 14) (h : f_X3_invert_b21 k2 k21 a1 a2 a3 T = some q) : Jr x ad true U T [(0, .ref (ad 129)), (1, .ref (ad a1)), (2, .int a2), (3, .int a3)] 21 [] := by
  unfold f_X3_invert_b21 at h
  refine r_iload_n C dX3_invert_21 rfl 3 rfl ?_
  refine r_bipush (v := 20) C dX3_invert_22 (by decide) ?_
  refine r_ic_ge (tgt := 65) C dX3_invert_24 (by decide) h (fun h => ?_) (fun h => ?_)
  · refine r_iinc (q := 2) (v := (a2 + 1)) (lv' := [(2, .int (a2 + 1)), (0, .ref (ad 129)), (1, .ref (ad a1)), (3, .int a3)]) C dX3_invert_65 rfl (by rw [show Int32.ofInt (1) = 1 by decide]) (by rw [hn9]; decide) rfl ?_
    refine r_goto (tgt := 2) C dX3_invert_68 (by decide) ?_
    refine Jr.sub [1, 2, 0] (lv' := [(0, .ref (ad 129)), (1, .ref (ad a1)), (2, .int (a2 + 1))]) rfl ?_
    exact hk2 a1 (a2 + 1) T ha1 h
  · refine r_iload_n C dX3_invert_27 rfl 2 rfl ?_
    refine r_bipush (v := 20) C dX3_invert_28 (by decide) ?_
    refine r_imul C dX3_invert_30 rfl ?_
    refine r_iload_n C dX3_invert_31 rfl 3 rfl ?_
    refine r_iadd C dX3_invert_32 rfl ?_
    show Jr _ _ _ _ _ _ 33 _
    refine r_lbI h (fun v1 h => ?_)
    refine r_istore (lv' := [(4, .int v1), (0, .ref (ad 129)), (1, .ref (ad a1)), (2, .int a2), (3, .int a3)]) C dX3_invert_33 (by rw [hn9]; decide) rfl ?_
    refine r_iload C dX3_invert_35 0 rfl ?_
    refine r_aload_n C dX3_invert_37 rfl 2 rfl ?_
    refine r_alen (n := 0) C dX3_invert_38 ha1 (by decide) (by decide) rfl ?_
    refine r_ic_ge (tgt := 59) C dX3_invert_39 (by decide) h (fun h => ?_) (fun h => ?_)
    · refine r_iinc (q := 4) (v := (a3 + 1)) (lv' := [(3, .int (a3 + 1)), (4, .int v1), (0, .ref (ad 129)), (1, .ref (ad a1)), (2, .int a2)]) C dX3_invert_59 rfl (by rw [show Int32.ofInt (1) = 1 by decide]) (by rw [hn9]; decide) rfl ?_
      refine r_goto (tgt := 21) C dX3_invert_62 (by decide) ?_
      refine Jr.sub [2, 3, 4, 0] (lv' := [(0, .ref (ad 129)), (1, .ref (ad a1)), (2, .int a2), (3, .int (a3 + 1))]) rfl ?_
      exact hk21 a1 a2 (a3 + 1) T ha1 h
    · refine r_aload_n C dX3_invert_42 rfl 2 rfl ?_
      refine r_iload C dX3_invert_43 0 rfl ?_
      refine r_dup2 C dX3_invert_45 rfl rfl ?_
      refine r_iald (n := (LN a1)) C dX3_invert_46 ha1 rfl h (fun j2 hj3 h => ?_)
      refine r_iload_n C dX3_invert_47 rfl 4 rfl ?_
      show Jr _ _ _ _ _ _ 48 _
      refine r_iconst (v := 0) C dX3_invert_48 (by decide) ?_
      refine r_aload_n C dX3_invert_49 rfl 1 rfl ?_
      refine r_getl (f := 309) C flX3_105 dX3_invert_50 kq_129 (by decide) rfl ?_
      refine r_l2i C dX3_invert_53 rfl ?_
      refine r_callSI C M h [.int a3, .int 0, .int (((gJ T 309 129)).toInt32)] [.int (gA T a1 j2), .int v1, .ref (ad a1)] mlX3_194 mcX11_maskOf (fun q9 e9 => s_X11_maskOf a3 0 (((gJ T 309 129)).toInt32)  e9) (by decide) (by decide) rfl rfl (Nat.le_of_ble_eq_true rfl) dX3_invert_54 (fun v4 T5 h => ?_)
      refine r_ixor C dX3_invert_57 rfl ?_
      show Jr _ _ _ _ _ _ 58 _
      refine r_iast (n := (LN a1)) C dX3_invert_58 ha1 rfl h (fun j6 T8 hj7 h => ?_)
      refine r_iinc (q := 4) (v := (a3 + 1)) (lv' := [(3, .int (a3 + 1)), (4, .int v1), (0, .ref (ad 129)), (1, .ref (ad a1)), (2, .int a2)]) C dX3_invert_59 rfl (by rw [show Int32.ofInt (1) = 1 by decide]) (by rw [hn9]; decide) rfl ?_
      refine r_goto (tgt := 21) C dX3_invert_62 (by decide) ?_
      refine Jr.sub [2, 3, 4, 0] (lv' := [(0, .ref (ad 129)), (1, .ref (ad a1)), (2, .int a2), (3, .int (a3 + 1))]) rfl ?_
      exact hk21 a1 a2 (a3 + 1) T8 ha1 h
noncomputable def f_X3_invert_l21 (k2 : Nat → Int32 → Mm → Option (Unit × Mm)) (n : Nat) : Nat → Int32 → Int32 → Mm → Option (Unit × Mm) := Nat.rec (fun _ _ _ _ => none) (fun _ ih => f_X3_invert_b21 k2 ih) n
theorem s_X3_invert_l21 {x : JX} {ad : Nat → Nat} {U : Mm} {S0 : Hp} {q : Unit × Mm}  {k2 : Nat → Int32 → Mm → Option (Unit × Mm)} (hn9 : x_n x = 5) (C : CB x RX3 cX3_invert) (M : CMr x 3 none S0 ad true U eV q) (hk2 : ∀ (a1 : Nat) (a2 : Int32) (T : Mm) (_ : kS true a1 = 14), k2 a1 a2 T = some q → Jr x ad true U T [(0, .ref (ad 129)), (1, .ref (ad a1)), (2, .int a2)] 2 []) : ∀ (n : Nat), ∀ (a1 : Nat) (a2 : Int32) (a3 : Int32) (T : Mm) (_ : kS true a1 = 14), f_X3_invert_l21 k2 n a1 a2 a3 T = some q → Jr x ad true U T [(0, .ref (ad 129)), (1, .ref (ad a1)), (2, .int a2), (3, .int a3)] 21 [] := by
  intro n
  induction n with
  | zero => intro a1 a2 a3 T _ h; exact absurd h (by intro h; cases h)
  | succ n ih => exact fun a1 a2 a3 T ha1 h => s_X3_invert_b21 hn9 C M hk2 (ih) a1 a2 a3 T ha1 h
noncomputable def f_X3_invert_b2 (k2 : Nat → Int32 → Mm → Option (Unit × Mm)) (a1 : Nat) (a2 : Int32) (T : Mm) : Option (Unit × Mm) :=
  if 0 ≤ (lg_cmp ((a2).toInt64) (gJ T 310 129)) then (some ((), T))
  else (if 800 ≤ a2 then (some ((), T))
  else (f_X3_invert_l21 k2 FU a1 a2 0 T))
set_option maxRecDepth 100000 in
set_option maxHeartbeats 4000000 in
theorem s_X3_invert_b2 {x : JX} {ad : Nat → Nat} {U : Mm} {S0 : Hp} {q : Unit × Mm}  {k2 : Nat → Int32 → Mm → Option (Unit × Mm)} (hn9 : x_n x = 5) (C : CB x RX3 cX3_invert) (M : CMr x 3 none S0 ad true U eV q) (hk2 : ∀ (a1 : Nat) (a2 : Int32) (T : Mm) (_ : kS true a1 = 14), k2 a1 a2 T = some q → Jr x ad true U T [(0, .ref (ad 129)), (1, .ref (ad a1)), (2, .int a2)] 2 []) (a1 : Nat) (a2 : Int32) (T : Mm) (ha1 : kS true a1 = 14) (h : f_X3_invert_b2 k2 a1 a2 T = some q) : Jr x ad true U T [(0, .ref (ad 129)), (1, .ref (ad a1)), (2, .int a2)] 2 [] := by
  unfold f_X3_invert_b2 at h
  refine r_iload_n C dX3_invert_2 rfl 2 rfl ?_
  refine r_i2l C dX3_invert_3 rfl ?_
  refine r_aload_n C dX3_invert_4 rfl 0 rfl ?_
  refine r_getl (f := 310) C flX3_109 dX3_invert_5 kq_129 (by decide) rfl ?_
  refine r_lcmp C dX3_invert_8 ?_
  show Jr _ _ _ _ _ _ 9 _
  refine r_if_ge (tgt := 71) C dX3_invert_9 (by decide) h (fun h => ?_) (fun h => ?_)
  · exact r_vret C M dX3_invert_71 h
  · refine r_iload_n C dX3_invert_12 rfl 2 rfl ?_
    refine r_sipush (v := 800) C dX3_invert_13 (by decide) ?_
    refine r_ic_ge (tgt := 71) C dX3_invert_16 (by decide) h (fun h => ?_) (fun h => ?_)
    · exact r_vret C M dX3_invert_71 h
    · refine r_iconst (v := 0) C dX3_invert_19 (by decide) ?_
      refine r_istore_n (lv' := [(3, .int 0), (0, .ref (ad 129)), (1, .ref (ad a1)), (2, .int a2)]) C dX3_invert_20 rfl (by rw [hn9]; decide) rfl ?_
      refine Jr.sub [1, 2, 3, 0] (lv' := [(0, .ref (ad 129)), (1, .ref (ad a1)), (2, .int a2), (3, .int 0)]) rfl ?_
      exact s_X3_invert_l21 hn9 C M hk2 FU a1 a2 0 T ha1 h
noncomputable def f_X3_invert_l2 (n : Nat) : Nat → Int32 → Mm → Option (Unit × Mm) := Nat.rec (fun _ _ _ => none) (fun _ ih => f_X3_invert_b2 ih) n
theorem s_X3_invert_l2 {x : JX} {ad : Nat → Nat} {U : Mm} {S0 : Hp} {q : Unit × Mm}  (hn9 : x_n x = 5) (C : CB x RX3 cX3_invert) (M : CMr x 3 none S0 ad true U eV q) : ∀ (n : Nat), ∀ (a1 : Nat) (a2 : Int32) (T : Mm) (_ : kS true a1 = 14), f_X3_invert_l2  n a1 a2 T = some q → Jr x ad true U T [(0, .ref (ad 129)), (1, .ref (ad a1)), (2, .int a2)] 2 [] := by
  intro n
  induction n with
  | zero => intro a1 a2 T _ h; exact absurd h (by intro h; cases h)
  | succ n ih => exact fun a1 a2 T ha1 h => s_X3_invert_b2 hn9 C M (ih) a1 a2 T ha1 h
noncomputable def f_X3_invert (p1 : Nat) (T : Mm) : Option (Unit × Mm) :=
  f_X3_invert_l2 FU p1 0 T
set_option maxRecDepth 100000 in
set_option maxHeartbeats 4000000 in
theorem s_X3_invert {ad : Nat → Nat} {U T : Mm} {q : Unit × Mm}  (p1 : Nat) (hk1 : kS true p1 = 14) (h : f_X3_invert p1 T = some q) : Cr 3 yX3_invert cX3_invert 5 none [.ref (ad 129), .ref (ad p1)] ad true U T eV q := by
  refine cr_of (by decide) (Nat.le_of_ble_eq_true rfl) fun x S0 hn9 C M => ?_
  have C : CB x RX3 cX3_invert := C
  refine Jr.eq (lv' := [(0, .ref (ad 129)), (1, .ref (ad p1))]) (st' := []) rfl rfl ?_
  unfold f_X3_invert at h
  refine r_iconst (v := 0) C dX3_invert_0 (by decide) ?_
  refine r_istore_n (lv' := [(2, .int 0), (0, .ref (ad 129)), (1, .ref (ad p1))]) C dX3_invert_1 rfl (by rw [hn9]; decide) rfl ?_
  refine Jr.sub [1, 2, 0] (lv' := [(0, .ref (ad 129)), (1, .ref (ad p1)), (2, .int 0)]) rfl ?_
  exact s_X3_invert_l2 hn9 C M  FU p1 0 T hk1 h
theorem dX3_readStrips_0 : decode cX3_readStrips 0 = .ok (.aload_n 0, 1) := by decide +kernel
theorem dX3_readStrips_1 : decode cX3_readStrips 1 = .ok (.getfield 26, 3) := by decide +kernel
theorem dX3_readStrips_4 : decode cX3_readStrips 4 = .ok (.invokevirtual 170, 3) := by decide +kernel
theorem dX3_readStrips_7 : decode cX3_readStrips 7 = .ok (.astore_n 1, 1) := by decide +kernel
theorem dX3_readStrips_8 : decode cX3_readStrips 8 = .ok (.aload_n 1, 1) := by decide +kernel
theorem dX3_readStrips_9 : decode cX3_readStrips 9 = .ok (.iconst 0, 1) := by decide +kernel
theorem dX3_readStrips_10 : decode cX3_readStrips 10 = .ok (.invokestatic 174, 3) := by decide +kernel
theorem dX3_readStrips_13 : decode cX3_readStrips 13 = .ok (.iconst 0, 1) := by decide +kernel
theorem dX3_readStrips_14 : decode cX3_readStrips 14 = .ok (.istore_n 2, 1) := by decide +kernel
theorem dX3_readStrips_15 : decode cX3_readStrips 15 = .ok (.iconst 0, 1) := by decide +kernel
theorem dX3_readStrips_16 : decode cX3_readStrips 16 = .ok (.istore_n 3, 1) := by decide +kernel
theorem dX3_readStrips_17 : decode cX3_readStrips 17 = .ok (.iload_n 3, 1) := by decide +kernel
theorem dX3_readStrips_18 : decode cX3_readStrips 18 = .ok (.bipush 40, 2) := by decide +kernel
theorem dX3_readStrips_20 : decode cX3_readStrips 20 = .ok (.if_icmp .ge 174, 3) := by decide +kernel
theorem dX3_readStrips_23 : decode cX3_readStrips 23 = .ok (.iload_n 3, 1) := by decide +kernel
theorem dX3_readStrips_24 : decode cX3_readStrips 24 = .ok (.i2l, 1) := by decide +kernel
theorem dX3_readStrips_25 : decode cX3_readStrips 25 = .ok (.aload_n 0, 1) := by decide +kernel
theorem dX3_readStrips_26 : decode cX3_readStrips 26 = .ok (.invokevirtual 164, 3) := by decide +kernel
theorem dX3_readStrips_29 : decode cX3_readStrips 29 = .ok (.lcmp, 1) := by decide +kernel
theorem dX3_readStrips_30 : decode cX3_readStrips 30 = .ok (.ifCond .ge 164, 3) := by decide +kernel
theorem dX3_readStrips_33 : decode cX3_readStrips 33 = .ok (.aload_n 0, 1) := by decide +kernel
theorem dX3_readStrips_34 : decode cX3_readStrips 34 = .ok (.getfield 44, 3) := by decide +kernel
theorem dX3_readStrips_37 : decode cX3_readStrips 37 = .ok (.ifCond .ne 157, 3) := by decide +kernel
theorem dX3_readStrips_40 : decode cX3_readStrips 40 = .ok (.aload_n 0, 1) := by decide +kernel
theorem dX3_readStrips_41 : decode cX3_readStrips 41 = .ok (.aload_n 0, 1) := by decide +kernel
theorem dX3_readStrips_42 : decode cX3_readStrips 42 = .ok (.getfield 135, 3) := by decide +kernel
theorem dX3_readStrips_45 : decode cX3_readStrips 45 = .ok (.iload_n 3, 1) := by decide +kernel
theorem dX3_readStrips_46 : decode cX3_readStrips 46 = .ok (.invokevirtual 180, 3) := by decide +kernel
theorem dX3_readStrips_49 : decode cX3_readStrips 49 = .ok (.lstore 4, 2) := by decide +kernel
theorem dX3_readStrips_51 : decode cX3_readStrips 51 = .ok (.aload_n 0, 1) := by decide +kernel
theorem dX3_readStrips_52 : decode cX3_readStrips 52 = .ok (.aload_n 0, 1) := by decide +kernel
theorem dX3_readStrips_53 : decode cX3_readStrips 53 = .ok (.getfield 138, 3) := by decide +kernel
theorem dX3_readStrips_56 : decode cX3_readStrips 56 = .ok (.iload_n 3, 1) := by decide +kernel
theorem dX3_readStrips_57 : decode cX3_readStrips 57 = .ok (.invokevirtual 180, 3) := by decide +kernel
theorem dX3_readStrips_60 : decode cX3_readStrips 60 = .ok (.lstore 6, 2) := by decide +kernel
theorem dX3_readStrips_62 : decode cX3_readStrips 62 = .ok (.iload_n 2, 1) := by decide +kernel
theorem dX3_readStrips_63 : decode cX3_readStrips 63 = .ok (.i2l, 1) := by decide +kernel
theorem dX3_readStrips_64 : decode cX3_readStrips 64 = .ok (.aload_n 0, 1) := by decide +kernel
theorem dX3_readStrips_65 : decode cX3_readStrips 65 = .ok (.getfield 132, 3) := by decide +kernel
theorem dX3_readStrips_68 : decode cX3_readStrips 68 = .ok (.ladd, 1) := by decide +kernel
theorem dX3_readStrips_69 : decode cX3_readStrips 69 = .ok (.aload_n 0, 1) := by decide +kernel
theorem dX3_readStrips_70 : decode cX3_readStrips 70 = .ok (.getfield 109, 3) := by decide +kernel
theorem dX3_readStrips_73 : decode cX3_readStrips 73 = .ok (.invokestatic 66, 3) := by decide +kernel
theorem dX3_readStrips_76 : decode cX3_readStrips 76 = .ok (.l2i, 1) := by decide +kernel
theorem dX3_readStrips_77 : decode cX3_readStrips 77 = .ok (.istore 8, 2) := by decide +kernel
theorem dX3_readStrips_79 : decode cX3_readStrips 79 = .ok (.lload 4, 2) := by decide +kernel
theorem dX3_readStrips_81 : decode cX3_readStrips 81 = .ok (.lload 6, 2) := by decide +kernel
theorem dX3_readStrips_83 : decode cX3_readStrips 83 = .ok (.ladd, 1) := by decide +kernel
theorem dX3_readStrips_84 : decode cX3_readStrips 84 = .ok (.aload_n 0, 1) := by decide +kernel
theorem dX3_readStrips_85 : decode cX3_readStrips 85 = .ok (.getfield 41, 3) := by decide +kernel
theorem dX3_readStrips_88 : decode cX3_readStrips 88 = .ok (.i2l, 1) := by decide +kernel
theorem dX3_readStrips_89 : decode cX3_readStrips 89 = .ok (.lcmp, 1) := by decide +kernel
theorem dX3_readStrips_90 : decode cX3_readStrips 90 = .ok (.ifCond .gt 7, 3) := by decide +kernel
theorem dX3_readStrips_93 : decode cX3_readStrips 93 = .ok (.iconst 1, 1) := by decide +kernel
theorem dX3_readStrips_94 : decode cX3_readStrips 94 = .ok (.goto 4, 3) := by decide +kernel
theorem dX3_readStrips_97 : decode cX3_readStrips 97 = .ok (.iconst 0, 1) := by decide +kernel
theorem dX3_readStrips_98 : decode cX3_readStrips 98 = .ok (.istore 9, 2) := by decide +kernel
theorem dX3_readStrips_100 : decode cX3_readStrips 100 = .ok (.iload 9, 2) := by decide +kernel
theorem dX3_readStrips_102 : decode cX3_readStrips 102 = .ok (.ifCond .eq 13, 3) := by decide +kernel
theorem dX3_readStrips_105 : decode cX3_readStrips 105 = .ok (.aload_n 0, 1) := by decide +kernel
theorem dX3_readStrips_106 : decode cX3_readStrips 106 = .ok (.lload 4, 2) := by decide +kernel
theorem dX3_readStrips_108 : decode cX3_readStrips 108 = .ok (.l2i, 1) := by decide +kernel
theorem dX3_readStrips_109 : decode cX3_readStrips 109 = .ok (.lload 6, 2) := by decide +kernel
theorem dX3_readStrips_111 : decode cX3_readStrips 111 = .ok (.l2i, 1) := by decide +kernel
theorem dX3_readStrips_112 : decode cX3_readStrips 112 = .ok (.invokevirtual 183, 3) := by decide +kernel
theorem dX3_readStrips_115 : decode cX3_readStrips 115 = .ok (.iload_n 2, 1) := by decide +kernel
theorem dX3_readStrips_116 : decode cX3_readStrips 116 = .ok (.istore 10, 2) := by decide +kernel
theorem dX3_readStrips_118 : decode cX3_readStrips 118 = .ok (.iload 9, 2) := by decide +kernel
theorem dX3_readStrips_120 : decode cX3_readStrips 120 = .ok (.ifCond .eq 53, 3) := by decide +kernel
theorem dX3_readStrips_123 : decode cX3_readStrips 123 = .ok (.iload 10, 2) := by decide +kernel
theorem dX3_readStrips_125 : decode cX3_readStrips 125 = .ok (.iload 8, 2) := by decide +kernel
theorem dX3_readStrips_127 : decode cX3_readStrips 127 = .ok (.if_icmp .ge 46, 3) := by decide +kernel
theorem dX3_readStrips_130 : decode cX3_readStrips 130 = .ok (.iload 10, 2) := by decide +kernel
theorem dX3_readStrips_132 : decode cX3_readStrips 132 = .ok (.sipush 800, 3) := by decide +kernel
theorem dX3_readStrips_135 : decode cX3_readStrips 135 = .ok (.if_icmp .ge 38, 3) := by decide +kernel
theorem dX3_readStrips_138 : decode cX3_readStrips 138 = .ok (.aload_n 0, 1) := by decide +kernel
theorem dX3_readStrips_139 : decode cX3_readStrips 139 = .ok (.aload_n 1, 1) := by decide +kernel
theorem dX3_readStrips_140 : decode cX3_readStrips 140 = .ok (.iload 10, 2) := by decide +kernel
theorem dX3_readStrips_142 : decode cX3_readStrips 142 = .ok (.bipush 20, 2) := by decide +kernel
theorem dX3_readStrips_144 : decode cX3_readStrips 144 = .ok (.imul, 1) := by decide +kernel
theorem dX3_readStrips_145 : decode cX3_readStrips 145 = .ok (.iload 10, 2) := by decide +kernel
theorem dX3_readStrips_147 : decode cX3_readStrips 147 = .ok (.iload_n 2, 1) := by decide +kernel
theorem dX3_readStrips_148 : decode cX3_readStrips 148 = .ok (.if_icmp .ne 7, 3) := by decide +kernel
theorem dX3_readStrips_151 : decode cX3_readStrips 151 = .ok (.iconst (-1), 1) := by decide +kernel
theorem dX3_readStrips_152 : decode cX3_readStrips 152 = .ok (.goto 10, 3) := by decide +kernel
theorem dX3_readStrips_155 : decode cX3_readStrips 155 = .ok (.iload 10, 2) := by decide +kernel
theorem dX3_readStrips_157 : decode cX3_readStrips 157 = .ok (.iconst 1, 1) := by decide +kernel
theorem dX3_readStrips_158 : decode cX3_readStrips 158 = .ok (.isub, 1) := by decide +kernel
theorem dX3_readStrips_159 : decode cX3_readStrips 159 = .ok (.bipush 20, 2) := by decide +kernel
theorem dX3_readStrips_161 : decode cX3_readStrips 161 = .ok (.imul, 1) := by decide +kernel
theorem dX3_readStrips_162 : decode cX3_readStrips 162 = .ok (.invokevirtual 186, 3) := by decide +kernel
theorem dX3_readStrips_165 : decode cX3_readStrips 165 = .ok (.istore 9, 2) := by decide +kernel
theorem dX3_readStrips_167 : decode cX3_readStrips 167 = .ok (.iinc 10 1, 3) := by decide +kernel
theorem dX3_readStrips_170 : decode cX3_readStrips 170 = .ok (.goto (-52), 3) := by decide +kernel
theorem dX3_readStrips_173 : decode cX3_readStrips 173 = .ok (.iload 9, 2) := by decide +kernel
theorem dX3_readStrips_175 : decode cX3_readStrips 175 = .ok (.ifCond .ne 10, 3) := by decide +kernel
theorem dX3_readStrips_178 : decode cX3_readStrips 178 = .ok (.aload_n 0, 1) := by decide +kernel
theorem dX3_readStrips_179 : decode cX3_readStrips 179 = .ok (.iconst 5, 1) := by decide +kernel
theorem dX3_readStrips_180 : decode cX3_readStrips 180 = .ok (.lload 4, 2) := by decide +kernel
theorem dX3_readStrips_182 : decode cX3_readStrips 182 = .ok (.invokevirtual 80, 3) := by decide +kernel
theorem dX3_readStrips_185 : decode cX3_readStrips 185 = .ok (.iload 8, 2) := by decide +kernel
theorem dX3_readStrips_187 : decode cX3_readStrips 187 = .ok (.istore_n 2, 1) := by decide +kernel
theorem dX3_readStrips_188 : decode cX3_readStrips 188 = .ok (.iinc 3 1, 3) := by decide +kernel
theorem dX3_readStrips_191 : decode cX3_readStrips 191 = .ok (.goto (-174), 3) := by decide +kernel
theorem dX3_readStrips_194 : decode cX3_readStrips 194 = .ok (.aload_n 0, 1) := by decide +kernel
theorem dX3_readStrips_195 : decode cX3_readStrips 195 = .ok (.getfield 126, 3) := by decide +kernel
theorem dX3_readStrips_198 : decode cX3_readStrips 198 = .ok (.lconst 1, 1) := by decide +kernel
theorem dX3_readStrips_199 : decode cX3_readStrips 199 = .ok (.lcmp, 1) := by decide +kernel
theorem dX3_readStrips_200 : decode cX3_readStrips 200 = .ok (.ifCond .ne 8, 3) := by decide +kernel
theorem dX3_readStrips_203 : decode cX3_readStrips 203 = .ok (.aload_n 0, 1) := by decide +kernel
theorem dX3_readStrips_204 : decode cX3_readStrips 204 = .ok (.aload_n 1, 1) := by decide +kernel
theorem dX3_readStrips_205 : decode cX3_readStrips 205 = .ok (.invokevirtual 190, 3) := by decide +kernel
theorem dX3_readStrips_208 : decode cX3_readStrips 208 = .ok (.return_, 1) := by decide +kernel
noncomputable def f_X3_readStrips_194 (a1 : Nat) (T : Mm) : Option (Unit × Mm) :=
  if (lg_cmp (gJ T 312 129) 1) = 0 then (bd (f_X3_invert a1 T) fun _ T1 =>
  some ((), T1))
  else (some ((), T))
set_option maxRecDepth 100000 in
set_option maxHeartbeats 4000000 in
theorem s_X3_readStrips_194 {x : JX} {ad : Nat → Nat} {U : Mm} {S0 : Hp} {q : Unit × Mm}  (hn9 : x_n x = 11) (C : CB x RX3 cX3_readStrips) (M : CMr x 6 none S0 ad true U eV q) (a1 : Nat) (T : Mm) (ha1 : kS true a1 = 14) (h : f_X3_readStrips_194  a1 T = some q) : Jr x ad true U T [(0, .ref (ad 129)), (1, .ref (ad a1))] 194 [] := by
  unfold f_X3_readStrips_194 at h
  refine r_aload_n C dX3_readStrips_194 rfl 0 rfl ?_
  refine r_getl (f := 312) C flX3_126 dX3_readStrips_195 kq_129 (by decide) rfl ?_
  refine r_lconst (v := 1) C dX3_readStrips_198 (by decide) ?_
  refine r_lcmp C dX3_readStrips_199 ?_
  refine r_if_ne (tgt := 208) C dX3_readStrips_200 (by decide) h (fun h => ?_) (fun h => ?_)
  · exact r_vret C M dX3_readStrips_208 h
  · refine r_aload_n C dX3_readStrips_203 rfl 0 rfl ?_
    refine r_aload_n C dX3_readStrips_204 rfl 1 rfl ?_
    refine r_callVN C M h [.ref (ad a1)] [] mlX3_190 mcX3_invert (fun q9 e9 => s_X3_invert a1 ha1 e9) kq_129 rfl (by decide) (by decide) rfl rfl (Nat.le_of_ble_eq_true rfl) dX3_readStrips_205 (fun _ T1 h => ?_)
    exact r_vret C M dX3_readStrips_208 h
noncomputable def f_X3_readStrips_173 (k17 : Nat → Int32 → Int32 → Mm → Option (Unit × Mm)) (a1 : Nat) (a3 : Int32) (a4 : Int64) (a8 : Int32) (a9 : Int32) (T : Mm) : Option (Unit × Mm) :=
  if a9 = 0 then (bd (f_X3_fail 5 a4 T) fun _ T1 =>
  k17 a1 a8 (a3 + 1) T1)
  else (k17 a1 a8 (a3 + 1) T)
set_option maxRecDepth 100000 in
set_option maxHeartbeats 4000000 in
theorem s_X3_readStrips_173 {x : JX} {ad : Nat → Nat} {U : Mm} {S0 : Hp} {q : Unit × Mm}  {k17 : Nat → Int32 → Int32 → Mm → Option (Unit × Mm)} (hn9 : x_n x = 11) (C : CB x RX3 cX3_readStrips) (M : CMr x 6 none S0 ad true U eV q) (hk17 : ∀ (a1 : Nat) (a2 : Int32) (a3 : Int32) (T : Mm) (_ : kS true a1 = 14), k17 a1 a2 a3 T = some q → Jr x ad true U T [(0, .ref (ad 129)), (1, .ref (ad a1)), (2, .int a2), (3, .int a3)] 17 []) (a1 : Nat) (a3 : Int32) (a4 : Int64) (a8 : Int32) (a9 : Int32) (T : Mm) (ha1 : kS true a1 = 14) (h : f_X3_readStrips_173 k17 a1 a3 a4 a8 a9 T = some q) : Jr x ad true U T [(0, .ref (ad 129)), (1, .ref (ad a1)), (3, .int a3), (4, .long a4), (8, .int a8), (9, .int a9)] 173 [] := by
  unfold f_X3_readStrips_173 at h
  refine r_iload C dX3_readStrips_173 5 rfl ?_
  refine r_if_ne (tgt := 185) C dX3_readStrips_175 (by decide) h (fun h => ?_) (fun h => ?_)
  · refine r_iload C dX3_readStrips_185 4 rfl ?_
    refine r_istore_n (lv' := [(2, .int a8), (0, .ref (ad 129)), (1, .ref (ad a1)), (3, .int a3), (4, .long a4), (8, .int a8), (9, .int a9)]) C dX3_readStrips_187 rfl (by rw [hn9]; decide) rfl ?_
    refine r_iinc (q := 3) (v := (a3 + 1)) (lv' := [(3, .int (a3 + 1)), (2, .int a8), (0, .ref (ad 129)), (1, .ref (ad a1)), (4, .long a4), (8, .int a8), (9, .int a9)]) C dX3_readStrips_188 rfl (by rw [show Int32.ofInt (1) = 1 by decide]) (by rw [hn9]; decide) rfl ?_
    refine r_goto (tgt := 17) C dX3_readStrips_191 (by decide) ?_
    refine Jr.sub [2, 3, 1, 0] (lv' := [(0, .ref (ad 129)), (1, .ref (ad a1)), (2, .int a8), (3, .int (a3 + 1))]) rfl ?_
    exact hk17 a1 a8 (a3 + 1) T ha1 h
  · refine r_aload_n C dX3_readStrips_178 rfl 0 rfl ?_
    refine r_iconst (v := 5) C dX3_readStrips_179 (by decide) ?_
    refine r_lload C dX3_readStrips_180 3 rfl ?_
    refine r_callVN C M h [.int 5, .long a4] [] mlX3_80 mcX3_fail (fun q9 e9 => s_X3_fail 5 a4  e9) kq_129 rfl (by decide) (by decide) rfl rfl (Nat.le_of_ble_eq_true rfl) dX3_readStrips_182 (fun _ T1 h => ?_)
    refine r_iload C dX3_readStrips_185 4 rfl ?_
    show Jr _ _ _ _ _ _ 187 _
    refine r_istore_n (lv' := [(2, .int a8), (0, .ref (ad 129)), (1, .ref (ad a1)), (3, .int a3), (4, .long a4), (8, .int a8), (9, .int a9)]) C dX3_readStrips_187 rfl (by rw [hn9]; decide) rfl ?_
    refine r_iinc (q := 3) (v := (a3 + 1)) (lv' := [(3, .int (a3 + 1)), (2, .int a8), (0, .ref (ad 129)), (1, .ref (ad a1)), (4, .long a4), (8, .int a8), (9, .int a9)]) C dX3_readStrips_188 rfl (by rw [show Int32.ofInt (1) = 1 by decide]) (by rw [hn9]; decide) rfl ?_
    refine r_goto (tgt := 17) C dX3_readStrips_191 (by decide) ?_
    refine Jr.sub [2, 3, 1, 0] (lv' := [(0, .ref (ad 129)), (1, .ref (ad a1)), (2, .int a8), (3, .int (a3 + 1))]) rfl ?_
    exact hk17 a1 a8 (a3 + 1) T1 ha1 h
noncomputable def f_X3_readStrips_b118 (k17 : Nat → Int32 → Int32 → Mm → Option (Unit × Mm)) (k118 : Nat → Int32 → Int32 → Int64 → Int32 → Int32 → Int32 → Mm → Option (Unit × Mm)) (a1 : Nat) (a2 : Int32) (a3 : Int32) (a4 : Int64) (a8 : Int32) (a9 : Int32) (a10 : Int32) (T : Mm) : Option (Unit × Mm) :=
  if a9 = 0 then (f_X3_readStrips_173 k17 a1 a3 a4 a8 a9 T)
  else (if a8 ≤ a10 then (f_X3_readStrips_173 k17 a1 a3 a4 a8 a9 T)
  else (if 800 ≤ a10 then (f_X3_readStrips_173 k17 a1 a3 a4 a8 a9 T)
  else (if a10 = a2 then (bd (f_X3_readRow a1 (a10 * 20) (-1) T) fun v3 T4 =>
  k118 a1 a2 a3 a4 a8 v3 (a10 + 1) T4)
  else (bd (f_X3_readRow a1 (a10 * 20) ((a10 - 1) * 20) T) fun v1 T2 =>
  k118 a1 a2 a3 a4 a8 v1 (a10 + 1) T2))))
set_option maxRecDepth 100000 in
set_option maxHeartbeats 4000000 in
theorem s_X3_readStrips_b118 {x : JX} {ad : Nat → Nat} {U : Mm} {S0 : Hp} {q : Unit × Mm}  {k17 : Nat → Int32 → Int32 → Mm → Option (Unit × Mm)} {k118 : Nat → Int32 → Int32 → Int64 → Int32 → Int32 → Int32 → Mm → Option (Unit × Mm)} (hn9 : x_n x = 11) (C : CB x RX3 cX3_readStrips) (M : CMr x 6 none S0 ad true U eV q) (hk17 : ∀ (a1 : Nat) (a2 : Int32) (a3 : Int32) (T : Mm) (_ : kS true a1 = 14), k17 a1 a2 a3 T = some q → Jr x ad true U T [(0, .ref (ad 129)), (1, .ref (ad a1)), (2, .int a2), (3, .int a3)] 17 []) (hk118 : ∀ (a1 : Nat) (a2 : Int32) (a3 : Int32) (a4 : Int64) (a8 : Int32) (a9 : Int32) (a10 : Int32) (T : Mm) (_ : kS true a1 = 14), k118 a1 a2 a3 a4 a8 a9 a10 T = some q → Jr x ad true U T [(0, .ref (ad 129)), (1, .ref (ad a1)), (2, .int a2), (3, .int a3), (4, .long a4), (8, .int a8), (9, .int a9), (10, .int a10)] 118 []) (a1 : Nat) (a2 : Int32) (a3 : Int32) (a4 : Int64) (a8 : Int32) (a9 : Int32) (a10 : Int32) (T : Mm) (ha1 : kS true a1 = 14) (h : f_X3_readStrips_b118 k17 k118 a1 a2 a3 a4 a8 a9 a10 T = some q) : Jr x ad true U T [(0, .ref (ad 129)), (1, .ref (ad a1)), (2, .int a2), (3, .int a3), (4, .long a4), (8, .int a8), (9, .int a9), (10, .int a10)] 118 [] := by
  unfold f_X3_readStrips_b118 at h
  refine r_iload C dX3_readStrips_118 6 rfl ?_
  refine r_if_eq (tgt := 173) C dX3_readStrips_120 (by decide) h (fun h => ?_) (fun h => ?_)
  · refine Jr.sub [0, 1, 3, 4, 5, 6] (lv' := [(0, .ref (ad 129)), (1, .ref (ad a1)), (3, .int a3), (4, .long a4), (8, .int a8), (9, .int a9)]) rfl ?_
    exact s_X3_readStrips_173 hn9 C M hk17 a1 a3 a4 a8 a9 T ha1 h
  · refine r_iload C dX3_readStrips_123 7 rfl ?_
    refine r_iload C dX3_readStrips_125 5 rfl ?_
    refine r_ic_ge (tgt := 173) C dX3_readStrips_127 (by decide) h (fun h => ?_) (fun h => ?_)
    · refine Jr.sub [0, 1, 3, 4, 5, 6] (lv' := [(0, .ref (ad 129)), (1, .ref (ad a1)), (3, .int a3), (4, .long a4), (8, .int a8), (9, .int a9)]) rfl ?_
      exact s_X3_readStrips_173 hn9 C M hk17 a1 a3 a4 a8 a9 T ha1 h
    · refine r_iload C dX3_readStrips_130 7 rfl ?_
      refine r_sipush (v := 800) C dX3_readStrips_132 (by decide) ?_
      refine r_ic_ge (tgt := 173) C dX3_readStrips_135 (by decide) h (fun h => ?_) (fun h => ?_)
      · refine Jr.sub [0, 1, 3, 4, 5, 6] (lv' := [(0, .ref (ad 129)), (1, .ref (ad a1)), (3, .int a3), (4, .long a4), (8, .int a8), (9, .int a9)]) rfl ?_
        exact s_X3_readStrips_173 hn9 C M hk17 a1 a3 a4 a8 a9 T ha1 h
      · refine r_aload_n C dX3_readStrips_138 rfl 0 rfl ?_
        refine r_aload_n C dX3_readStrips_139 rfl 1 rfl ?_
        refine r_iload C dX3_readStrips_140 7 rfl ?_
        refine r_bipush (v := 20) C dX3_readStrips_142 (by decide) ?_
        refine r_imul C dX3_readStrips_144 rfl ?_
        show Jr _ _ _ _ _ _ 145 _
        refine r_iload C dX3_readStrips_145 7 rfl ?_
        refine r_iload_n C dX3_readStrips_147 rfl 2 rfl ?_
        refine r_ic_ne (tgt := 155) C dX3_readStrips_148 (by decide) h (fun h => ?_) (fun h => ?_)
        · refine r_iload C dX3_readStrips_155 7 rfl ?_
          refine r_iconst (v := 1) C dX3_readStrips_157 (by decide) ?_
          refine r_isub C dX3_readStrips_158 rfl ?_
          refine r_bipush (v := 20) C dX3_readStrips_159 (by decide) ?_
          refine r_imul C dX3_readStrips_161 rfl ?_
          show Jr _ _ _ _ _ _ 162 _
          refine r_callVI C M h [.ref (ad a1), .int (a10 * 20), .int ((a10 - 1) * 20)] [] mlX3_186 mcX3_readRow (fun q9 e9 => s_X3_readRow a1 (a10 * 20) ((a10 - 1) * 20) ha1 e9) kq_129 rfl (by decide) (by decide) rfl rfl (Nat.le_of_ble_eq_true rfl) dX3_readStrips_162 (fun v1 T2 h => ?_)
          refine r_istore (lv' := [(9, .int v1), (0, .ref (ad 129)), (1, .ref (ad a1)), (2, .int a2), (3, .int a3), (4, .long a4), (8, .int a8), (10, .int a10)]) C dX3_readStrips_165 (by rw [hn9]; decide) rfl ?_
          refine r_iinc (q := 7) (v := (a10 + 1)) (lv' := [(10, .int (a10 + 1)), (9, .int v1), (0, .ref (ad 129)), (1, .ref (ad a1)), (2, .int a2), (3, .int a3), (4, .long a4), (8, .int a8)]) C dX3_readStrips_167 rfl (by rw [show Int32.ofInt (1) = 1 by decide]) (by rw [hn9]; decide) rfl ?_
          refine r_goto (tgt := 118) C dX3_readStrips_170 (by decide) ?_
          refine Jr.sub [2, 3, 4, 5, 6, 7, 1, 0] (lv' := [(0, .ref (ad 129)), (1, .ref (ad a1)), (2, .int a2), (3, .int a3), (4, .long a4), (8, .int a8), (9, .int v1), (10, .int (a10 + 1))]) rfl ?_
          exact hk118 a1 a2 a3 a4 a8 v1 (a10 + 1) T2 ha1 h
        · refine r_iconst (v := (-1)) C dX3_readStrips_151 (by decide) ?_
          refine r_goto (tgt := 162) C dX3_readStrips_152 (by decide) ?_
          refine r_callVI C M h [.ref (ad a1), .int (a10 * 20), .int (-1)] [] mlX3_186 mcX3_readRow (fun q9 e9 => s_X3_readRow a1 (a10 * 20) (-1) ha1 e9) kq_129 rfl (by decide) (by decide) rfl rfl (Nat.le_of_ble_eq_true rfl) dX3_readStrips_162 (fun v3 T4 h => ?_)
          refine r_istore (lv' := [(9, .int v3), (0, .ref (ad 129)), (1, .ref (ad a1)), (2, .int a2), (3, .int a3), (4, .long a4), (8, .int a8), (10, .int a10)]) C dX3_readStrips_165 (by rw [hn9]; decide) rfl ?_
          refine r_iinc (q := 7) (v := (a10 + 1)) (lv' := [(10, .int (a10 + 1)), (9, .int v3), (0, .ref (ad 129)), (1, .ref (ad a1)), (2, .int a2), (3, .int a3), (4, .long a4), (8, .int a8)]) C dX3_readStrips_167 rfl (by rw [show Int32.ofInt (1) = 1 by decide]) (by rw [hn9]; decide) rfl ?_
          show Jr _ _ _ _ _ _ 170 _
          refine r_goto (tgt := 118) C dX3_readStrips_170 (by decide) ?_
          refine Jr.sub [2, 3, 4, 5, 6, 7, 1, 0] (lv' := [(0, .ref (ad 129)), (1, .ref (ad a1)), (2, .int a2), (3, .int a3), (4, .long a4), (8, .int a8), (9, .int v3), (10, .int (a10 + 1))]) rfl ?_
          exact hk118 a1 a2 a3 a4 a8 v3 (a10 + 1) T4 ha1 h
noncomputable def f_X3_readStrips_l118 (k17 : Nat → Int32 → Int32 → Mm → Option (Unit × Mm)) (n : Nat) : Nat → Int32 → Int32 → Int64 → Int32 → Int32 → Int32 → Mm → Option (Unit × Mm) := Nat.rec (fun _ _ _ _ _ _ _ _ => none) (fun _ ih => f_X3_readStrips_b118 k17 ih) n
theorem s_X3_readStrips_l118 {x : JX} {ad : Nat → Nat} {U : Mm} {S0 : Hp} {q : Unit × Mm}  {k17 : Nat → Int32 → Int32 → Mm → Option (Unit × Mm)} (hn9 : x_n x = 11) (C : CB x RX3 cX3_readStrips) (M : CMr x 6 none S0 ad true U eV q) (hk17 : ∀ (a1 : Nat) (a2 : Int32) (a3 : Int32) (T : Mm) (_ : kS true a1 = 14), k17 a1 a2 a3 T = some q → Jr x ad true U T [(0, .ref (ad 129)), (1, .ref (ad a1)), (2, .int a2), (3, .int a3)] 17 []) : ∀ (n : Nat), ∀ (a1 : Nat) (a2 : Int32) (a3 : Int32) (a4 : Int64) (a8 : Int32) (a9 : Int32) (a10 : Int32) (T : Mm) (_ : kS true a1 = 14), f_X3_readStrips_l118 k17 n a1 a2 a3 a4 a8 a9 a10 T = some q → Jr x ad true U T [(0, .ref (ad 129)), (1, .ref (ad a1)), (2, .int a2), (3, .int a3), (4, .long a4), (8, .int a8), (9, .int a9), (10, .int a10)] 118 [] := by
  intro n
  induction n with
  | zero => intro a1 a2 a3 a4 a8 a9 a10 T _ h; exact absurd h (by intro h; cases h)
  | succ n ih => exact fun a1 a2 a3 a4 a8 a9 a10 T ha1 h => s_X3_readStrips_b118 hn9 C M hk17 (ih) a1 a2 a3 a4 a8 a9 a10 T ha1 h
noncomputable def f_X3_readStrips_98 (k17 : Nat → Int32 → Int32 → Mm → Option (Unit × Mm)) (a1 : Nat) (a2 : Int32) (a3 : Int32) (a4 : Int64) (a6 : Int64) (a8 : Int32) (b0 : Int32) (T : Mm) : Option (Unit × Mm) :=
  if b0 = 0 then (f_X3_readStrips_l118 k17 FU a1 a2 a3 a4 a8 b0 a2 T)
  else (bd (f_X3_openStrip ((a4).toInt32) ((a6).toInt32) T) fun _ T1 =>
  f_X3_readStrips_l118 k17 FU a1 a2 a3 a4 a8 b0 a2 T1)
set_option maxRecDepth 100000 in
set_option maxHeartbeats 4000000 in
theorem s_X3_readStrips_98 {x : JX} {ad : Nat → Nat} {U : Mm} {S0 : Hp} {q : Unit × Mm}  {k17 : Nat → Int32 → Int32 → Mm → Option (Unit × Mm)} (hn9 : x_n x = 11) (C : CB x RX3 cX3_readStrips) (M : CMr x 6 none S0 ad true U eV q) (hk17 : ∀ (a1 : Nat) (a2 : Int32) (a3 : Int32) (T : Mm) (_ : kS true a1 = 14), k17 a1 a2 a3 T = some q → Jr x ad true U T [(0, .ref (ad 129)), (1, .ref (ad a1)), (2, .int a2), (3, .int a3)] 17 []) (a1 : Nat) (a2 : Int32) (a3 : Int32) (a4 : Int64) (a6 : Int64) (a8 : Int32) (b0 : Int32) (T : Mm) (ha1 : kS true a1 = 14) (h : f_X3_readStrips_98 k17 a1 a2 a3 a4 a6 a8 b0 T = some q) : Jr x ad true U T [(0, .ref (ad 129)), (1, .ref (ad a1)), (2, .int a2), (3, .int a3), (4, .long a4), (6, .long a6), (8, .int a8)] 98 [.int b0] := by
  unfold f_X3_readStrips_98 at h
  refine r_istore (lv' := [(9, .int b0), (0, .ref (ad 129)), (1, .ref (ad a1)), (2, .int a2), (3, .int a3), (4, .long a4), (6, .long a6), (8, .int a8)]) C dX3_readStrips_98 (by rw [hn9]; decide) rfl ?_
  refine r_iload C dX3_readStrips_100 0 rfl ?_
  refine r_if_eq (tgt := 115) C dX3_readStrips_102 (by decide) h (fun h => ?_) (fun h => ?_)
  · refine r_iload_n C dX3_readStrips_115 rfl 3 rfl ?_
    refine r_istore (lv' := [(10, .int a2), (9, .int b0), (0, .ref (ad 129)), (1, .ref (ad a1)), (2, .int a2), (3, .int a3), (4, .long a4), (6, .long a6), (8, .int a8)]) C dX3_readStrips_116 (by rw [hn9]; decide) rfl ?_
    refine Jr.sub [2, 3, 4, 5, 6, 8, 1, 0] (lv' := [(0, .ref (ad 129)), (1, .ref (ad a1)), (2, .int a2), (3, .int a3), (4, .long a4), (8, .int a8), (9, .int b0), (10, .int a2)]) rfl ?_
    exact s_X3_readStrips_l118 hn9 C M hk17 FU a1 a2 a3 a4 a8 b0 a2 T ha1 h
  · refine r_aload_n C dX3_readStrips_105 rfl 1 rfl ?_
    refine r_lload C dX3_readStrips_106 5 rfl ?_
    refine r_l2i C dX3_readStrips_108 rfl ?_
    refine r_lload C dX3_readStrips_109 6 rfl ?_
    refine r_l2i C dX3_readStrips_111 rfl ?_
    show Jr _ _ _ _ _ _ 112 _
    refine r_callVN C M h [.int ((a4).toInt32), .int ((a6).toInt32)] [] mlX3_183 mcX3_openStrip (fun q9 e9 => s_X3_openStrip ((a4).toInt32) ((a6).toInt32)  e9) kq_129 rfl (by decide) (by decide) rfl rfl (Nat.le_of_ble_eq_true rfl) dX3_readStrips_112 (fun _ T1 h => ?_)
    refine r_iload_n C dX3_readStrips_115 rfl 3 rfl ?_
    refine r_istore (lv' := [(10, .int a2), (9, .int b0), (0, .ref (ad 129)), (1, .ref (ad a1)), (2, .int a2), (3, .int a3), (4, .long a4), (6, .long a6), (8, .int a8)]) C dX3_readStrips_116 (by rw [hn9]; decide) rfl ?_
    refine Jr.sub [2, 3, 4, 5, 6, 8, 1, 0] (lv' := [(0, .ref (ad 129)), (1, .ref (ad a1)), (2, .int a2), (3, .int a3), (4, .long a4), (8, .int a8), (9, .int b0), (10, .int a2)]) rfl ?_
    exact s_X3_readStrips_l118 hn9 C M hk17 FU a1 a2 a3 a4 a8 b0 a2 T1 ha1 h
noncomputable def f_X3_readStrips_b17 (k17 : Nat → Int32 → Int32 → Mm → Option (Unit × Mm)) (a1 : Nat) (a2 : Int32) (a3 : Int32) (T : Mm) : Option (Unit × Mm) :=
  if 40 ≤ a3 then (f_X3_readStrips_194 a1 T)
  else (bd (f_X3_strips T) fun v1 T2 =>
  if 0 ≤ (lg_cmp ((a3).toInt64) v1) then (f_X3_readStrips_194 a1 T2)
  else (if (gI T2 304 129) = 0 then (bd (f_X3_listed (gJ T2 315 129) a3 T2) fun v3 T4 =>
  bd (f_X3_listed (gJ T4 316 129) a3 T4) fun v5 T6 =>
  bd (f_J9_min_f86c9 (((a2).toInt64) + (gJ T6 314 129)) (gJ T6 310 129) T6) fun v7 T8 =>
  lb ((v7).toInt32) fun v9 =>
  if 0 < (lg_cmp (v3 + v5) (((gI T8 303 129)).toInt64)) then (f_X3_readStrips_98 k17 a1 a2 a3 v3 v5 v9 0 T8)
  else (f_X3_readStrips_98 k17 a1 a2 a3 v3 v5 v9 1 T8))
  else (f_X3_readStrips_194 a1 T2)))
set_option maxRecDepth 100000 in
set_option maxHeartbeats 4000000 in
theorem s_X3_readStrips_b17 {x : JX} {ad : Nat → Nat} {U : Mm} {S0 : Hp} {q : Unit × Mm}  {k17 : Nat → Int32 → Int32 → Mm → Option (Unit × Mm)} (hn9 : x_n x = 11) (C : CB x RX3 cX3_readStrips) (M : CMr x 6 none S0 ad true U eV q) (hk17 : ∀ (a1 : Nat) (a2 : Int32) (a3 : Int32) (T : Mm) (_ : kS true a1 = 14), k17 a1 a2 a3 T = some q → Jr x ad true U T [(0, .ref (ad 129)), (1, .ref (ad a1)), (2, .int a2), (3, .int a3)] 17 []) (a1 : Nat) (a2 : Int32) (a3 : Int32) (T : Mm) (ha1 : kS true a1 = 14) (h : f_X3_readStrips_b17 k17 a1 a2 a3 T = some q) : Jr x ad true U T [(0, .ref (ad 129)), (1, .ref (ad a1)), (2, .int a2), (3, .int a3)] 17 [] := by
  unfold f_X3_readStrips_b17 at h
  refine r_iload_n C dX3_readStrips_17 rfl 3 rfl ?_
  refine r_bipush (v := 40) C dX3_readStrips_18 (by decide) ?_
  refine r_ic_ge (tgt := 194) C dX3_readStrips_20 (by decide) h (fun h => ?_) (fun h => ?_)
  · refine Jr.sub [0, 1] (lv' := [(0, .ref (ad 129)), (1, .ref (ad a1))]) rfl ?_
    exact s_X3_readStrips_194 hn9 C M  a1 T ha1 h
  · refine r_iload_n C dX3_readStrips_23 rfl 3 rfl ?_
    refine r_i2l C dX3_readStrips_24 rfl ?_
    refine r_aload_n C dX3_readStrips_25 rfl 0 rfl ?_
    refine r_callVJ C M h [] [.long ((a3).toInt64)] mlX3_164 mcX3_strips (fun q9 e9 => s_X3_strips   e9) kq_129 rfl (by decide) (by decide) rfl rfl (Nat.le_of_ble_eq_true rfl) dX3_readStrips_26 (fun v1 T2 h => ?_)
    refine r_lcmp C dX3_readStrips_29 ?_
    show Jr _ _ _ _ _ _ 30 _
    refine r_if_ge (tgt := 194) C dX3_readStrips_30 (by decide) h (fun h => ?_) (fun h => ?_)
    · refine Jr.sub [0, 1] (lv' := [(0, .ref (ad 129)), (1, .ref (ad a1))]) rfl ?_
      exact s_X3_readStrips_194 hn9 C M  a1 T2 ha1 h
    · refine r_aload_n C dX3_readStrips_33 rfl 0 rfl ?_
      refine r_geti (f := 304) C flX3_44 dX3_readStrips_34 kq_129 (by decide) (by decide) rfl ?_
      refine r_if_ne (tgt := 194) C dX3_readStrips_37 (by decide) h (fun h => ?_) (fun h => ?_)
      · refine Jr.sub [0, 1] (lv' := [(0, .ref (ad 129)), (1, .ref (ad a1))]) rfl ?_
        exact s_X3_readStrips_194 hn9 C M  a1 T2 ha1 h
      · refine r_aload_n C dX3_readStrips_40 rfl 0 rfl ?_
        refine r_aload_n C dX3_readStrips_41 rfl 0 rfl ?_
        refine r_getl (f := 315) C flX3_135 dX3_readStrips_42 kq_129 (by decide) rfl ?_
        refine r_iload_n C dX3_readStrips_45 rfl 3 rfl ?_
        refine r_callVJ C M h [.long (gJ T2 315 129), .int a3] [] mlX3_180 mcX3_listed (fun q9 e9 => s_X3_listed (gJ T2 315 129) a3  e9) kq_129 rfl (by decide) (by decide) rfl rfl (Nat.le_of_ble_eq_true rfl) dX3_readStrips_46 (fun v3 T4 h => ?_)
        show Jr _ _ _ _ _ _ 49 _
        refine r_lstore (lv' := [(4, .long v3), (0, .ref (ad 129)), (1, .ref (ad a1)), (2, .int a2), (3, .int a3)]) C dX3_readStrips_49 (by rw [hn9]; decide) rfl ?_
        refine r_aload_n C dX3_readStrips_51 rfl 1 rfl ?_
        refine r_aload_n C dX3_readStrips_52 rfl 1 rfl ?_
        refine r_getl (f := 316) C flX3_138 dX3_readStrips_53 kq_129 (by decide) rfl ?_
        refine r_iload_n C dX3_readStrips_56 rfl 4 rfl ?_
        refine r_callVJ C M h [.long (gJ T4 316 129), .int a3] [] mlX3_180 mcX3_listed (fun q9 e9 => s_X3_listed (gJ T4 316 129) a3  e9) kq_129 rfl (by decide) (by decide) rfl rfl (Nat.le_of_ble_eq_true rfl) dX3_readStrips_57 (fun v5 T6 h => ?_)
        show Jr _ _ _ _ _ _ 60 _
        refine r_lstore (lv' := [(6, .long v5), (4, .long v3), (0, .ref (ad 129)), (1, .ref (ad a1)), (2, .int a2), (3, .int a3)]) C dX3_readStrips_60 (by rw [hn9]; decide) rfl ?_
        refine r_iload_n C dX3_readStrips_62 rfl 4 rfl ?_
        refine r_i2l C dX3_readStrips_63 rfl ?_
        refine r_aload_n C dX3_readStrips_64 rfl 2 rfl ?_
        refine r_getl (f := 314) C flX3_132 dX3_readStrips_65 kq_129 (by decide) rfl ?_
        refine r_ladd C dX3_readStrips_68 rfl ?_
        show Jr _ _ _ _ _ _ 69 _
        refine r_aload_n C dX3_readStrips_69 rfl 2 rfl ?_
        refine r_getl (f := 310) C flX3_109 dX3_readStrips_70 kq_129 (by decide) rfl ?_
        refine r_callSJ C M h [.long (((a2).toInt64) + (gJ T6 314 129)), .long (gJ T6 310 129)] [] mlX3_66 mcJ9_min_f86c9 (fun q9 e9 => s_J9_min_f86c9 (((a2).toInt64) + (gJ T6 314 129)) (gJ T6 310 129)  e9) (by decide) (by decide) rfl rfl (Nat.le_of_ble_eq_true rfl) dX3_readStrips_73 (fun v7 T8 h => ?_)
        refine r_l2i C dX3_readStrips_76 rfl ?_
        refine r_lbI h (fun v9 h => ?_)
        refine r_istore (lv' := [(8, .int v9), (6, .long v5), (4, .long v3), (0, .ref (ad 129)), (1, .ref (ad a1)), (2, .int a2), (3, .int a3)]) C dX3_readStrips_77 (by rw [hn9]; decide) rfl ?_
        refine r_lload C dX3_readStrips_79 2 rfl ?_
        show Jr _ _ _ _ _ _ 81 _
        refine r_lload C dX3_readStrips_81 1 rfl ?_
        refine r_ladd C dX3_readStrips_83 rfl ?_
        refine r_aload_n C dX3_readStrips_84 rfl 3 rfl ?_
        refine r_geti (f := 303) C flX3_41 dX3_readStrips_85 kq_129 (by decide) (by decide) rfl ?_
        refine r_i2l C dX3_readStrips_88 rfl ?_
        refine r_lcmp C dX3_readStrips_89 ?_
        show Jr _ _ _ _ _ _ 90 _
        refine r_if_gt (tgt := 97) C dX3_readStrips_90 (by decide) h (fun h => ?_) (fun h => ?_)
        · refine r_iconst (v := 0) C dX3_readStrips_97 (by decide) ?_
          refine Jr.sub [3, 4, 5, 6, 2, 1, 0] (lv' := [(0, .ref (ad 129)), (1, .ref (ad a1)), (2, .int a2), (3, .int a3), (4, .long v3), (6, .long v5), (8, .int v9)]) rfl ?_
          exact s_X3_readStrips_98 hn9 C M hk17 a1 a2 a3 v3 v5 v9 0 T8 ha1 h
        · refine r_iconst (v := 1) C dX3_readStrips_93 (by decide) ?_
          refine r_goto (tgt := 98) C dX3_readStrips_94 (by decide) ?_
          refine Jr.sub [3, 4, 5, 6, 2, 1, 0] (lv' := [(0, .ref (ad 129)), (1, .ref (ad a1)), (2, .int a2), (3, .int a3), (4, .long v3), (6, .long v5), (8, .int v9)]) rfl ?_
          exact s_X3_readStrips_98 hn9 C M hk17 a1 a2 a3 v3 v5 v9 1 T8 ha1 h
noncomputable def f_X3_readStrips_l17 (n : Nat) : Nat → Int32 → Int32 → Mm → Option (Unit × Mm) := Nat.rec (fun _ _ _ _ => none) (fun _ ih => f_X3_readStrips_b17 ih) n
theorem s_X3_readStrips_l17 {x : JX} {ad : Nat → Nat} {U : Mm} {S0 : Hp} {q : Unit × Mm}  (hn9 : x_n x = 11) (C : CB x RX3 cX3_readStrips) (M : CMr x 6 none S0 ad true U eV q) : ∀ (n : Nat), ∀ (a1 : Nat) (a2 : Int32) (a3 : Int32) (T : Mm) (_ : kS true a1 = 14), f_X3_readStrips_l17  n a1 a2 a3 T = some q → Jr x ad true U T [(0, .ref (ad 129)), (1, .ref (ad a1)), (2, .int a2), (3, .int a3)] 17 [] := by
  intro n
  induction n with
  | zero => intro a1 a2 a3 T _ h; exact absurd h (by intro h; cases h)
  | succ n ih => exact fun a1 a2 a3 T ha1 h => s_X3_readStrips_b17 hn9 C M (ih) a1 a2 a3 T ha1 h
noncomputable def f_X3_readStrips (T : Mm) : Option (Unit × Mm) :=
  bd (f_X6_nextPage T) fun v1 T2 =>
  gd (kS true v1 = 14) <|
  bd (f_J7_fill_53178 v1 0 T2) fun _ T4 =>
  f_X3_readStrips_l17 FU v1 0 0 T4
set_option maxRecDepth 100000 in
set_option maxHeartbeats 4000000 in
theorem s_X3_readStrips {ad : Nat → Nat} {U T : Mm} {q : Unit × Mm}  (h : f_X3_readStrips  T = some q) : Cr 6 yX3_readStrips cX3_readStrips 11 none [.ref (ad 129)] ad true U T eV q := by
  refine cr_of (by decide) (Nat.le_of_ble_eq_true rfl) fun x S0 hn9 C M => ?_
  have C : CB x RX3 cX3_readStrips := C
  refine Jr.eq (lv' := [(0, .ref (ad 129))]) (st' := []) rfl rfl ?_
  unfold f_X3_readStrips at h
  refine r_aload_n C dX3_readStrips_0 rfl 0 rfl ?_
  refine r_getp (f := 300) (j := 5) C flX3_26 dX3_readStrips_1 kq_129 (by decide) rfl (fun W => pt_300 kq_129 W) ?_
  refine r_callVR C M h [] [] mlX3_170 mcX6_nextPage (fun q9 e9 => s_X6_nextPage   e9) kq_5 rfl (by decide) (by decide) rfl rfl (Nat.le_of_ble_eq_true rfl) dX3_readStrips_4 (fun v1 T2 h => ?_)
  refine r_gd h (fun hk3 h => ?_)
  refine r_astore_n (lv' := [(1, .ref (ad v1)), (0, .ref (ad 129))]) C dX3_readStrips_7 rfl (by rw [hn9]; decide) rfl ?_
  refine r_aload_n C dX3_readStrips_8 rfl 0 rfl ?_
  show Jr _ _ _ _ _ _ 9 _
  refine r_iconst (v := 0) C dX3_readStrips_9 (by decide) ?_
  refine r_callSN C M h [.ref (ad v1), .int 0] [] mlX3_174 mcJ7_fill_53178 (fun q9 e9 => s_J7_fill_53178 v1 0 hk3 e9) (by decide) (by decide) rfl rfl (Nat.le_of_ble_eq_true rfl) dX3_readStrips_10 (fun _ T4 h => ?_)
  refine r_iconst (v := 0) C dX3_readStrips_13 (by decide) ?_
  refine r_istore_n (lv' := [(2, .int 0), (1, .ref (ad v1)), (0, .ref (ad 129))]) C dX3_readStrips_14 rfl (by rw [hn9]; decide) rfl ?_
  refine r_iconst (v := 0) C dX3_readStrips_15 (by decide) ?_
  refine r_istore_n (lv' := [(3, .int 0), (2, .int 0), (1, .ref (ad v1)), (0, .ref (ad 129))]) C dX3_readStrips_16 rfl (by rw [hn9]; decide) rfl ?_
  refine Jr.sub [3, 2, 1, 0] (lv' := [(0, .ref (ad 129)), (1, .ref (ad v1)), (2, .int 0), (3, .int 0)]) rfl ?_
  exact s_X3_readStrips_l17 hn9 C M  FU v1 0 0 T4 hk3 h
theorem dX3_readDirectory_0 : decode cX3_readDirectory 0 = .ok (.aload_n 0, 1) := by decide +kernel
theorem dX3_readDirectory_1 : decode cX3_readDirectory 1 = .ok (.lload_n 1, 1) := by decide +kernel
theorem dX3_readDirectory_2 : decode cX3_readDirectory 2 = .ok (.iconst 2, 1) := by decide +kernel
theorem dX3_readDirectory_3 : decode cX3_readDirectory 3 = .ok (.invokevirtual 58, 3) := by decide +kernel
theorem dX3_readDirectory_6 : decode cX3_readDirectory 6 = .ok (.l2i, 1) := by decide +kernel
theorem dX3_readDirectory_7 : decode cX3_readDirectory 7 = .ok (.istore_n 3, 1) := by decide +kernel
theorem dX3_readDirectory_8 : decode cX3_readDirectory 8 = .ok (.lload_n 1, 1) := by decide +kernel
theorem dX3_readDirectory_9 : decode cX3_readDirectory 9 = .ok (.ldc2_w 84, 3) := by decide +kernel
theorem dX3_readDirectory_12 : decode cX3_readDirectory 12 = .ok (.ladd, 1) := by decide +kernel
theorem dX3_readDirectory_13 : decode cX3_readDirectory 13 = .ok (.ldc2_w 86, 3) := by decide +kernel
theorem dX3_readDirectory_16 : decode cX3_readDirectory 16 = .ok (.iload_n 3, 1) := by decide +kernel
theorem dX3_readDirectory_17 : decode cX3_readDirectory 17 = .ok (.i2l, 1) := by decide +kernel
theorem dX3_readDirectory_18 : decode cX3_readDirectory 18 = .ok (.lmul, 1) := by decide +kernel
theorem dX3_readDirectory_19 : decode cX3_readDirectory 19 = .ok (.ladd, 1) := by decide +kernel
theorem dX3_readDirectory_20 : decode cX3_readDirectory 20 = .ok (.lstore 4, 2) := by decide +kernel
theorem dX3_readDirectory_22 : decode cX3_readDirectory 22 = .ok (.aload_n 0, 1) := by decide +kernel
theorem dX3_readDirectory_23 : decode cX3_readDirectory 23 = .ok (.lload_n 1, 1) := by decide +kernel
theorem dX3_readDirectory_24 : decode cX3_readDirectory 24 = .ok (.iload_n 3, 1) := by decide +kernel
theorem dX3_readDirectory_25 : decode cX3_readDirectory 25 = .ok (.invokevirtual 88, 3) := by decide +kernel
theorem dX3_readDirectory_28 : decode cX3_readDirectory 28 = .ok (.ifCond .ne 11, 3) := by decide +kernel
theorem dX3_readDirectory_31 : decode cX3_readDirectory 31 = .ok (.aload_n 0, 1) := by decide +kernel
theorem dX3_readDirectory_32 : decode cX3_readDirectory 32 = .ok (.iconst 3, 1) := by decide +kernel
theorem dX3_readDirectory_33 : decode cX3_readDirectory 33 = .ok (.lload_n 1, 1) := by decide +kernel
theorem dX3_readDirectory_34 : decode cX3_readDirectory 34 = .ok (.invokevirtual 80, 3) := by decide +kernel
theorem dX3_readDirectory_37 : decode cX3_readDirectory 37 = .ok (.lconst 0, 1) := by decide +kernel
theorem dX3_readDirectory_38 : decode cX3_readDirectory 38 = .ok (.lreturn, 1) := by decide +kernel
theorem dX3_readDirectory_39 : decode cX3_readDirectory 39 = .ok (.aload_n 0, 1) := by decide +kernel
theorem dX3_readDirectory_40 : decode cX3_readDirectory 40 = .ok (.getfield 15, 3) := by decide +kernel
theorem dX3_readDirectory_43 : decode cX3_readDirectory 43 = .ok (.aload_n 0, 1) := by decide +kernel
theorem dX3_readDirectory_44 : decode cX3_readDirectory 44 = .ok (.getfield 50, 3) := by decide +kernel
theorem dX3_readDirectory_47 : decode cX3_readDirectory 47 = .ok (.lload_n 1, 1) := by decide +kernel
theorem dX3_readDirectory_48 : decode cX3_readDirectory 48 = .ok (.lastore, 1) := by decide +kernel
theorem dX3_readDirectory_49 : decode cX3_readDirectory 49 = .ok (.aload_n 0, 1) := by decide +kernel
theorem dX3_readDirectory_50 : decode cX3_readDirectory 50 = .ok (.dup, 1) := by decide +kernel
theorem dX3_readDirectory_51 : decode cX3_readDirectory 51 = .ok (.getfield 50, 3) := by decide +kernel
theorem dX3_readDirectory_54 : decode cX3_readDirectory 54 = .ok (.iconst 1, 1) := by decide +kernel
theorem dX3_readDirectory_55 : decode cX3_readDirectory 55 = .ok (.iadd, 1) := by decide +kernel
theorem dX3_readDirectory_56 : decode cX3_readDirectory 56 = .ok (.putfield 50, 3) := by decide +kernel
theorem dX3_readDirectory_59 : decode cX3_readDirectory 59 = .ok (.aload_n 0, 1) := by decide +kernel
theorem dX3_readDirectory_60 : decode cX3_readDirectory 60 = .ok (.invokevirtual 92, 3) := by decide +kernel
theorem dX3_readDirectory_63 : decode cX3_readDirectory 63 = .ok (.iconst 0, 1) := by decide +kernel
theorem dX3_readDirectory_64 : decode cX3_readDirectory 64 = .ok (.istore 6, 2) := by decide +kernel
theorem dX3_readDirectory_66 : decode cX3_readDirectory 66 = .ok (.iload 6, 2) := by decide +kernel
theorem dX3_readDirectory_68 : decode cX3_readDirectory 68 = .ok (.iload_n 3, 1) := by decide +kernel
theorem dX3_readDirectory_69 : decode cX3_readDirectory 69 = .ok (.if_icmp .ge 32, 3) := by decide +kernel
theorem dX3_readDirectory_72 : decode cX3_readDirectory 72 = .ok (.aload_n 0, 1) := by decide +kernel
theorem dX3_readDirectory_73 : decode cX3_readDirectory 73 = .ok (.getfield 44, 3) := by decide +kernel
theorem dX3_readDirectory_76 : decode cX3_readDirectory 76 = .ok (.ifCond .ne 25, 3) := by decide +kernel
theorem dX3_readDirectory_79 : decode cX3_readDirectory 79 = .ok (.aload_n 0, 1) := by decide +kernel
theorem dX3_readDirectory_80 : decode cX3_readDirectory 80 = .ok (.lload_n 1, 1) := by decide +kernel
theorem dX3_readDirectory_81 : decode cX3_readDirectory 81 = .ok (.ldc2_w 84, 3) := by decide +kernel
theorem dX3_readDirectory_84 : decode cX3_readDirectory 84 = .ok (.ladd, 1) := by decide +kernel
theorem dX3_readDirectory_85 : decode cX3_readDirectory 85 = .ok (.bipush 12, 2) := by decide +kernel
theorem dX3_readDirectory_87 : decode cX3_readDirectory 87 = .ok (.iload 6, 2) := by decide +kernel
theorem dX3_readDirectory_89 : decode cX3_readDirectory 89 = .ok (.imul, 1) := by decide +kernel
theorem dX3_readDirectory_90 : decode cX3_readDirectory 90 = .ok (.i2l, 1) := by decide +kernel
theorem dX3_readDirectory_91 : decode cX3_readDirectory 91 = .ok (.ladd, 1) := by decide +kernel
theorem dX3_readDirectory_92 : decode cX3_readDirectory 92 = .ok (.invokevirtual 95, 3) := by decide +kernel
theorem dX3_readDirectory_95 : decode cX3_readDirectory 95 = .ok (.iinc 6 1, 3) := by decide +kernel
theorem dX3_readDirectory_98 : decode cX3_readDirectory 98 = .ok (.goto (-32), 3) := by decide +kernel
theorem dX3_readDirectory_101 : decode cX3_readDirectory 101 = .ok (.aload_n 0, 1) := by decide +kernel
theorem dX3_readDirectory_102 : decode cX3_readDirectory 102 = .ok (.lload_n 1, 1) := by decide +kernel
theorem dX3_readDirectory_103 : decode cX3_readDirectory 103 = .ok (.invokevirtual 99, 3) := by decide +kernel
theorem dX3_readDirectory_106 : decode cX3_readDirectory 106 = .ok (.aload_n 0, 1) := by decide +kernel
theorem dX3_readDirectory_107 : decode cX3_readDirectory 107 = .ok (.getfield 44, 3) := by decide +kernel
theorem dX3_readDirectory_110 : decode cX3_readDirectory 110 = .ok (.ifCond .ne 7, 3) := by decide +kernel
theorem dX3_readDirectory_113 : decode cX3_readDirectory 113 = .ok (.aload_n 0, 1) := by decide +kernel
theorem dX3_readDirectory_114 : decode cX3_readDirectory 114 = .ok (.invokevirtual 102, 3) := by decide +kernel
theorem dX3_readDirectory_117 : decode cX3_readDirectory 117 = .ok (.aload_n 0, 1) := by decide +kernel
theorem dX3_readDirectory_118 : decode cX3_readDirectory 118 = .ok (.getfield 44, 3) := by decide +kernel
theorem dX3_readDirectory_121 : decode cX3_readDirectory 121 = .ok (.ifCond .ne 20, 3) := by decide +kernel
theorem dX3_readDirectory_124 : decode cX3_readDirectory 124 = .ok (.aload_n 0, 1) := by decide +kernel
theorem dX3_readDirectory_125 : decode cX3_readDirectory 125 = .ok (.getfield 26, 3) := by decide +kernel
theorem dX3_readDirectory_128 : decode cX3_readDirectory 128 = .ok (.aload_n 0, 1) := by decide +kernel
theorem dX3_readDirectory_129 : decode cX3_readDirectory 129 = .ok (.getfield 105, 3) := by decide +kernel
theorem dX3_readDirectory_132 : decode cX3_readDirectory 132 = .ok (.l2i, 1) := by decide +kernel
theorem dX3_readDirectory_133 : decode cX3_readDirectory 133 = .ok (.aload_n 0, 1) := by decide +kernel
theorem dX3_readDirectory_134 : decode cX3_readDirectory 134 = .ok (.getfield 109, 3) := by decide +kernel
theorem dX3_readDirectory_137 : decode cX3_readDirectory 137 = .ok (.l2i, 1) := by decide +kernel
theorem dX3_readDirectory_138 : decode cX3_readDirectory 138 = .ok (.invokevirtual 112, 3) := by decide +kernel
theorem dX3_readDirectory_141 : decode cX3_readDirectory 141 = .ok (.aload_n 0, 1) := by decide +kernel
theorem dX3_readDirectory_142 : decode cX3_readDirectory 142 = .ok (.getfield 44, 3) := by decide +kernel
theorem dX3_readDirectory_145 : decode cX3_readDirectory 145 = .ok (.ifCond .ne 18, 3) := by decide +kernel
theorem dX3_readDirectory_148 : decode cX3_readDirectory 148 = .ok (.aload_n 0, 1) := by decide +kernel
theorem dX3_readDirectory_149 : decode cX3_readDirectory 149 = .ok (.getfield 26, 3) := by decide +kernel
theorem dX3_readDirectory_152 : decode cX3_readDirectory 152 = .ok (.getfield 118, 3) := by decide +kernel
theorem dX3_readDirectory_155 : decode cX3_readDirectory 155 = .ok (.ifCond .eq 8, 3) := by decide +kernel
theorem dX3_readDirectory_158 : decode cX3_readDirectory 158 = .ok (.aload_n 0, 1) := by decide +kernel
theorem dX3_readDirectory_159 : decode cX3_readDirectory 159 = .ok (.iconst 1, 1) := by decide +kernel
theorem dX3_readDirectory_160 : decode cX3_readDirectory 160 = .ok (.putfield 44, 3) := by decide +kernel
theorem dX3_readDirectory_163 : decode cX3_readDirectory 163 = .ok (.aload_n 0, 1) := by decide +kernel
theorem dX3_readDirectory_164 : decode cX3_readDirectory 164 = .ok (.lload 4, 2) := by decide +kernel
theorem dX3_readDirectory_166 : decode cX3_readDirectory 166 = .ok (.iconst 4, 1) := by decide +kernel
theorem dX3_readDirectory_167 : decode cX3_readDirectory 167 = .ok (.invokevirtual 58, 3) := by decide +kernel
theorem dX3_readDirectory_170 : decode cX3_readDirectory 170 = .ok (.lreturn, 1) := by decide +kernel
noncomputable def f_X3_readDirectory_141 (a4 : Int64) (T : Mm) : Option (Int64 × Mm) :=
  if (gI T 304 129) = 0 then (if (gI T 603 5) = 0 then (bd (f_X3_number a4 4 T) fun v3 T4 =>
  some (v3, T4))
  else (lb (uI T 304 129 1) fun T5 =>
  bd (f_X3_number a4 4 T5) fun v6 T7 =>
  some (v6, T7)))
  else (bd (f_X3_number a4 4 T) fun v1 T2 =>
  some (v1, T2))
set_option maxRecDepth 100000 in
set_option maxHeartbeats 4000000 in
theorem s_X3_readDirectory_141 {x : JX} {ad : Nat → Nat} {U : Mm} {S0 : Hp} {q : Int64 × Mm}  (hn9 : x_n x = 7) (C : CB x RX3 cX3_readDirectory) (M : CMr x 7 (some .long) S0 ad true U eJ q) (a4 : Int64) (T : Mm) (h : f_X3_readDirectory_141  a4 T = some q) : Jr x ad true U T [(0, .ref (ad 129)), (4, .long a4)] 141 [] := by
  unfold f_X3_readDirectory_141 at h
  refine r_aload_n C dX3_readDirectory_141 rfl 0 rfl ?_
  refine r_geti (f := 304) C flX3_44 dX3_readDirectory_142 kq_129 (by decide) (by decide) rfl ?_
  refine r_if_ne (tgt := 163) C dX3_readDirectory_145 (by decide) h (fun h => ?_) (fun h => ?_)
  · refine r_aload_n C dX3_readDirectory_163 rfl 0 rfl ?_
    refine r_lload C dX3_readDirectory_164 1 rfl ?_
    refine r_iconst (v := 4) C dX3_readDirectory_166 (by decide) ?_
    refine r_callVJ C M h [.long a4, .int 4] [] mlX3_58 mcX3_number (fun q9 e9 => s_X3_number a4 4  e9) kq_129 rfl (by decide) (by decide) rfl rfl (Nat.le_of_ble_eq_true rfl) dX3_readDirectory_167 (fun v1 T2 h => ?_)
    exact r_lret C M dX3_readDirectory_170 h
  · refine r_aload_n C dX3_readDirectory_148 rfl 0 rfl ?_
    refine r_getp (f := 300) (j := 5) C flX3_26 dX3_readDirectory_149 kq_129 (by decide) rfl (fun W => pt_300 kq_129 W) ?_
    refine r_geti (f := 603) C flX3_118 dX3_readDirectory_152 kq_5 (by decide) (by decide) rfl ?_
    refine r_if_eq (tgt := 163) C dX3_readDirectory_155 (by decide) h (fun h => ?_) (fun h => ?_)
    · refine r_aload_n C dX3_readDirectory_163 rfl 0 rfl ?_
      refine r_lload C dX3_readDirectory_164 1 rfl ?_
      refine r_iconst (v := 4) C dX3_readDirectory_166 (by decide) ?_
      refine r_callVJ C M h [.long a4, .int 4] [] mlX3_58 mcX3_number (fun q9 e9 => s_X3_number a4 4  e9) kq_129 rfl (by decide) (by decide) rfl rfl (Nat.le_of_ble_eq_true rfl) dX3_readDirectory_167 (fun v3 T4 h => ?_)
      exact r_lret C M dX3_readDirectory_170 h
    · refine r_aload_n C dX3_readDirectory_158 rfl 0 rfl ?_
      refine r_iconst (v := 1) C dX3_readDirectory_159 (by decide) ?_
      refine r_puti (f := 304) C flX3_44 (by decide) rfl rfl dX3_readDirectory_160 kq_129 rfl h (fun T5 h => ?_)
      refine r_aload_n C dX3_readDirectory_163 rfl 0 rfl ?_
      refine r_lload C dX3_readDirectory_164 1 rfl ?_
      show Jr _ _ _ _ _ _ 166 _
      refine r_iconst (v := 4) C dX3_readDirectory_166 (by decide) ?_
      refine r_callVJ C M h [.long a4, .int 4] [] mlX3_58 mcX3_number (fun q9 e9 => s_X3_number a4 4  e9) kq_129 rfl (by decide) (by decide) rfl rfl (Nat.le_of_ble_eq_true rfl) dX3_readDirectory_167 (fun v6 T7 h => ?_)
      exact r_lret C M dX3_readDirectory_170 h
noncomputable def f_X3_readDirectory_117 (a4 : Int64) (T : Mm) : Option (Int64 × Mm) :=
  if (gI T 304 129) = 0 then (bd (f_X6_come (((gJ T 309 129)).toInt32) (((gJ T 310 129)).toInt32) T) fun _ T1 =>
  f_X3_readDirectory_141 a4 T1)
  else (f_X3_readDirectory_141 a4 T)
set_option maxRecDepth 100000 in
set_option maxHeartbeats 4000000 in
theorem s_X3_readDirectory_117 {x : JX} {ad : Nat → Nat} {U : Mm} {S0 : Hp} {q : Int64 × Mm}  (hn9 : x_n x = 7) (C : CB x RX3 cX3_readDirectory) (M : CMr x 7 (some .long) S0 ad true U eJ q) (a4 : Int64) (T : Mm) (h : f_X3_readDirectory_117  a4 T = some q) : Jr x ad true U T [(0, .ref (ad 129)), (4, .long a4)] 117 [] := by
  unfold f_X3_readDirectory_117 at h
  refine r_aload_n C dX3_readDirectory_117 rfl 0 rfl ?_
  refine r_geti (f := 304) C flX3_44 dX3_readDirectory_118 kq_129 (by decide) (by decide) rfl ?_
  refine r_if_ne (tgt := 141) C dX3_readDirectory_121 (by decide) h (fun h => ?_) (fun h => ?_)
  · exact s_X3_readDirectory_141 hn9 C M  a4 T h
  · refine r_aload_n C dX3_readDirectory_124 rfl 0 rfl ?_
    refine r_getp (f := 300) (j := 5) C flX3_26 dX3_readDirectory_125 kq_129 (by decide) rfl (fun W => pt_300 kq_129 W) ?_
    refine r_aload_n C dX3_readDirectory_128 rfl 0 rfl ?_
    refine r_getl (f := 309) C flX3_105 dX3_readDirectory_129 kq_129 (by decide) rfl ?_
    refine r_l2i C dX3_readDirectory_132 rfl ?_
    show Jr _ _ _ _ _ _ 133 _
    refine r_aload_n C dX3_readDirectory_133 rfl 0 rfl ?_
    refine r_getl (f := 310) C flX3_109 dX3_readDirectory_134 kq_129 (by decide) rfl ?_
    refine r_l2i C dX3_readDirectory_137 rfl ?_
    refine r_callVN C M h [.int (((gJ T 309 129)).toInt32), .int (((gJ T 310 129)).toInt32)] [] mlX3_112 mcX6_come (fun q9 e9 => s_X6_come (((gJ T 309 129)).toInt32) (((gJ T 310 129)).toInt32)  e9) kq_5 rfl (by decide) (by decide) rfl rfl (Nat.le_of_ble_eq_true rfl) dX3_readDirectory_138 (fun _ T1 h => ?_)
    exact s_X3_readDirectory_141 hn9 C M  a4 T1 h
noncomputable def f_X3_readDirectory_101 (a1 : Int64) (a4 : Int64) (T : Mm) : Option (Int64 × Mm) :=
  bd (f_X3_checkEntries a1 T) fun _ T1 =>
  if (gI T1 304 129) = 0 then (bd (f_X3_readStrips T1) fun _ T2 =>
  f_X3_readDirectory_117 a4 T2)
  else (f_X3_readDirectory_117 a4 T1)
set_option maxRecDepth 100000 in
set_option maxHeartbeats 4000000 in
theorem s_X3_readDirectory_101 {x : JX} {ad : Nat → Nat} {U : Mm} {S0 : Hp} {q : Int64 × Mm}  (hn9 : x_n x = 7) (C : CB x RX3 cX3_readDirectory) (M : CMr x 7 (some .long) S0 ad true U eJ q) (a1 : Int64) (a4 : Int64) (T : Mm) (h : f_X3_readDirectory_101  a1 a4 T = some q) : Jr x ad true U T [(0, .ref (ad 129)), (1, .long a1), (4, .long a4)] 101 [] := by
  unfold f_X3_readDirectory_101 at h
  refine r_aload_n C dX3_readDirectory_101 rfl 0 rfl ?_
  refine r_lload_n C dX3_readDirectory_102 rfl 1 rfl ?_
  refine r_callVN C M h [.long a1] [] mlX3_99 mcX3_checkEntries (fun q9 e9 => s_X3_checkEntries a1  e9) kq_129 rfl (by decide) (by decide) rfl rfl (Nat.le_of_ble_eq_true rfl) dX3_readDirectory_103 (fun _ T1 h => ?_)
  refine r_aload_n C dX3_readDirectory_106 rfl 0 rfl ?_
  refine r_geti (f := 304) C flX3_44 dX3_readDirectory_107 kq_129 (by decide) (by decide) rfl ?_
  show Jr _ _ _ _ _ _ 110 _
  refine r_if_ne (tgt := 117) C dX3_readDirectory_110 (by decide) h (fun h => ?_) (fun h => ?_)
  · refine Jr.sub [0, 2] (lv' := [(0, .ref (ad 129)), (4, .long a4)]) rfl ?_
    exact s_X3_readDirectory_117 hn9 C M  a4 T1 h
  · refine r_aload_n C dX3_readDirectory_113 rfl 0 rfl ?_
    refine r_callVN C M h [] [] mlX3_102 mcX3_readStrips (fun q9 e9 => s_X3_readStrips   e9) kq_129 rfl (by decide) (by decide) rfl rfl (Nat.le_of_ble_eq_true rfl) dX3_readDirectory_114 (fun _ T2 h => ?_)
    refine Jr.sub [0, 2] (lv' := [(0, .ref (ad 129)), (4, .long a4)]) rfl ?_
    exact s_X3_readDirectory_117 hn9 C M  a4 T2 h
noncomputable def f_X3_readDirectory_b66 (k66 : Int64 → Int32 → Int64 → Int32 → Mm → Option (Int64 × Mm)) (a1 : Int64) (a3 : Int32) (a4 : Int64) (a6 : Int32) (T : Mm) : Option (Int64 × Mm) :=
  if a3 ≤ a6 then (f_X3_readDirectory_101 a1 a4 T)
  else (if (gI T 304 129) = 0 then (bd (f_X3_readEntry ((a1 + 2) + ((((12 : Int32) * a6)).toInt64)) T) fun _ T1 =>
  k66 a1 a3 a4 (a6 + 1) T1)
  else (f_X3_readDirectory_101 a1 a4 T))
set_option maxRecDepth 100000 in
set_option maxHeartbeats 4000000 in
theorem s_X3_readDirectory_b66 {x : JX} {ad : Nat → Nat} {U : Mm} {S0 : Hp} {q : Int64 × Mm}  {k66 : Int64 → Int32 → Int64 → Int32 → Mm → Option (Int64 × Mm)} (hn9 : x_n x = 7) (C : CB x RX3 cX3_readDirectory) (M : CMr x 7 (some .long) S0 ad true U eJ q) (hk66 : ∀ (a1 : Int64) (a3 : Int32) (a4 : Int64) (a6 : Int32) (T : Mm), k66 a1 a3 a4 a6 T = some q → Jr x ad true U T [(0, .ref (ad 129)), (1, .long a1), (3, .int a3), (4, .long a4), (6, .int a6)] 66 []) (a1 : Int64) (a3 : Int32) (a4 : Int64) (a6 : Int32) (T : Mm) (h : f_X3_readDirectory_b66 k66 a1 a3 a4 a6 T = some q) : Jr x ad true U T [(0, .ref (ad 129)), (1, .long a1), (3, .int a3), (4, .long a4), (6, .int a6)] 66 [] := by
  unfold f_X3_readDirectory_b66 at h
  refine r_iload C dX3_readDirectory_66 4 rfl ?_
  refine r_iload_n C dX3_readDirectory_68 rfl 2 rfl ?_
  refine r_ic_ge (tgt := 101) C dX3_readDirectory_69 (by decide) h (fun h => ?_) (fun h => ?_)
  · refine Jr.sub [0, 1, 3] (lv' := [(0, .ref (ad 129)), (1, .long a1), (4, .long a4)]) rfl ?_
    exact s_X3_readDirectory_101 hn9 C M  a1 a4 T h
  · refine r_aload_n C dX3_readDirectory_72 rfl 0 rfl ?_
    refine r_geti (f := 304) C flX3_44 dX3_readDirectory_73 kq_129 (by decide) (by decide) rfl ?_
    refine r_if_ne (tgt := 101) C dX3_readDirectory_76 (by decide) h (fun h => ?_) (fun h => ?_)
    · refine Jr.sub [0, 1, 3] (lv' := [(0, .ref (ad 129)), (1, .long a1), (4, .long a4)]) rfl ?_
      exact s_X3_readDirectory_101 hn9 C M  a1 a4 T h
    · refine r_aload_n C dX3_readDirectory_79 rfl 0 rfl ?_
      refine r_lload_n C dX3_readDirectory_80 rfl 1 rfl ?_
      refine r_ldc2 (v := 2) C dX3_readDirectory_81 kcX3_84 ?_
      refine r_ladd C dX3_readDirectory_84 rfl ?_
      refine r_bipush (v := 12) C dX3_readDirectory_85 (by decide) ?_
      show Jr _ _ _ _ _ _ 87 _
      refine r_iload C dX3_readDirectory_87 4 rfl ?_
      refine r_imul C dX3_readDirectory_89 rfl ?_
      refine r_i2l C dX3_readDirectory_90 rfl ?_
      refine r_ladd C dX3_readDirectory_91 rfl ?_
      refine r_callVN C M h [.long ((a1 + 2) + ((((12 : Int32) * a6)).toInt64))] [] mlX3_95 mcX3_readEntry (fun q9 e9 => s_X3_readEntry ((a1 + 2) + ((((12 : Int32) * a6)).toInt64))  e9) kq_129 rfl (by decide) (by decide) rfl rfl (Nat.le_of_ble_eq_true rfl) dX3_readDirectory_92 (fun _ T1 h => ?_)
      refine r_iinc (q := 4) (v := (a6 + 1)) (lv' := [(6, .int (a6 + 1)), (0, .ref (ad 129)), (1, .long a1), (3, .int a3), (4, .long a4)]) C dX3_readDirectory_95 rfl (by rw [show Int32.ofInt (1) = 1 by decide]) (by rw [hn9]; decide) rfl ?_
      show Jr _ _ _ _ _ _ 98 _
      refine r_goto (tgt := 66) C dX3_readDirectory_98 (by decide) ?_
      refine Jr.sub [1, 2, 3, 4, 0] (lv' := [(0, .ref (ad 129)), (1, .long a1), (3, .int a3), (4, .long a4), (6, .int (a6 + 1))]) rfl ?_
      exact hk66 a1 a3 a4 (a6 + 1) T1 h
noncomputable def f_X3_readDirectory_l66 (n : Nat) : Int64 → Int32 → Int64 → Int32 → Mm → Option (Int64 × Mm) := Nat.rec (fun _ _ _ _ _ => none) (fun _ ih => f_X3_readDirectory_b66 ih) n
theorem s_X3_readDirectory_l66 {x : JX} {ad : Nat → Nat} {U : Mm} {S0 : Hp} {q : Int64 × Mm}  (hn9 : x_n x = 7) (C : CB x RX3 cX3_readDirectory) (M : CMr x 7 (some .long) S0 ad true U eJ q) : ∀ (n : Nat), ∀ (a1 : Int64) (a3 : Int32) (a4 : Int64) (a6 : Int32) (T : Mm), f_X3_readDirectory_l66  n a1 a3 a4 a6 T = some q → Jr x ad true U T [(0, .ref (ad 129)), (1, .long a1), (3, .int a3), (4, .long a4), (6, .int a6)] 66 [] := by
  intro n
  induction n with
  | zero => intro a1 a3 a4 a6 T  h; exact absurd h (by intro h; cases h)
  | succ n ih => exact fun a1 a3 a4 a6 T  h => s_X3_readDirectory_b66 hn9 C M (ih) a1 a3 a4 a6 T  h
noncomputable def f_X3_readDirectory (p1 : Int64) (T : Mm) : Option (Int64 × Mm) :=
  bd (f_X3_number p1 2 T) fun v1 T2 =>
  lb ((v1).toInt32) fun v3 =>
  lb (((p1 + 2) + ((12 : Int64) * ((v3).toInt64)))) fun v4 =>
  bd (f_X3_isDirectory p1 v3 T2) fun v5 T6 =>
  if v5 = 0 then (bd (f_X3_fail 3 p1 T6) fun _ T12 =>
  some (0, T12))
  else (ix (gI T6 308 129) 12 fun j7 => lb (uB T6 130 j7 (p1)) fun T9 =>
  lb (uI T9 308 129 ((gI T9 308 129) + 1)) fun T10 =>
  bd (f_X3_startEntries T10) fun _ T11 =>
  f_X3_readDirectory_l66 FU p1 v3 v4 0 T11)
set_option maxRecDepth 100000 in
set_option maxHeartbeats 4000000 in
theorem s_X3_readDirectory {ad : Nat → Nat} {U T : Mm} {q : Int64 × Mm}  (p1 : Int64) (h : f_X3_readDirectory p1 T = some q) : Cr 7 yX3_readDirectory cX3_readDirectory 7 (some .long) [.ref (ad 129), .long p1] ad true U T eJ q := by
  refine cr_of (by decide) (Nat.le_of_ble_eq_true rfl) fun x S0 hn9 C M => ?_
  have C : CB x RX3 cX3_readDirectory := C
  refine Jr.eq (lv' := [(0, .ref (ad 129)), (1, .long p1)]) (st' := []) rfl rfl ?_
  unfold f_X3_readDirectory at h
  refine r_aload_n C dX3_readDirectory_0 rfl 0 rfl ?_
  refine r_lload_n C dX3_readDirectory_1 rfl 1 rfl ?_
  refine r_iconst (v := 2) C dX3_readDirectory_2 (by decide) ?_
  refine r_callVJ C M h [.long p1, .int 2] [] mlX3_58 mcX3_number (fun q9 e9 => s_X3_number p1 2  e9) kq_129 rfl (by decide) (by decide) rfl rfl (Nat.le_of_ble_eq_true rfl) dX3_readDirectory_3 (fun v1 T2 h => ?_)
  refine r_l2i C dX3_readDirectory_6 rfl ?_
  show Jr _ _ _ _ _ _ 7 _
  refine r_lbI h (fun v3 h => ?_)
  refine r_istore_n (lv' := [(3, .int v3), (0, .ref (ad 129)), (1, .long p1)]) C dX3_readDirectory_7 rfl (by rw [hn9]; decide) rfl ?_
  refine r_lload_n C dX3_readDirectory_8 rfl 2 rfl ?_
  refine r_ldc2 (v := 2) C dX3_readDirectory_9 kcX3_84 ?_
  refine r_ladd C dX3_readDirectory_12 rfl ?_
  refine r_ldc2 (v := 12) C dX3_readDirectory_13 kcX3_86 ?_
  refine r_iload_n C dX3_readDirectory_16 rfl 0 rfl ?_
  show Jr _ _ _ _ _ _ 17 _
  refine r_i2l C dX3_readDirectory_17 rfl ?_
  refine r_lmul C dX3_readDirectory_18 rfl ?_
  refine r_ladd C dX3_readDirectory_19 rfl ?_
  refine r_lbJ h (fun v4 h => ?_)
  refine r_lstore (lv' := [(4, .long v4), (3, .int v3), (0, .ref (ad 129)), (1, .long p1)]) C dX3_readDirectory_20 (by rw [hn9]; decide) rfl ?_
  refine r_aload_n C dX3_readDirectory_22 rfl 2 rfl ?_
  refine r_lload_n C dX3_readDirectory_23 rfl 3 rfl ?_
  show Jr _ _ _ _ _ _ 24 _
  refine r_iload_n C dX3_readDirectory_24 rfl 1 rfl ?_
  refine r_callVI C M h [.long p1, .int v3] [] mlX3_88 mcX3_isDirectory (fun q9 e9 => s_X3_isDirectory p1 v3  e9) kq_129 rfl (by decide) (by decide) rfl rfl (Nat.le_of_ble_eq_true rfl) dX3_readDirectory_25 (fun v5 T6 h => ?_)
  refine r_if_ne (tgt := 39) C dX3_readDirectory_28 (by decide) h (fun h => ?_) (fun h => ?_)
  · refine r_aload_n C dX3_readDirectory_39 rfl 2 rfl ?_
    refine r_getp (f := 307) (j := 130) C flX3_15 dX3_readDirectory_40 kq_129 (by decide) rfl (fun W => pt_307 kq_129 W) ?_
    refine r_aload_n C dX3_readDirectory_43 rfl 2 rfl ?_
    refine r_geti (f := 308) C flX3_50 dX3_readDirectory_44 kq_129 (by decide) (by decide) rfl ?_
    refine r_lload_n C dX3_readDirectory_47 rfl 3 rfl ?_
    show Jr _ _ _ _ _ _ 48 _
    refine r_last (n := 12) C dX3_readDirectory_48 kq_130 lq_130 h (fun j7 T9 hj8 h => ?_)
    refine r_aload_n C dX3_readDirectory_49 rfl 2 rfl ?_
    refine r_dup C dX3_readDirectory_50 rfl ?_
    refine r_geti (f := 308) C flX3_50 dX3_readDirectory_51 kq_129 (by decide) (by decide) rfl ?_
    refine r_iconst (v := 1) C dX3_readDirectory_54 (by decide) ?_
    refine r_iadd C dX3_readDirectory_55 rfl ?_
    show Jr _ _ _ _ _ _ 56 _
    refine r_puti (f := 308) C flX3_50 (by decide) rfl rfl dX3_readDirectory_56 kq_129 rfl h (fun T10 h => ?_)
    refine r_aload_n C dX3_readDirectory_59 rfl 2 rfl ?_
    refine r_callVN C M h [] [] mlX3_92 mcX3_startEntries (fun q9 e9 => s_X3_startEntries   e9) kq_129 rfl (by decide) (by decide) rfl rfl (Nat.le_of_ble_eq_true rfl) dX3_readDirectory_60 (fun _ T11 h => ?_)
    refine r_iconst (v := 0) C dX3_readDirectory_63 (by decide) ?_
    refine r_istore (lv' := [(6, .int 0), (4, .long v4), (3, .int v3), (0, .ref (ad 129)), (1, .long p1)]) C dX3_readDirectory_64 (by rw [hn9]; decide) rfl ?_
    refine Jr.sub [3, 4, 2, 1, 0] (lv' := [(0, .ref (ad 129)), (1, .long p1), (3, .int v3), (4, .long v4), (6, .int 0)]) rfl ?_
    exact s_X3_readDirectory_l66 hn9 C M  FU p1 v3 v4 0 T11 h
  · refine r_aload_n C dX3_readDirectory_31 rfl 2 rfl ?_
    refine r_iconst (v := 3) C dX3_readDirectory_32 (by decide) ?_
    refine r_lload_n C dX3_readDirectory_33 rfl 3 rfl ?_
    refine r_callVN C M h [.int 3, .long p1] [] mlX3_80 mcX3_fail (fun q9 e9 => s_X3_fail 3 p1  e9) kq_129 rfl (by decide) (by decide) rfl rfl (Nat.le_of_ble_eq_true rfl) dX3_readDirectory_34 (fun _ T12 h => ?_)
    refine r_lconst (v := 0) C dX3_readDirectory_37 (by decide) ?_
    show Jr _ _ _ _ _ _ 38 _
    exact r_lret C M dX3_readDirectory_38 h
theorem dX3_read_0 : decode cX3_read 0 = .ok (.aload_n 0, 1) := by decide +kernel
theorem dX3_read_1 : decode cX3_read 1 = .ok (.aload_n 1, 1) := by decide +kernel
theorem dX3_read_2 : decode cX3_read 2 = .ok (.putfield 9, 3) := by decide +kernel
theorem dX3_read_5 : decode cX3_read 5 = .ok (.aload_n 0, 1) := by decide +kernel
theorem dX3_read_6 : decode cX3_read 6 = .ok (.iload_n 2, 1) := by decide +kernel
theorem dX3_read_7 : decode cX3_read 7 = .ok (.putfield 37, 3) := by decide +kernel
theorem dX3_read_10 : decode cX3_read 10 = .ok (.aload_n 0, 1) := by decide +kernel
theorem dX3_read_11 : decode cX3_read 11 = .ok (.iload_n 3, 1) := by decide +kernel
theorem dX3_read_12 : decode cX3_read 12 = .ok (.iload_n 2, 1) := by decide +kernel
theorem dX3_read_13 : decode cX3_read 13 = .ok (.isub, 1) := by decide +kernel
theorem dX3_read_14 : decode cX3_read 14 = .ok (.putfield 41, 3) := by decide +kernel
theorem dX3_read_17 : decode cX3_read 17 = .ok (.aload_n 0, 1) := by decide +kernel
theorem dX3_read_18 : decode cX3_read 18 = .ok (.iconst 0, 1) := by decide +kernel
theorem dX3_read_19 : decode cX3_read 19 = .ok (.putfield 44, 3) := by decide +kernel
theorem dX3_read_22 : decode cX3_read 22 = .ok (.aload_n 0, 1) := by decide +kernel
theorem dX3_read_23 : decode cX3_read 23 = .ok (.iconst (-1), 1) := by decide +kernel
theorem dX3_read_24 : decode cX3_read 24 = .ok (.putfield 47, 3) := by decide +kernel
theorem dX3_read_27 : decode cX3_read 27 = .ok (.aload_n 0, 1) := by decide +kernel
theorem dX3_read_28 : decode cX3_read 28 = .ok (.iconst 0, 1) := by decide +kernel
theorem dX3_read_29 : decode cX3_read 29 = .ok (.putfield 50, 3) := by decide +kernel
theorem dX3_read_32 : decode cX3_read 32 = .ok (.aload_n 0, 1) := by decide +kernel
theorem dX3_read_33 : decode cX3_read 33 = .ok (.invokevirtual 53, 3) := by decide +kernel
theorem dX3_read_36 : decode cX3_read 36 = .ok (.aload_n 0, 1) := by decide +kernel
theorem dX3_read_37 : decode cX3_read 37 = .ok (.getfield 44, 3) := by decide +kernel
theorem dX3_read_40 : decode cX3_read 40 = .ok (.ifCond .ne 14, 3) := by decide +kernel
theorem dX3_read_43 : decode cX3_read 43 = .ok (.aload_n 0, 1) := by decide +kernel
theorem dX3_read_44 : decode cX3_read 44 = .ok (.ldc2_w 56, 3) := by decide +kernel
theorem dX3_read_47 : decode cX3_read 47 = .ok (.iconst 4, 1) := by decide +kernel
theorem dX3_read_48 : decode cX3_read 48 = .ok (.invokevirtual 58, 3) := by decide +kernel
theorem dX3_read_51 : decode cX3_read 51 = .ok (.goto 4, 3) := by decide +kernel
theorem dX3_read_54 : decode cX3_read 54 = .ok (.lconst 0, 1) := by decide +kernel
theorem dX3_read_55 : decode cX3_read 55 = .ok (.lstore 4, 2) := by decide +kernel
theorem dX3_read_57 : decode cX3_read 57 = .ok (.iconst 0, 1) := by decide +kernel
theorem dX3_read_58 : decode cX3_read 58 = .ok (.istore 6, 2) := by decide +kernel
theorem dX3_read_60 : decode cX3_read 60 = .ok (.iload 6, 2) := by decide +kernel
theorem dX3_read_62 : decode cX3_read 62 = .ok (.bipush 12, 2) := by decide +kernel
theorem dX3_read_64 : decode cX3_read 64 = .ok (.if_icmp .gt 31, 3) := by decide +kernel
theorem dX3_read_67 : decode cX3_read 67 = .ok (.lload 4, 2) := by decide +kernel
theorem dX3_read_69 : decode cX3_read 69 = .ok (.lconst 0, 1) := by decide +kernel
theorem dX3_read_70 : decode cX3_read 70 = .ok (.lcmp, 1) := by decide +kernel
theorem dX3_read_71 : decode cX3_read 71 = .ok (.ifCond .eq 24, 3) := by decide +kernel
theorem dX3_read_74 : decode cX3_read 74 = .ok (.aload_n 0, 1) := by decide +kernel
theorem dX3_read_75 : decode cX3_read 75 = .ok (.getfield 44, 3) := by decide +kernel
theorem dX3_read_78 : decode cX3_read 78 = .ok (.ifCond .ne 17, 3) := by decide +kernel
theorem dX3_read_81 : decode cX3_read 81 = .ok (.aload_n 0, 1) := by decide +kernel
theorem dX3_read_82 : decode cX3_read 82 = .ok (.lload 4, 2) := by decide +kernel
theorem dX3_read_84 : decode cX3_read 84 = .ok (.invokevirtual 62, 3) := by decide +kernel
theorem dX3_read_87 : decode cX3_read 87 = .ok (.lstore 4, 2) := by decide +kernel
theorem dX3_read_89 : decode cX3_read 89 = .ok (.iinc 6 1, 3) := by decide +kernel
theorem dX3_read_92 : decode cX3_read 92 = .ok (.goto (-32), 3) := by decide +kernel
theorem dX3_read_95 : decode cX3_read 95 = .ok (.return_, 1) := by decide +kernel
noncomputable def f_X3_read_b60 (k60 : Int64 → Int32 → Mm → Option (Unit × Mm)) (a4 : Int64) (a6 : Int32) (T : Mm) : Option (Unit × Mm) :=
  if 12 < a6 then (some ((), T))
  else (if (lg_cmp a4 0) = 0 then (some ((), T))
  else (if (gI T 304 129) = 0 then (bd (f_X3_readDirectory a4 T) fun v1 T2 =>
  k60 v1 (a6 + 1) T2)
  else (some ((), T))))
set_option maxRecDepth 100000 in
set_option maxHeartbeats 4000000 in
theorem s_X3_read_b60 {x : JX} {ad : Nat → Nat} {U : Mm} {S0 : Hp} {q : Unit × Mm}  {k60 : Int64 → Int32 → Mm → Option (Unit × Mm)} (hn9 : x_n x = 7) (C : CB x RX3 cX3_read) (M : CMr x 8 none S0 ad true U eV q) (hk60 : ∀ (a4 : Int64) (a6 : Int32) (T : Mm), k60 a4 a6 T = some q → Jr x ad true U T [(0, .ref (ad 129)), (4, .long a4), (6, .int a6)] 60 []) (a4 : Int64) (a6 : Int32) (T : Mm) (h : f_X3_read_b60 k60 a4 a6 T = some q) : Jr x ad true U T [(0, .ref (ad 129)), (4, .long a4), (6, .int a6)] 60 [] := by
  unfold f_X3_read_b60 at h
  refine r_iload C dX3_read_60 2 rfl ?_
  refine r_bipush (v := 12) C dX3_read_62 (by decide) ?_
  refine r_ic_gt (tgt := 95) C dX3_read_64 (by decide) h (fun h => ?_) (fun h => ?_)
  · exact r_vret C M dX3_read_95 h
  · refine r_lload C dX3_read_67 1 rfl ?_
    refine r_lconst (v := 0) C dX3_read_69 (by decide) ?_
    refine r_lcmp C dX3_read_70 ?_
    refine r_if_eq (tgt := 95) C dX3_read_71 (by decide) h (fun h => ?_) (fun h => ?_)
    · exact r_vret C M dX3_read_95 h
    · refine r_aload_n C dX3_read_74 rfl 0 rfl ?_
      refine r_geti (f := 304) C flX3_44 dX3_read_75 kq_129 (by decide) (by decide) rfl ?_
      refine r_if_ne (tgt := 95) C dX3_read_78 (by decide) h (fun h => ?_) (fun h => ?_)
      · exact r_vret C M dX3_read_95 h
      · refine r_aload_n C dX3_read_81 rfl 0 rfl ?_
        refine r_lload C dX3_read_82 1 rfl ?_
        refine r_callVJ C M h [.long a4] [] mlX3_62 mcX3_readDirectory (fun q9 e9 => s_X3_readDirectory a4  e9) kq_129 rfl (by decide) (by decide) rfl rfl (Nat.le_of_ble_eq_true rfl) dX3_read_84 (fun v1 T2 h => ?_)
        refine r_lstore (lv' := [(4, .long v1), (0, .ref (ad 129)), (6, .int a6)]) C dX3_read_87 (by rw [hn9]; decide) rfl ?_
        refine r_iinc (q := 2) (v := (a6 + 1)) (lv' := [(6, .int (a6 + 1)), (4, .long v1), (0, .ref (ad 129))]) C dX3_read_89 rfl (by rw [show Int32.ofInt (1) = 1 by decide]) (by rw [hn9]; decide) rfl ?_
        show Jr _ _ _ _ _ _ 92 _
        refine r_goto (tgt := 60) C dX3_read_92 (by decide) ?_
        refine Jr.sub [2, 1, 0] (lv' := [(0, .ref (ad 129)), (4, .long v1), (6, .int (a6 + 1))]) rfl ?_
        exact hk60 v1 (a6 + 1) T2 h
noncomputable def f_X3_read_l60 (n : Nat) : Int64 → Int32 → Mm → Option (Unit × Mm) := Nat.rec (fun _ _ _ => none) (fun _ ih => f_X3_read_b60 ih) n
theorem s_X3_read_l60 {x : JX} {ad : Nat → Nat} {U : Mm} {S0 : Hp} {q : Unit × Mm}  (hn9 : x_n x = 7) (C : CB x RX3 cX3_read) (M : CMr x 8 none S0 ad true U eV q) : ∀ (n : Nat), ∀ (a4 : Int64) (a6 : Int32) (T : Mm), f_X3_read_l60  n a4 a6 T = some q → Jr x ad true U T [(0, .ref (ad 129)), (4, .long a4), (6, .int a6)] 60 [] := by
  intro n
  induction n with
  | zero => intro a4 a6 T  h; exact absurd h (by intro h; cases h)
  | succ n ih => exact fun a4 a6 T  h => s_X3_read_b60 hn9 C M (ih) a4 a6 T  h
noncomputable def f_X3_read (p1 : Nat) (p2 : Int32) (p3 : Int32) (T : Mm) : Option (Unit × Mm) :=
  lb (uR T 301 129 (some p1)) fun T1 =>
  lb (uI T1 302 129 p2) fun T2 =>
  lb (uI T2 303 129 (p3 - p2)) fun T3 =>
  lb (uI T3 304 129 0) fun T4 =>
  lb (uI T4 305 129 (-1)) fun T5 =>
  lb (uI T5 308 129 0) fun T6 =>
  bd (f_X3_readHeader T6) fun _ T7 =>
  if (gI T7 304 129) = 0 then (bd (f_X3_number 4 4 T7) fun v8 T9 =>
  f_X3_read_l60 FU v8 0 T9)
  else (f_X3_read_l60 FU 0 0 T7)
set_option maxRecDepth 100000 in
set_option maxHeartbeats 4000000 in
theorem s_X3_read {ad : Nat → Nat} {U T : Mm} {q : Unit × Mm}  (p1 : Nat) (p2 : Int32) (p3 : Int32) (hk1 : kS true p1 = 13) (h : f_X3_read p1 p2 p3 T = some q) : Cr 8 yX3_read cX3_read 7 none [.ref (ad 129), .ref (ad p1), .int p2, .int p3] ad true U T eV q := by
  refine cr_of (by decide) (Nat.le_of_ble_eq_true rfl) fun x S0 hn9 C M => ?_
  have C : CB x RX3 cX3_read := C
  refine Jr.eq (lv' := [(0, .ref (ad 129)), (1, .ref (ad p1)), (2, .int p2), (3, .int p3)]) (st' := []) rfl rfl ?_
  unfold f_X3_read at h
  refine r_aload_n C dX3_read_0 rfl 0 rfl ?_
  refine r_aload_n C dX3_read_1 rfl 1 rfl ?_
  refine r_putr (f := 301) C flX3_9 (by decide) rfl rfl dX3_read_2 kq_129 rfl (by decide) h (fun T1 h => ?_)
  refine r_aload_n C dX3_read_5 rfl 0 rfl ?_
  refine r_iload_n C dX3_read_6 rfl 2 rfl ?_
  show Jr _ _ _ _ _ _ 7 _
  refine r_puti (f := 302) C flX3_37 (by decide) rfl rfl dX3_read_7 kq_129 rfl h (fun T2 h => ?_)
  refine r_aload_n C dX3_read_10 rfl 0 rfl ?_
  refine r_iload_n C dX3_read_11 rfl 3 rfl ?_
  refine r_iload_n C dX3_read_12 rfl 2 rfl ?_
  refine r_isub C dX3_read_13 rfl ?_
  refine r_puti (f := 303) C flX3_41 (by decide) rfl rfl dX3_read_14 kq_129 rfl h (fun T3 h => ?_)
  show Jr _ _ _ _ _ _ 17 _
  refine r_aload_n C dX3_read_17 rfl 0 rfl ?_
  refine r_iconst (v := 0) C dX3_read_18 (by decide) ?_
  refine r_puti (f := 304) C flX3_44 (by decide) rfl rfl dX3_read_19 kq_129 rfl h (fun T4 h => ?_)
  refine r_aload_n C dX3_read_22 rfl 0 rfl ?_
  refine r_iconst (v := (-1)) C dX3_read_23 (by decide) ?_
  refine r_puti (f := 305) C flX3_47 (by decide) rfl rfl dX3_read_24 kq_129 rfl h (fun T5 h => ?_)
  show Jr _ _ _ _ _ _ 27 _
  refine r_aload_n C dX3_read_27 rfl 0 rfl ?_
  refine r_iconst (v := 0) C dX3_read_28 (by decide) ?_
  refine r_puti (f := 308) C flX3_50 (by decide) rfl rfl dX3_read_29 kq_129 rfl h (fun T6 h => ?_)
  refine r_aload_n C dX3_read_32 rfl 0 rfl ?_
  refine r_callVN C M h [] [] mlX3_53 mcX3_readHeader (fun q9 e9 => s_X3_readHeader   e9) kq_129 rfl (by decide) (by decide) rfl rfl (Nat.le_of_ble_eq_true rfl) dX3_read_33 (fun _ T7 h => ?_)
  refine r_aload_n C dX3_read_36 rfl 0 rfl ?_
  show Jr _ _ _ _ _ _ 37 _
  refine r_geti (f := 304) C flX3_44 dX3_read_37 kq_129 (by decide) (by decide) rfl ?_
  refine r_if_ne (tgt := 54) C dX3_read_40 (by decide) h (fun h => ?_) (fun h => ?_)
  · refine r_lconst (v := 0) C dX3_read_54 (by decide) ?_
    refine r_lstore (lv' := [(4, .long 0), (0, .ref (ad 129)), (1, .ref (ad p1)), (2, .int p2), (3, .int p3)]) C dX3_read_55 (by rw [hn9]; decide) rfl ?_
    refine r_iconst (v := 0) C dX3_read_57 (by decide) ?_
    refine r_istore (lv' := [(6, .int 0), (4, .long 0), (0, .ref (ad 129)), (1, .ref (ad p1)), (2, .int p2), (3, .int p3)]) C dX3_read_58 (by rw [hn9]; decide) rfl ?_
    refine Jr.sub [2, 1, 0] (lv' := [(0, .ref (ad 129)), (4, .long 0), (6, .int 0)]) rfl ?_
    exact s_X3_read_l60 hn9 C M  FU 0 0 T7 h
  · refine r_aload_n C dX3_read_43 rfl 0 rfl ?_
    refine r_ldc2 (v := 4) C dX3_read_44 kcX3_56 ?_
    refine r_iconst (v := 4) C dX3_read_47 (by decide) ?_
    refine r_callVJ C M h [.long 4, .int 4] [] mlX3_58 mcX3_number (fun q9 e9 => s_X3_number 4 4  e9) kq_129 rfl (by decide) (by decide) rfl rfl (Nat.le_of_ble_eq_true rfl) dX3_read_48 (fun v8 T9 h => ?_)
    refine r_goto (tgt := 55) C dX3_read_51 (by decide) ?_
    show Jr _ _ _ _ _ _ 55 _
    refine r_lstore (lv' := [(4, .long v8), (0, .ref (ad 129)), (1, .ref (ad p1)), (2, .int p2), (3, .int p3)]) C dX3_read_55 (by rw [hn9]; decide) rfl ?_
    refine r_iconst (v := 0) C dX3_read_57 (by decide) ?_
    refine r_istore (lv' := [(6, .int 0), (4, .long v8), (0, .ref (ad 129)), (1, .ref (ad p1)), (2, .int p2), (3, .int p3)]) C dX3_read_58 (by rw [hn9]; decide) rfl ?_
    refine Jr.sub [2, 1, 0] (lv' := [(0, .ref (ad 129)), (4, .long v8), (6, .int 0)]) rfl ?_
    exact s_X3_read_l60 hn9 C M  FU v8 0 T9 h
theorem dX11_print_0 : decode cX11_print 0 = .ok (.iload_n 1, 1) := by decide +kernel
theorem dX11_print_1 : decode cX11_print 1 = .ok (.iconst 1, 1) := by decide +kernel
theorem dX11_print_2 : decode cX11_print 2 = .ok (.if_icmp .lt 10, 3) := by decide +kernel
theorem dX11_print_5 : decode cX11_print 5 = .ok (.iload_n 1, 1) := by decide +kernel
theorem dX11_print_6 : decode cX11_print 6 = .ok (.sipush 800, 3) := by decide +kernel
theorem dX11_print_9 : decode cX11_print 9 = .ok (.if_icmp .le 5, 3) := by decide +kernel
theorem dX11_print_12 : decode cX11_print 12 = .ok (.iconst (-1), 1) := by decide +kernel
theorem dX11_print_13 : decode cX11_print 13 = .ok (.ireturn, 1) := by decide +kernel
theorem dX11_print_14 : decode cX11_print 14 = .ok (.aload_n 0, 1) := by decide +kernel
theorem dX11_print_15 : decode cX11_print 15 = .ok (.iconst 0, 1) := by decide +kernel
theorem dX11_print_16 : decode cX11_print 16 = .ok (.putfield 69, 3) := by decide +kernel
theorem dX11_print_19 : decode cX11_print 19 = .ok (.aload_n 0, 1) := by decide +kernel
theorem dX11_print_20 : decode cX11_print 20 = .ok (.iconst (-1), 1) := by decide +kernel
theorem dX11_print_21 : decode cX11_print 21 = .ok (.putfield 23, 3) := by decide +kernel
theorem dX11_print_24 : decode cX11_print 24 = .ok (.aload_n 0, 1) := by decide +kernel
theorem dX11_print_25 : decode cX11_print 25 = .ok (.iconst (-1), 1) := by decide +kernel
theorem dX11_print_26 : decode cX11_print 26 = .ok (.putfield 27, 3) := by decide +kernel
theorem dX11_print_29 : decode cX11_print 29 = .ok (.aload_n 0, 1) := by decide +kernel
theorem dX11_print_30 : decode cX11_print 30 = .ok (.getfield 33, 3) := by decide +kernel
theorem dX11_print_33 : decode cX11_print 33 = .ok (.invokevirtual 72, 3) := by decide +kernel
theorem dX11_print_36 : decode cX11_print 36 = .ok (.aload_n 0, 1) := by decide +kernel
theorem dX11_print_37 : decode cX11_print 37 = .ok (.getfield 42, 3) := by decide +kernel
theorem dX11_print_40 : decode cX11_print 40 = .ok (.invokevirtual 75, 3) := by decide +kernel
theorem dX11_print_43 : decode cX11_print 43 = .ok (.iconst 0, 1) := by decide +kernel
theorem dX11_print_44 : decode cX11_print 44 = .ok (.istore_n 2, 1) := by decide +kernel
theorem dX11_print_45 : decode cX11_print 45 = .ok (.iload_n 2, 1) := by decide +kernel
theorem dX11_print_46 : decode cX11_print 46 = .ok (.aload_n 0, 1) := by decide +kernel
theorem dX11_print_47 : decode cX11_print 47 = .ok (.getfield 60, 3) := by decide +kernel
theorem dX11_print_50 : decode cX11_print 50 = .ok (.if_icmp .ge 141, 3) := by decide +kernel
theorem dX11_print_53 : decode cX11_print 53 = .ok (.iload_n 2, 1) := by decide +kernel
theorem dX11_print_54 : decode cX11_print 54 = .ok (.bipush 6, 2) := by decide +kernel
theorem dX11_print_56 : decode cX11_print 56 = .ok (.if_icmp .ge 135, 3) := by decide +kernel
theorem dX11_print_59 : decode cX11_print 59 = .ok (.aload_n 0, 1) := by decide +kernel
theorem dX11_print_60 : decode cX11_print 60 = .ok (.getfield 69, 3) := by decide +kernel
theorem dX11_print_63 : decode cX11_print 63 = .ok (.ifCond .ne 128, 3) := by decide +kernel
theorem dX11_print_66 : decode cX11_print 66 = .ok (.aload_n 0, 1) := by decide +kernel
theorem dX11_print_67 : decode cX11_print 67 = .ok (.getfield 16, 3) := by decide +kernel
theorem dX11_print_70 : decode cX11_print 70 = .ok (.iload_n 2, 1) := by decide +kernel
theorem dX11_print_71 : decode cX11_print 71 = .ok (.iaload, 1) := by decide +kernel
theorem dX11_print_72 : decode cX11_print 72 = .ok (.ifCond .ne 50, 3) := by decide +kernel
theorem dX11_print_75 : decode cX11_print 75 = .ok (.aload_n 0, 1) := by decide +kernel
theorem dX11_print_76 : decode cX11_print 76 = .ok (.getfield 42, 3) := by decide +kernel
theorem dX11_print_79 : decode cX11_print 79 = .ok (.aload_n 0, 1) := by decide +kernel
theorem dX11_print_80 : decode cX11_print 80 = .ok (.getfield 13, 3) := by decide +kernel
theorem dX11_print_83 : decode cX11_print 83 = .ok (.aload_n 0, 1) := by decide +kernel
theorem dX11_print_84 : decode cX11_print 84 = .ok (.getfield 20, 3) := by decide +kernel
theorem dX11_print_87 : decode cX11_print 87 = .ok (.iload_n 2, 1) := by decide +kernel
theorem dX11_print_88 : decode cX11_print 88 = .ok (.iaload, 1) := by decide +kernel
theorem dX11_print_89 : decode cX11_print 89 = .ok (.aload_n 0, 1) := by decide +kernel
theorem dX11_print_90 : decode cX11_print 90 = .ok (.getfield 20, 3) := by decide +kernel
theorem dX11_print_93 : decode cX11_print 93 = .ok (.iload_n 2, 1) := by decide +kernel
theorem dX11_print_94 : decode cX11_print 94 = .ok (.iconst 1, 1) := by decide +kernel
theorem dX11_print_95 : decode cX11_print 95 = .ok (.iadd, 1) := by decide +kernel
theorem dX11_print_96 : decode cX11_print 96 = .ok (.iaload, 1) := by decide +kernel
theorem dX11_print_97 : decode cX11_print 97 = .ok (.invokevirtual 78, 3) := by decide +kernel
theorem dX11_print_100 : decode cX11_print 100 = .ok (.aload_n 0, 1) := by decide +kernel
theorem dX11_print_101 : decode cX11_print 101 = .ok (.aload_n 0, 1) := by decide +kernel
theorem dX11_print_102 : decode cX11_print 102 = .ok (.getfield 42, 3) := by decide +kernel
theorem dX11_print_105 : decode cX11_print 105 = .ok (.invokevirtual 82, 3) := by decide +kernel
theorem dX11_print_108 : decode cX11_print 108 = .ok (.ifCond .eq 7, 3) := by decide +kernel
theorem dX11_print_111 : decode cX11_print 111 = .ok (.iconst 1, 1) := by decide +kernel
theorem dX11_print_112 : decode cX11_print 112 = .ok (.goto 4, 3) := by decide +kernel
theorem dX11_print_115 : decode cX11_print 115 = .ok (.iconst 0, 1) := by decide +kernel
theorem dX11_print_116 : decode cX11_print 116 = .ok (.putfield 69, 3) := by decide +kernel
theorem dX11_print_119 : decode cX11_print 119 = .ok (.goto 50, 3) := by decide +kernel
theorem dX11_print_122 : decode cX11_print 122 = .ok (.aload_n 0, 1) := by decide +kernel
theorem dX11_print_123 : decode cX11_print 123 = .ok (.getfield 49, 3) := by decide +kernel
theorem dX11_print_126 : decode cX11_print 126 = .ok (.aload_n 0, 1) := by decide +kernel
theorem dX11_print_127 : decode cX11_print 127 = .ok (.getfield 13, 3) := by decide +kernel
theorem dX11_print_130 : decode cX11_print 130 = .ok (.aload_n 0, 1) := by decide +kernel
theorem dX11_print_131 : decode cX11_print 131 = .ok (.getfield 20, 3) := by decide +kernel
theorem dX11_print_134 : decode cX11_print 134 = .ok (.iload_n 2, 1) := by decide +kernel
theorem dX11_print_135 : decode cX11_print 135 = .ok (.iaload, 1) := by decide +kernel
theorem dX11_print_136 : decode cX11_print 136 = .ok (.aload_n 0, 1) := by decide +kernel
theorem dX11_print_137 : decode cX11_print 137 = .ok (.getfield 20, 3) := by decide +kernel
theorem dX11_print_140 : decode cX11_print 140 = .ok (.iload_n 2, 1) := by decide +kernel
theorem dX11_print_141 : decode cX11_print 141 = .ok (.iconst 1, 1) := by decide +kernel
theorem dX11_print_142 : decode cX11_print 142 = .ok (.iadd, 1) := by decide +kernel
theorem dX11_print_143 : decode cX11_print 143 = .ok (.iaload, 1) := by decide +kernel
theorem dX11_print_144 : decode cX11_print 144 = .ok (.invokevirtual 86, 3) := by decide +kernel
theorem dX11_print_147 : decode cX11_print 147 = .ok (.aload_n 0, 1) := by decide +kernel
theorem dX11_print_148 : decode cX11_print 148 = .ok (.aload_n 0, 1) := by decide +kernel
theorem dX11_print_149 : decode cX11_print 149 = .ok (.getfield 49, 3) := by decide +kernel
theorem dX11_print_152 : decode cX11_print 152 = .ok (.getfield 89, 3) := by decide +kernel
theorem dX11_print_155 : decode cX11_print 155 = .ok (.putfield 69, 3) := by decide +kernel
theorem dX11_print_158 : decode cX11_print 158 = .ok (.aload_n 0, 1) := by decide +kernel
theorem dX11_print_159 : decode cX11_print 159 = .ok (.aload_n 0, 1) := by decide +kernel
theorem dX11_print_160 : decode cX11_print 160 = .ok (.getfield 49, 3) := by decide +kernel
theorem dX11_print_163 : decode cX11_print 163 = .ok (.getfield 92, 3) := by decide +kernel
theorem dX11_print_166 : decode cX11_print 166 = .ok (.putfield 27, 3) := by decide +kernel
theorem dX11_print_169 : decode cX11_print 169 = .ok (.aload_n 0, 1) := by decide +kernel
theorem dX11_print_170 : decode cX11_print 170 = .ok (.aload_n 0, 1) := by decide +kernel
theorem dX11_print_171 : decode cX11_print 171 = .ok (.getfield 69, 3) := by decide +kernel
theorem dX11_print_174 : decode cX11_print 174 = .ok (.ifCond .ne 7, 3) := by decide +kernel
theorem dX11_print_177 : decode cX11_print 177 = .ok (.iconst (-1), 1) := by decide +kernel
theorem dX11_print_178 : decode cX11_print 178 = .ok (.goto 4, 3) := by decide +kernel
theorem dX11_print_181 : decode cX11_print 181 = .ok (.iload_n 2, 1) := by decide +kernel
theorem dX11_print_182 : decode cX11_print 182 = .ok (.putfield 23, 3) := by decide +kernel
theorem dX11_print_185 : decode cX11_print 185 = .ok (.iinc 2 1, 3) := by decide +kernel
theorem dX11_print_188 : decode cX11_print 188 = .ok (.goto (-143), 3) := by decide +kernel
theorem dX11_print_191 : decode cX11_print 191 = .ok (.aload_n 0, 1) := by decide +kernel
theorem dX11_print_192 : decode cX11_print 192 = .ok (.iconst 0, 1) := by decide +kernel
theorem dX11_print_193 : decode cX11_print 193 = .ok (.putfield 60, 3) := by decide +kernel
theorem dX11_print_196 : decode cX11_print 196 = .ok (.aload_n 0, 1) := by decide +kernel
theorem dX11_print_197 : decode cX11_print 197 = .ok (.getfield 69, 3) := by decide +kernel
theorem dX11_print_200 : decode cX11_print 200 = .ok (.ifCond .ne 11, 3) := by decide +kernel
theorem dX11_print_203 : decode cX11_print 203 = .ok (.aload_n 0, 1) := by decide +kernel
theorem dX11_print_204 : decode cX11_print 204 = .ok (.getfield 33, 3) := by decide +kernel
theorem dX11_print_207 : decode cX11_print 207 = .ok (.getfield 93, 3) := by decide +kernel
theorem dX11_print_210 : decode cX11_print 210 = .ok (.ireturn, 1) := by decide +kernel
theorem dX11_print_211 : decode cX11_print 211 = .ok (.aload_n 0, 1) := by decide +kernel
theorem dX11_print_212 : decode cX11_print 212 = .ok (.getfield 33, 3) := by decide +kernel
theorem dX11_print_215 : decode cX11_print 215 = .ok (.invokevirtual 72, 3) := by decide +kernel
theorem dX11_print_218 : decode cX11_print 218 = .ok (.aload_n 0, 1) := by decide +kernel
theorem dX11_print_219 : decode cX11_print 219 = .ok (.getfield 42, 3) := by decide +kernel
theorem dX11_print_222 : decode cX11_print 222 = .ok (.invokevirtual 96, 3) := by decide +kernel
theorem dX11_print_225 : decode cX11_print 225 = .ok (.bipush (-10), 2) := by decide +kernel
theorem dX11_print_227 : decode cX11_print 227 = .ok (.aload_n 0, 1) := by decide +kernel
theorem dX11_print_228 : decode cX11_print 228 = .ok (.getfield 69, 3) := by decide +kernel
theorem dX11_print_231 : decode cX11_print 231 = .ok (.isub, 1) := by decide +kernel
theorem dX11_print_232 : decode cX11_print 232 = .ok (.ireturn, 1) := by decide +kernel
noncomputable def f_X11_print_191 (T : Mm) : Option (Int32 × Mm) :=
  lb (uI T 1105 0 0) fun T1 =>
  if (gI T1 1109 0) = 0 then (some ((gI T1 602 5), T1))
  else (bd (f_X6_clear T1) fun _ T2 =>
  bd (f_X9_dropTemporary T2) fun _ T3 =>
  some (((-10 : Int32) - (gI T3 1109 0)), T3))
set_option maxRecDepth 100000 in
set_option maxHeartbeats 4000000 in
theorem s_X11_print_191 {x : JX} {ad : Nat → Nat} {U : Mm} {S0 : Hp} {q : Int32 × Mm}  (hn9 : x_n x = 3) (C : CB x RX11 cX11_print) (M : CMr x 106 (some .int) S0 ad true U eI q) (T : Mm) (h : f_X11_print_191   T = some q) : Jr x ad true U T [(0, .ref (ad 0))] 191 [] := by
  unfold f_X11_print_191 at h
  refine r_aload_n C dX11_print_191 rfl 0 rfl ?_
  refine r_iconst (v := 0) C dX11_print_192 (by decide) ?_
  refine r_puti (f := 1105) C flX11_60 (by decide) rfl rfl dX11_print_193 kq_0 rfl h (fun T1 h => ?_)
  refine r_aload_n C dX11_print_196 rfl 0 rfl ?_
  refine r_geti (f := 1109) C flX11_69 dX11_print_197 kq_0 (by decide) (by decide) rfl ?_
  show Jr _ _ _ _ _ _ 200 _
  refine r_if_ne (tgt := 211) C dX11_print_200 (by decide) h (fun h => ?_) (fun h => ?_)
  · refine r_aload_n C dX11_print_211 rfl 0 rfl ?_
    refine r_getp (f := 1106) (j := 5) C flX11_33 dX11_print_212 kq_0 (by decide) rfl (fun W => pt_1106 kq_0 W) ?_
    refine r_callVN C M h [] [] mlX11_72 mcX6_clear (fun q9 e9 => s_X6_clear   e9) kq_5 rfl (by decide) (by decide) rfl rfl (Nat.le_of_ble_eq_true rfl) dX11_print_215 (fun _ T2 h => ?_)
    refine r_aload_n C dX11_print_218 rfl 0 rfl ?_
    refine r_getp (f := 1107) (j := 23) C flX11_42 dX11_print_219 kq_0 (by decide) rfl (fun W => pt_1107 kq_0 W) ?_
    show Jr _ _ _ _ _ _ 222 _
    refine r_callVN C M h [] [] mlX11_96 mcX9_dropTemporary (fun q9 e9 => s_X9_dropTemporary   e9) kq_23 rfl (by decide) (by decide) rfl rfl (Nat.le_of_ble_eq_true rfl) dX11_print_222 (fun _ T3 h => ?_)
    refine r_bipush (v := (-10)) C dX11_print_225 (by decide) ?_
    refine r_aload_n C dX11_print_227 rfl 0 rfl ?_
    refine r_geti (f := 1109) C flX11_69 dX11_print_228 kq_0 (by decide) (by decide) rfl ?_
    refine r_isub C dX11_print_231 rfl ?_
    exact r_iret C M dX11_print_232 h
  · refine r_aload_n C dX11_print_203 rfl 0 rfl ?_
    refine r_getp (f := 1106) (j := 5) C flX11_33 dX11_print_204 kq_0 (by decide) rfl (fun W => pt_1106 kq_0 W) ?_
    refine r_geti (f := 602) C flX11_93 dX11_print_207 kq_5 (by decide) (by decide) rfl ?_
    exact r_iret C M dX11_print_210 h
noncomputable def f_X11_print_169 (k45 : Int32 → Mm → Option (Int32 × Mm)) (a2 : Int32) (T : Mm) : Option (Int32 × Mm) :=
  if (gI T 1109 0) = 0 then (lb (uI T 1110 0 (-1)) fun T2 =>
  k45 (a2 + 1) T2)
  else (lb (uI T 1110 0 a2) fun T1 =>
  k45 (a2 + 1) T1)
set_option maxRecDepth 100000 in
set_option maxHeartbeats 4000000 in
theorem s_X11_print_169 {x : JX} {ad : Nat → Nat} {U : Mm} {S0 : Hp} {q : Int32 × Mm}  {k45 : Int32 → Mm → Option (Int32 × Mm)} (hn9 : x_n x = 3) (C : CB x RX11 cX11_print) (M : CMr x 106 (some .int) S0 ad true U eI q) (hk45 : ∀ (a2 : Int32) (T : Mm), k45 a2 T = some q → Jr x ad true U T [(0, .ref (ad 0)), (2, .int a2)] 45 []) (a2 : Int32) (T : Mm) (h : f_X11_print_169 k45 a2 T = some q) : Jr x ad true U T [(0, .ref (ad 0)), (2, .int a2)] 169 [] := by
  unfold f_X11_print_169 at h
  refine r_aload_n C dX11_print_169 rfl 0 rfl ?_
  refine r_aload_n C dX11_print_170 rfl 0 rfl ?_
  refine r_geti (f := 1109) C flX11_69 dX11_print_171 kq_0 (by decide) (by decide) rfl ?_
  refine r_if_ne (tgt := 181) C dX11_print_174 (by decide) h (fun h => ?_) (fun h => ?_)
  · refine r_iload_n C dX11_print_181 rfl 1 rfl ?_
    refine r_puti (f := 1110) C flX11_23 (by decide) rfl rfl dX11_print_182 kq_0 rfl h (fun T1 h => ?_)
    refine r_iinc (q := 1) (v := (a2 + 1)) (lv' := [(2, .int (a2 + 1)), (0, .ref (ad 0))]) C dX11_print_185 rfl (by rw [show Int32.ofInt (1) = 1 by decide]) (by rw [hn9]; decide) rfl ?_
    refine r_goto (tgt := 45) C dX11_print_188 (by decide) ?_
    refine Jr.sub [1, 0] (lv' := [(0, .ref (ad 0)), (2, .int (a2 + 1))]) rfl ?_
    exact hk45 (a2 + 1) T1 h
  · refine r_iconst (v := (-1)) C dX11_print_177 (by decide) ?_
    refine r_goto (tgt := 182) C dX11_print_178 (by decide) ?_
    refine r_puti (f := 1110) C flX11_23 (by decide) rfl rfl dX11_print_182 kq_0 rfl h (fun T2 h => ?_)
    refine r_iinc (q := 1) (v := (a2 + 1)) (lv' := [(2, .int (a2 + 1)), (0, .ref (ad 0))]) C dX11_print_185 rfl (by rw [show Int32.ofInt (1) = 1 by decide]) (by rw [hn9]; decide) rfl ?_
    refine r_goto (tgt := 45) C dX11_print_188 (by decide) ?_
    refine Jr.sub [1, 0] (lv' := [(0, .ref (ad 0)), (2, .int (a2 + 1))]) rfl ?_
    exact hk45 (a2 + 1) T2 h
noncomputable def f_X11_print_b45 (k45 : Int32 → Mm → Option (Int32 × Mm)) (a2 : Int32) (T : Mm) : Option (Int32 × Mm) :=
  if (gI T 1105 0) ≤ a2 then (f_X11_print_191 T)
  else (if 6 ≤ a2 then (f_X11_print_191 T)
  else (if (gI T 1109 0) = 0 then (ix a2 6 fun j1 =>
  if (gA T 3 j1) = 0 then (ix a2 7 fun j10 =>
  ix (a2 + 1) 7 fun j12 =>
  bd (f_X9_run 2 (gA T 4 j10) (gA T 4 j12) T) fun _ T14 =>
  bd (f_X9_isMuch T14) fun v15 T16 =>
  if v15 = 0 then (lb (uI T16 1109 0 0) fun T17 =>
  f_X11_print_169 k45 a2 T17)
  else (lb (uI T16 1109 0 1) fun T18 =>
  f_X11_print_169 k45 a2 T18))
  else (ix a2 7 fun j3 =>
  ix (a2 + 1) 7 fun j5 =>
  bd (f_X3_read 2 (gA T 4 j3) (gA T 4 j5) T) fun _ T7 =>
  lb (uI T7 1109 0 (gI T7 304 129)) fun T8 =>
  lb (uI T8 1111 0 (gI T8 305 129)) fun T9 =>
  f_X11_print_169 k45 a2 T9))
  else (f_X11_print_191 T)))
set_option maxRecDepth 100000 in
set_option maxHeartbeats 4000000 in
theorem s_X11_print_b45 {x : JX} {ad : Nat → Nat} {U : Mm} {S0 : Hp} {q : Int32 × Mm}  {k45 : Int32 → Mm → Option (Int32 × Mm)} (hn9 : x_n x = 3) (C : CB x RX11 cX11_print) (M : CMr x 106 (some .int) S0 ad true U eI q) (hk45 : ∀ (a2 : Int32) (T : Mm), k45 a2 T = some q → Jr x ad true U T [(0, .ref (ad 0)), (2, .int a2)] 45 []) (a2 : Int32) (T : Mm) (h : f_X11_print_b45 k45 a2 T = some q) : Jr x ad true U T [(0, .ref (ad 0)), (2, .int a2)] 45 [] := by
  unfold f_X11_print_b45 at h
  refine r_iload_n C dX11_print_45 rfl 1 rfl ?_
  refine r_aload_n C dX11_print_46 rfl 0 rfl ?_
  refine r_geti (f := 1105) C flX11_60 dX11_print_47 kq_0 (by decide) (by decide) rfl ?_
  refine r_ic_ge (tgt := 191) C dX11_print_50 (by decide) h (fun h => ?_) (fun h => ?_)
  · refine Jr.sub [0] (lv' := [(0, .ref (ad 0))]) rfl ?_
    exact s_X11_print_191 hn9 C M  T h
  · refine r_iload_n C dX11_print_53 rfl 1 rfl ?_
    refine r_bipush (v := 6) C dX11_print_54 (by decide) ?_
    refine r_ic_ge (tgt := 191) C dX11_print_56 (by decide) h (fun h => ?_) (fun h => ?_)
    · refine Jr.sub [0] (lv' := [(0, .ref (ad 0))]) rfl ?_
      exact s_X11_print_191 hn9 C M  T h
    · refine r_aload_n C dX11_print_59 rfl 0 rfl ?_
      refine r_geti (f := 1109) C flX11_69 dX11_print_60 kq_0 (by decide) (by decide) rfl ?_
      refine r_if_ne (tgt := 191) C dX11_print_63 (by decide) h (fun h => ?_) (fun h => ?_)
      · refine Jr.sub [0] (lv' := [(0, .ref (ad 0))]) rfl ?_
        exact s_X11_print_191 hn9 C M  T h
      · refine r_aload_n C dX11_print_66 rfl 0 rfl ?_
        refine r_getp (f := 1103) (j := 3) C flX11_16 dX11_print_67 kq_0 (by decide) rfl (fun W => pt_1103 kq_0 W) ?_
        refine r_iload_n C dX11_print_70 rfl 1 rfl ?_
        refine r_iald (n := 6) C dX11_print_71 kq_3 lq_3 h (fun j1 hj2 h => ?_)
        refine r_if_ne (tgt := 122) C dX11_print_72 (by decide) h (fun h => ?_) (fun h => ?_)
        · refine r_aload_n C dX11_print_122 rfl 0 rfl ?_
          refine r_getp (f := 1108) (j := 129) C flX11_49 dX11_print_123 kq_0 (by decide) rfl (fun W => pt_1108 kq_0 W) ?_
          refine r_aload_n C dX11_print_126 rfl 0 rfl ?_
          refine r_getp (f := 1102) (j := 2) C flX11_13 dX11_print_127 kq_0 (by decide) rfl (fun W => pt_1102 kq_0 W) ?_
          refine r_aload_n C dX11_print_130 rfl 0 rfl ?_
          show Jr _ _ _ _ _ _ 131 _
          refine r_getp (f := 1104) (j := 4) C flX11_20 dX11_print_131 kq_0 (by decide) rfl (fun W => pt_1104 kq_0 W) ?_
          refine r_iload_n C dX11_print_134 rfl 1 rfl ?_
          refine r_iald (n := 7) C dX11_print_135 kq_4 lq_4 h (fun j3 hj4 h => ?_)
          refine r_aload_n C dX11_print_136 rfl 0 rfl ?_
          refine r_getp (f := 1104) (j := 4) C flX11_20 dX11_print_137 kq_0 (by decide) rfl (fun W => pt_1104 kq_0 W) ?_
          refine r_iload_n C dX11_print_140 rfl 1 rfl ?_
          show Jr _ _ _ _ _ _ 141 _
          refine r_iconst (v := 1) C dX11_print_141 (by decide) ?_
          refine r_iadd C dX11_print_142 rfl ?_
          refine r_iald (n := 7) C dX11_print_143 kq_4 lq_4 h (fun j5 hj6 h => ?_)
          refine r_callVN C M h [.ref (ad 2), .int (gA T 4 j3), .int (gA T 4 j5)] [] mlX11_86 mcX3_read (fun q9 e9 => s_X3_read 2 (gA T 4 j3) (gA T 4 j5) kq_2 e9) kq_129 rfl (by decide) (by decide) rfl rfl (Nat.le_of_ble_eq_true rfl) dX11_print_144 (fun _ T7 h => ?_)
          refine r_aload_n C dX11_print_147 rfl 0 rfl ?_
          refine r_aload_n C dX11_print_148 rfl 0 rfl ?_
          show Jr _ _ _ _ _ _ 149 _
          refine r_getp (f := 1108) (j := 129) C flX11_49 dX11_print_149 kq_0 (by decide) rfl (fun W => pt_1108 kq_0 W) ?_
          refine r_geti (f := 304) C flX11_89 dX11_print_152 kq_129 (by decide) (by decide) rfl ?_
          refine r_puti (f := 1109) C flX11_69 (by decide) rfl rfl dX11_print_155 kq_0 rfl h (fun T8 h => ?_)
          refine r_aload_n C dX11_print_158 rfl 0 rfl ?_
          refine r_aload_n C dX11_print_159 rfl 0 rfl ?_
          refine r_getp (f := 1108) (j := 129) C flX11_49 dX11_print_160 kq_0 (by decide) rfl (fun W => pt_1108 kq_0 W) ?_
          show Jr _ _ _ _ _ _ 163 _
          refine r_geti (f := 305) C flX11_92 dX11_print_163 kq_129 (by decide) (by decide) rfl ?_
          refine r_puti (f := 1111) C flX11_27 (by decide) rfl rfl dX11_print_166 kq_0 rfl h (fun T9 h => ?_)
          exact s_X11_print_169 hn9 C M hk45 a2 T9 h
        · refine r_aload_n C dX11_print_75 rfl 0 rfl ?_
          refine r_getp (f := 1107) (j := 23) C flX11_42 dX11_print_76 kq_0 (by decide) rfl (fun W => pt_1107 kq_0 W) ?_
          refine r_aload_n C dX11_print_79 rfl 0 rfl ?_
          refine r_getp (f := 1102) (j := 2) C flX11_13 dX11_print_80 kq_0 (by decide) rfl (fun W => pt_1102 kq_0 W) ?_
          refine r_aload_n C dX11_print_83 rfl 0 rfl ?_
          show Jr _ _ _ _ _ _ 84 _
          refine r_getp (f := 1104) (j := 4) C flX11_20 dX11_print_84 kq_0 (by decide) rfl (fun W => pt_1104 kq_0 W) ?_
          refine r_iload_n C dX11_print_87 rfl 1 rfl ?_
          refine r_iald (n := 7) C dX11_print_88 kq_4 lq_4 h (fun j10 hj11 h => ?_)
          refine r_aload_n C dX11_print_89 rfl 0 rfl ?_
          refine r_getp (f := 1104) (j := 4) C flX11_20 dX11_print_90 kq_0 (by decide) rfl (fun W => pt_1104 kq_0 W) ?_
          refine r_iload_n C dX11_print_93 rfl 1 rfl ?_
          show Jr _ _ _ _ _ _ 94 _
          refine r_iconst (v := 1) C dX11_print_94 (by decide) ?_
          refine r_iadd C dX11_print_95 rfl ?_
          refine r_iald (n := 7) C dX11_print_96 kq_4 lq_4 h (fun j12 hj13 h => ?_)
          refine r_callVN C M h [.ref (ad 2), .int (gA T 4 j10), .int (gA T 4 j12)] [] mlX11_78 mcX9_run (fun q9 e9 => s_X9_run 2 (gA T 4 j10) (gA T 4 j12) kq_2 e9) kq_23 rfl (by decide) (by decide) rfl rfl (Nat.le_of_ble_eq_true rfl) dX11_print_97 (fun _ T14 h => ?_)
          refine r_aload_n C dX11_print_100 rfl 0 rfl ?_
          refine r_aload_n C dX11_print_101 rfl 0 rfl ?_
          show Jr _ _ _ _ _ _ 102 _
          refine r_getp (f := 1107) (j := 23) C flX11_42 dX11_print_102 kq_0 (by decide) rfl (fun W => pt_1107 kq_0 W) ?_
          refine r_callVI C M h [] [.ref (ad 0)] mlX11_82 mcX9_isMuch (fun q9 e9 => s_X9_isMuch   e9) kq_23 rfl (by decide) (by decide) rfl rfl (Nat.le_of_ble_eq_true rfl) dX11_print_105 (fun v15 T16 h => ?_)
          refine r_if_eq (tgt := 115) C dX11_print_108 (by decide) h (fun h => ?_) (fun h => ?_)
          · refine r_iconst (v := 0) C dX11_print_115 (by decide) ?_
            refine r_puti (f := 1109) C flX11_69 (by decide) rfl rfl dX11_print_116 kq_0 rfl h (fun T17 h => ?_)
            refine r_goto (tgt := 169) C dX11_print_119 (by decide) ?_
            exact s_X11_print_169 hn9 C M hk45 a2 T17 h
          · refine r_iconst (v := 1) C dX11_print_111 (by decide) ?_
            refine r_goto (tgt := 116) C dX11_print_112 (by decide) ?_
            refine r_puti (f := 1109) C flX11_69 (by decide) rfl rfl dX11_print_116 kq_0 rfl h (fun T18 h => ?_)
            refine r_goto (tgt := 169) C dX11_print_119 (by decide) ?_
            exact s_X11_print_169 hn9 C M hk45 a2 T18 h
noncomputable def f_X11_print_l45 (n : Nat) : Int32 → Mm → Option (Int32 × Mm) := Nat.rec (fun _ _ => none) (fun _ ih => f_X11_print_b45 ih) n
theorem s_X11_print_l45 {x : JX} {ad : Nat → Nat} {U : Mm} {S0 : Hp} {q : Int32 × Mm}  (hn9 : x_n x = 3) (C : CB x RX11 cX11_print) (M : CMr x 106 (some .int) S0 ad true U eI q) : ∀ (n : Nat), ∀ (a2 : Int32) (T : Mm), f_X11_print_l45  n a2 T = some q → Jr x ad true U T [(0, .ref (ad 0)), (2, .int a2)] 45 [] := by
  intro n
  induction n with
  | zero => intro a2 T  h; exact absurd h (by intro h; cases h)
  | succ n ih => exact fun a2 T  h => s_X11_print_b45 hn9 C M (ih) a2 T  h
noncomputable def f_X11_print (p1 : Int32) (T : Mm) : Option (Int32 × Mm) :=
  if p1 < 1 then (some ((-1), T))
  else (if p1 ≤ 800 then (lb (uI T 1109 0 0) fun T1 =>
  lb (uI T1 1110 0 (-1)) fun T2 =>
  lb (uI T2 1111 0 (-1)) fun T3 =>
  bd (f_X6_clear T3) fun _ T4 =>
  bd (f_X9_startJob T4) fun _ T5 =>
  f_X11_print_l45 FU 0 T5)
  else (some ((-1), T)))
set_option maxRecDepth 100000 in
set_option maxHeartbeats 4000000 in
theorem s_X11_print {ad : Nat → Nat} {U T : Mm} {q : Int32 × Mm}  (p1 : Int32) (h : f_X11_print p1 T = some q) : Cr 106 yX11_print cX11_print 3 (some .int) [.ref (ad 0), .int p1] ad true U T eI q := by
  refine cr_of (by decide) (Nat.le_of_ble_eq_true rfl) fun x S0 hn9 C M => ?_
  have C : CB x RX11 cX11_print := C
  refine Jr.eq (lv' := [(0, .ref (ad 0)), (1, .int p1)]) (st' := []) rfl rfl ?_
  unfold f_X11_print at h
  refine r_iload_n C dX11_print_0 rfl 1 rfl ?_
  refine r_iconst (v := 1) C dX11_print_1 (by decide) ?_
  refine r_ic_lt (tgt := 12) C dX11_print_2 (by decide) h (fun h => ?_) (fun h => ?_)
  · refine r_iconst (v := (-1)) C dX11_print_12 (by decide) ?_
    exact r_iret C M dX11_print_13 h
  · refine r_iload_n C dX11_print_5 rfl 1 rfl ?_
    refine r_sipush (v := 800) C dX11_print_6 (by decide) ?_
    refine r_ic_le (tgt := 14) C dX11_print_9 (by decide) h (fun h => ?_) (fun h => ?_)
    · refine r_aload_n C dX11_print_14 rfl 0 rfl ?_
      refine r_iconst (v := 0) C dX11_print_15 (by decide) ?_
      refine r_puti (f := 1109) C flX11_69 (by decide) rfl rfl dX11_print_16 kq_0 rfl h (fun T1 h => ?_)
      refine r_aload_n C dX11_print_19 rfl 0 rfl ?_
      refine r_iconst (v := (-1)) C dX11_print_20 (by decide) ?_
      show Jr _ _ _ _ _ _ 21 _
      refine r_puti (f := 1110) C flX11_23 (by decide) rfl rfl dX11_print_21 kq_0 rfl h (fun T2 h => ?_)
      refine r_aload_n C dX11_print_24 rfl 0 rfl ?_
      refine r_iconst (v := (-1)) C dX11_print_25 (by decide) ?_
      refine r_puti (f := 1111) C flX11_27 (by decide) rfl rfl dX11_print_26 kq_0 rfl h (fun T3 h => ?_)
      refine r_aload_n C dX11_print_29 rfl 0 rfl ?_
      refine r_getp (f := 1106) (j := 5) C flX11_33 dX11_print_30 kq_0 (by decide) rfl (fun W => pt_1106 kq_0 W) ?_
      show Jr _ _ _ _ _ _ 33 _
      refine r_callVN C M h [] [] mlX11_72 mcX6_clear (fun q9 e9 => s_X6_clear   e9) kq_5 rfl (by decide) (by decide) rfl rfl (Nat.le_of_ble_eq_true rfl) dX11_print_33 (fun _ T4 h => ?_)
      refine r_aload_n C dX11_print_36 rfl 0 rfl ?_
      refine r_getp (f := 1107) (j := 23) C flX11_42 dX11_print_37 kq_0 (by decide) rfl (fun W => pt_1107 kq_0 W) ?_
      refine r_callVN C M h [] [] mlX11_75 mcX9_startJob (fun q9 e9 => s_X9_startJob   e9) kq_23 rfl (by decide) (by decide) rfl rfl (Nat.le_of_ble_eq_true rfl) dX11_print_40 (fun _ T5 h => ?_)
      refine r_iconst (v := 0) C dX11_print_43 (by decide) ?_
      refine r_istore_n (lv' := [(2, .int 0), (0, .ref (ad 0)), (1, .int p1)]) C dX11_print_44 rfl (by rw [hn9]; decide) rfl ?_
      refine Jr.sub [1, 0] (lv' := [(0, .ref (ad 0)), (2, .int 0)]) rfl ?_
      exact s_X11_print_l45 hn9 C M  FU 0 T5 h
    · refine r_iconst (v := (-1)) C dX11_print_12 (by decide) ?_
      exact r_iret C M dX11_print_13 h
theorem dX11_fault_0 : decode cX11_fault 0 = .ok (.iload_n 1, 1) := by decide +kernel
theorem dX11_fault_1 : decode cX11_fault 1 = .ok (.tableswitch 42 0 2 #[27, 32, 37], 27) := by decide +kernel
theorem dX11_fault_28 : decode cX11_fault 28 = .ok (.aload_n 0, 1) := by decide +kernel
theorem dX11_fault_29 : decode cX11_fault 29 = .ok (.getfield 69, 3) := by decide +kernel
theorem dX11_fault_32 : decode cX11_fault 32 = .ok (.ireturn, 1) := by decide +kernel
theorem dX11_fault_33 : decode cX11_fault 33 = .ok (.aload_n 0, 1) := by decide +kernel
theorem dX11_fault_34 : decode cX11_fault 34 = .ok (.getfield 23, 3) := by decide +kernel
theorem dX11_fault_37 : decode cX11_fault 37 = .ok (.ireturn, 1) := by decide +kernel
theorem dX11_fault_38 : decode cX11_fault 38 = .ok (.aload_n 0, 1) := by decide +kernel
theorem dX11_fault_39 : decode cX11_fault 39 = .ok (.getfield 27, 3) := by decide +kernel
theorem dX11_fault_42 : decode cX11_fault 42 = .ok (.ireturn, 1) := by decide +kernel
theorem dX11_fault_43 : decode cX11_fault 43 = .ok (.iconst (-1), 1) := by decide +kernel
theorem dX11_fault_44 : decode cX11_fault 44 = .ok (.ireturn, 1) := by decide +kernel
noncomputable def f_X11_fault (p1 : Int32) (T : Mm) : Option (Int32 × Mm) :=
  if p1 = 0 then (some ((gI T 1109 0), T))
  else if p1 = 1 then (some ((gI T 1110 0), T))
  else if p1 = 2 then (some ((gI T 1111 0), T))
  else (some ((-1), T))
set_option maxRecDepth 100000 in
set_option maxHeartbeats 4000000 in
theorem s_X11_fault {ad : Nat → Nat} {U T : Mm} {q : Int32 × Mm}  (p1 : Int32) (h : f_X11_fault p1 T = some q) : Cr 1 yX11_fault cX11_fault 2 (some .int) [.ref (ad 0), .int p1] ad true U T eI q := by
  refine cr_of (by decide) (Nat.le_of_ble_eq_true rfl) fun x S0 hn9 C M => ?_
  have C : CB x RX11 cX11_fault := C
  refine Jr.eq (lv' := [(0, .ref (ad 0)), (1, .int p1)]) (st' := []) rfl rfl ?_
  unfold f_X11_fault at h
  refine r_iload_n C dX11_fault_0 rfl 1 rfl ?_
  by_cases hs1 : p1 = 0
  · rw [if_pos hs1] at h
    refine r_top hs1 ?_
    refine r_tabIn (off := 27) (tgt := 28) C dX11_fault_1 (by decide) (by decide) (by decide) (by decide) ?_
    refine r_aload_n C dX11_fault_28 rfl 0 rfl ?_
    refine r_geti (f := 1109) C flX11_69 dX11_fault_29 kq_0 (by decide) (by decide) rfl ?_
    exact r_iret C M dX11_fault_32 h
  rw [if_neg hs1] at h
  by_cases hs2 : p1 = 1
  · rw [if_pos hs2] at h
    refine r_top hs2 ?_
    refine r_tabIn (off := 32) (tgt := 33) C dX11_fault_1 (by decide) (by decide) (by decide) (by decide) ?_
    refine r_aload_n C dX11_fault_33 rfl 0 rfl ?_
    refine r_geti (f := 1110) C flX11_23 dX11_fault_34 kq_0 (by decide) (by decide) rfl ?_
    exact r_iret C M dX11_fault_37 h
  rw [if_neg hs2] at h
  by_cases hs3 : p1 = 2
  · rw [if_pos hs3] at h
    refine r_top hs3 ?_
    refine r_tabIn (off := 37) (tgt := 38) C dX11_fault_1 (by decide) (by decide) (by decide) (by decide) ?_
    refine r_aload_n C dX11_fault_38 rfl 0 rfl ?_
    refine r_geti (f := 1111) C flX11_27 dX11_fault_39 kq_0 (by decide) (by decide) rfl ?_
    exact r_iret C M dX11_fault_42 h
  rw [if_neg hs3] at h
  refine r_tabOut (tgt := 43) C dX11_fault_1 (by have t09 : (p1).toInt ≠ 0 := ne_toInt hs1 (by decide); have t19 : (p1).toInt ≠ 1 := ne_toInt hs2 (by decide); have t29 : (p1).toInt ≠ 2 := ne_toInt hs3 (by decide); omega) (by decide) ?_
  refine r_iconst (v := (-1)) C dX11_fault_43 (by decide) ?_
  exact r_iret C M dX11_fault_44 h
theorem dX11_outs_0 : decode cX11_outs 0 = .ok (.aload_n 0, 1) := by decide +kernel
theorem dX11_outs_1 : decode cX11_outs 1 = .ok (.getfield 33, 3) := by decide +kernel
theorem dX11_outs_4 : decode cX11_outs 4 = .ok (.getfield 99, 3) := by decide +kernel
theorem dX11_outs_7 : decode cX11_outs 7 = .ok (.ireturn, 1) := by decide +kernel
noncomputable def f_X11_outs (T : Mm) : Option (Int32 × Mm) :=
  some ((gI T 601 5), T)
set_option maxRecDepth 100000 in
set_option maxHeartbeats 4000000 in
theorem s_X11_outs {ad : Nat → Nat} {U T : Mm} {q : Int32 × Mm}  (h : f_X11_outs  T = some q) : Cr 1 yX11_outs cX11_outs 1 (some .int) [.ref (ad 0)] ad true U T eI q := by
  refine cr_of (by decide) (Nat.le_of_ble_eq_true rfl) fun x S0 hn9 C M => ?_
  have C : CB x RX11 cX11_outs := C
  refine Jr.eq (lv' := [(0, .ref (ad 0))]) (st' := []) rfl rfl ?_
  unfold f_X11_outs at h
  refine r_aload_n C dX11_outs_0 rfl 0 rfl ?_
  refine r_getp (f := 1106) (j := 5) C flX11_33 dX11_outs_1 kq_0 (by decide) rfl (fun W => pt_1106 kq_0 W) ?_
  refine r_geti (f := 601) C flX11_99 dX11_outs_4 kq_5 (by decide) (by decide) rfl ?_
  exact r_iret C M dX11_outs_7 h
theorem dX6_byteAt_0 : decode cX6_byteAt 0 = .ok (.iload_n 1, 1) := by decide +kernel
theorem dX6_byteAt_1 : decode cX6_byteAt 1 = .ok (.ifCond .lt 33, 3) := by decide +kernel
theorem dX6_byteAt_4 : decode cX6_byteAt 4 = .ok (.iload_n 1, 1) := by decide +kernel
theorem dX6_byteAt_5 : decode cX6_byteAt 5 = .ok (.aload_n 0, 1) := by decide +kernel
theorem dX6_byteAt_6 : decode cX6_byteAt 6 = .ok (.getfield 28, 3) := by decide +kernel
theorem dX6_byteAt_9 : decode cX6_byteAt 9 = .ok (.if_icmp .ge 25, 3) := by decide +kernel
theorem dX6_byteAt_12 : decode cX6_byteAt 12 = .ok (.iload_n 1, 1) := by decide +kernel
theorem dX6_byteAt_13 : decode cX6_byteAt 13 = .ok (.aload_n 0, 1) := by decide +kernel
theorem dX6_byteAt_14 : decode cX6_byteAt 14 = .ok (.getfield 12, 3) := by decide +kernel
theorem dX6_byteAt_17 : decode cX6_byteAt 17 = .ok (.arraylength, 1) := by decide +kernel
theorem dX6_byteAt_18 : decode cX6_byteAt 18 = .ok (.if_icmp .ge 16, 3) := by decide +kernel
theorem dX6_byteAt_21 : decode cX6_byteAt 21 = .ok (.aload_n 0, 1) := by decide +kernel
theorem dX6_byteAt_22 : decode cX6_byteAt 22 = .ok (.getfield 12, 3) := by decide +kernel
theorem dX6_byteAt_25 : decode cX6_byteAt 25 = .ok (.iload_n 1, 1) := by decide +kernel
theorem dX6_byteAt_26 : decode cX6_byteAt 26 = .ok (.baload, 1) := by decide +kernel
theorem dX6_byteAt_27 : decode cX6_byteAt 27 = .ok (.sipush 255, 3) := by decide +kernel
theorem dX6_byteAt_30 : decode cX6_byteAt 30 = .ok (.iand, 1) := by decide +kernel
theorem dX6_byteAt_31 : decode cX6_byteAt 31 = .ok (.goto 4, 3) := by decide +kernel
theorem dX6_byteAt_34 : decode cX6_byteAt 34 = .ok (.iconst (-1), 1) := by decide +kernel
theorem dX6_byteAt_35 : decode cX6_byteAt 35 = .ok (.ireturn, 1) := by decide +kernel
noncomputable def f_X6_byteAt (p1 : Int32) (T : Mm) : Option (Int32 × Mm) :=
  if p1 < 0 then (some ((-1), T))
  else (if (gI T 601 5) ≤ p1 then (some ((-1), T))
  else (if 60000 ≤ p1 then (some ((-1), T))
  else (ix p1 60000 fun j1 =>
  some (((gA T 6 j1) &&& 255), T))))
set_option maxRecDepth 100000 in
set_option maxHeartbeats 4000000 in
theorem s_X6_byteAt {ad : Nat → Nat} {U T : Mm} {q : Int32 × Mm}  (p1 : Int32) (h : f_X6_byteAt p1 T = some q) : Cr 1 yX6_byteAt cX6_byteAt 2 (some .int) [.ref (ad 5), .int p1] ad true U T eI q := by
  refine cr_of (by decide) (Nat.le_of_ble_eq_true rfl) fun x S0 hn9 C M => ?_
  have C : CB x RX6 cX6_byteAt := C
  refine Jr.eq (lv' := [(0, .ref (ad 5)), (1, .int p1)]) (st' := []) rfl rfl ?_
  unfold f_X6_byteAt at h
  refine r_iload_n C dX6_byteAt_0 rfl 1 rfl ?_
  refine r_if_lt (tgt := 34) C dX6_byteAt_1 (by decide) h (fun h => ?_) (fun h => ?_)
  · refine r_iconst (v := (-1)) C dX6_byteAt_34 (by decide) ?_
    exact r_iret C M dX6_byteAt_35 h
  · refine r_iload_n C dX6_byteAt_4 rfl 1 rfl ?_
    refine r_aload_n C dX6_byteAt_5 rfl 0 rfl ?_
    refine r_geti (f := 601) C flX6_28 dX6_byteAt_6 kq_5 (by decide) (by decide) rfl ?_
    refine r_ic_ge (tgt := 34) C dX6_byteAt_9 (by decide) h (fun h => ?_) (fun h => ?_)
    · refine r_iconst (v := (-1)) C dX6_byteAt_34 (by decide) ?_
      exact r_iret C M dX6_byteAt_35 h
    · refine r_iload_n C dX6_byteAt_12 rfl 1 rfl ?_
      refine r_aload_n C dX6_byteAt_13 rfl 0 rfl ?_
      refine r_getp (f := 600) (j := 6) C flX6_12 dX6_byteAt_14 kq_5 (by decide) rfl (fun W => pt_600 kq_5 W) ?_
      refine r_alen (n := 0) (v := 60000) C dX6_byteAt_17 kq_6 (by decide) (by decide) (congrArg Int32.ofNat lq_6) ?_
      refine r_ic_ge (tgt := 34) C dX6_byteAt_18 (by decide) h (fun h => ?_) (fun h => ?_)
      · refine r_iconst (v := (-1)) C dX6_byteAt_34 (by decide) ?_
        exact r_iret C M dX6_byteAt_35 h
      · refine r_aload_n C dX6_byteAt_21 rfl 0 rfl ?_
        refine r_getp (f := 600) (j := 6) C flX6_12 dX6_byteAt_22 kq_5 (by decide) rfl (fun W => pt_600 kq_5 W) ?_
        refine r_iload_n C dX6_byteAt_25 rfl 1 rfl ?_
        refine r_bald (n := 60000) C dX6_byteAt_26 kq_6 lq_6 h (fun j1 hj2 h => ?_)
        refine r_sipush (v := 255) C dX6_byteAt_27 (by decide) ?_
        show Jr _ _ _ _ _ _ 30 _
        refine r_iand C dX6_byteAt_30 rfl ?_
        refine r_goto (tgt := 35) C dX6_byteAt_31 (by decide) ?_
        exact r_iret C M dX6_byteAt_35 h
theorem dX11_out_0 : decode cX11_out 0 = .ok (.aload_n 0, 1) := by decide +kernel
theorem dX11_out_1 : decode cX11_out 1 = .ok (.getfield 33, 3) := by decide +kernel
theorem dX11_out_4 : decode cX11_out 4 = .ok (.iload_n 1, 1) := by decide +kernel
theorem dX11_out_5 : decode cX11_out 5 = .ok (.invokevirtual 102, 3) := by decide +kernel
theorem dX11_out_8 : decode cX11_out 8 = .ok (.ireturn, 1) := by decide +kernel
noncomputable def f_X11_out (p1 : Int32) (T : Mm) : Option (Int32 × Mm) :=
  bd (f_X6_byteAt p1 T) fun v1 T2 =>
  some (v1, T2)
set_option maxRecDepth 100000 in
set_option maxHeartbeats 4000000 in
theorem s_X11_out {ad : Nat → Nat} {U T : Mm} {q : Int32 × Mm}  (p1 : Int32) (h : f_X11_out p1 T = some q) : Cr 2 yX11_out cX11_out 2 (some .int) [.ref (ad 0), .int p1] ad true U T eI q := by
  refine cr_of (by decide) (Nat.le_of_ble_eq_true rfl) fun x S0 hn9 C M => ?_
  have C : CB x RX11 cX11_out := C
  refine Jr.eq (lv' := [(0, .ref (ad 0)), (1, .int p1)]) (st' := []) rfl rfl ?_
  unfold f_X11_out at h
  refine r_aload_n C dX11_out_0 rfl 0 rfl ?_
  refine r_getp (f := 1106) (j := 5) C flX11_33 dX11_out_1 kq_0 (by decide) rfl (fun W => pt_1106 kq_0 W) ?_
  refine r_iload_n C dX11_out_4 rfl 1 rfl ?_
  refine r_callVI C M h [.int p1] [] mlX11_102 mcX6_byteAt (fun q9 e9 => s_X6_byteAt p1  e9) kq_5 rfl (by decide) (by decide) rfl rfl (Nat.le_of_ble_eq_true rfl) dX11_out_5 (fun v1 T2 h => ?_)
  exact r_iret C M dX11_out_8 h
theorem dX6_sumOfBytes_0 : decode cX6_sumOfBytes 0 = .ok (.iconst 0, 1) := by decide +kernel
theorem dX6_sumOfBytes_1 : decode cX6_sumOfBytes 1 = .ok (.istore_n 1, 1) := by decide +kernel
theorem dX6_sumOfBytes_2 : decode cX6_sumOfBytes 2 = .ok (.iconst 0, 1) := by decide +kernel
theorem dX6_sumOfBytes_3 : decode cX6_sumOfBytes 3 = .ok (.istore_n 2, 1) := by decide +kernel
theorem dX6_sumOfBytes_4 : decode cX6_sumOfBytes 4 = .ok (.iload_n 2, 1) := by decide +kernel
theorem dX6_sumOfBytes_5 : decode cX6_sumOfBytes 5 = .ok (.aload_n 0, 1) := by decide +kernel
theorem dX6_sumOfBytes_6 : decode cX6_sumOfBytes 6 = .ok (.getfield 28, 3) := by decide +kernel
theorem dX6_sumOfBytes_9 : decode cX6_sumOfBytes 9 = .ok (.if_icmp .ge 34, 3) := by decide +kernel
theorem dX6_sumOfBytes_12 : decode cX6_sumOfBytes 12 = .ok (.iload_n 2, 1) := by decide +kernel
theorem dX6_sumOfBytes_13 : decode cX6_sumOfBytes 13 = .ok (.aload_n 0, 1) := by decide +kernel
theorem dX6_sumOfBytes_14 : decode cX6_sumOfBytes 14 = .ok (.getfield 12, 3) := by decide +kernel
theorem dX6_sumOfBytes_17 : decode cX6_sumOfBytes 17 = .ok (.arraylength, 1) := by decide +kernel
theorem dX6_sumOfBytes_18 : decode cX6_sumOfBytes 18 = .ok (.if_icmp .ge 25, 3) := by decide +kernel
theorem dX6_sumOfBytes_21 : decode cX6_sumOfBytes 21 = .ok (.bipush 31, 2) := by decide +kernel
theorem dX6_sumOfBytes_23 : decode cX6_sumOfBytes 23 = .ok (.iload_n 1, 1) := by decide +kernel
theorem dX6_sumOfBytes_24 : decode cX6_sumOfBytes 24 = .ok (.imul, 1) := by decide +kernel
theorem dX6_sumOfBytes_25 : decode cX6_sumOfBytes 25 = .ok (.aload_n 0, 1) := by decide +kernel
theorem dX6_sumOfBytes_26 : decode cX6_sumOfBytes 26 = .ok (.getfield 12, 3) := by decide +kernel
theorem dX6_sumOfBytes_29 : decode cX6_sumOfBytes 29 = .ok (.iload_n 2, 1) := by decide +kernel
theorem dX6_sumOfBytes_30 : decode cX6_sumOfBytes 30 = .ok (.baload, 1) := by decide +kernel
theorem dX6_sumOfBytes_31 : decode cX6_sumOfBytes 31 = .ok (.sipush 255, 3) := by decide +kernel
theorem dX6_sumOfBytes_34 : decode cX6_sumOfBytes 34 = .ok (.iand, 1) := by decide +kernel
theorem dX6_sumOfBytes_35 : decode cX6_sumOfBytes 35 = .ok (.iadd, 1) := by decide +kernel
theorem dX6_sumOfBytes_36 : decode cX6_sumOfBytes 36 = .ok (.istore_n 1, 1) := by decide +kernel
theorem dX6_sumOfBytes_37 : decode cX6_sumOfBytes 37 = .ok (.iinc 2 1, 3) := by decide +kernel
theorem dX6_sumOfBytes_40 : decode cX6_sumOfBytes 40 = .ok (.goto (-36), 3) := by decide +kernel
theorem dX6_sumOfBytes_43 : decode cX6_sumOfBytes 43 = .ok (.iload_n 1, 1) := by decide +kernel
theorem dX6_sumOfBytes_44 : decode cX6_sumOfBytes 44 = .ok (.ireturn, 1) := by decide +kernel
noncomputable def f_X6_sumOfBytes_b4 (k4 : Int32 → Int32 → Mm → Option (Int32 × Mm)) (a1 : Int32) (a2 : Int32) (T : Mm) : Option (Int32 × Mm) :=
  if (gI T 601 5) ≤ a2 then (some (a1, T))
  else (if 60000 ≤ a2 then (some (a1, T))
  else (ix a2 60000 fun j1 =>
  lb ((((31 : Int32) * a1) + ((gA T 6 j1) &&& 255))) fun v3 =>
  k4 v3 (a2 + 1) T))
set_option maxRecDepth 100000 in
set_option maxHeartbeats 4000000 in
theorem s_X6_sumOfBytes_b4 {x : JX} {ad : Nat → Nat} {U : Mm} {S0 : Hp} {q : Int32 × Mm}  {k4 : Int32 → Int32 → Mm → Option (Int32 × Mm)} (hn9 : x_n x = 3) (C : CB x RX6 cX6_sumOfBytes) (M : CMr x 1 (some .int) S0 ad true U eI q) (hk4 : ∀ (a1 : Int32) (a2 : Int32) (T : Mm), k4 a1 a2 T = some q → Jr x ad true U T [(0, .ref (ad 5)), (1, .int a1), (2, .int a2)] 4 []) (a1 : Int32) (a2 : Int32) (T : Mm) (h : f_X6_sumOfBytes_b4 k4 a1 a2 T = some q) : Jr x ad true U T [(0, .ref (ad 5)), (1, .int a1), (2, .int a2)] 4 [] := by
  unfold f_X6_sumOfBytes_b4 at h
  refine r_iload_n C dX6_sumOfBytes_4 rfl 2 rfl ?_
  refine r_aload_n C dX6_sumOfBytes_5 rfl 0 rfl ?_
  refine r_geti (f := 601) C flX6_28 dX6_sumOfBytes_6 kq_5 (by decide) (by decide) rfl ?_
  refine r_ic_ge (tgt := 43) C dX6_sumOfBytes_9 (by decide) h (fun h => ?_) (fun h => ?_)
  · refine r_iload_n C dX6_sumOfBytes_43 rfl 1 rfl ?_
    exact r_iret C M dX6_sumOfBytes_44 h
  · refine r_iload_n C dX6_sumOfBytes_12 rfl 2 rfl ?_
    refine r_aload_n C dX6_sumOfBytes_13 rfl 0 rfl ?_
    refine r_getp (f := 600) (j := 6) C flX6_12 dX6_sumOfBytes_14 kq_5 (by decide) rfl (fun W => pt_600 kq_5 W) ?_
    refine r_alen (n := 0) (v := 60000) C dX6_sumOfBytes_17 kq_6 (by decide) (by decide) (congrArg Int32.ofNat lq_6) ?_
    refine r_ic_ge (tgt := 43) C dX6_sumOfBytes_18 (by decide) h (fun h => ?_) (fun h => ?_)
    · refine r_iload_n C dX6_sumOfBytes_43 rfl 1 rfl ?_
      exact r_iret C M dX6_sumOfBytes_44 h
    · refine r_bipush (v := 31) C dX6_sumOfBytes_21 (by decide) ?_
      refine r_iload_n C dX6_sumOfBytes_23 rfl 1 rfl ?_
      refine r_imul C dX6_sumOfBytes_24 rfl ?_
      refine r_aload_n C dX6_sumOfBytes_25 rfl 0 rfl ?_
      refine r_getp (f := 600) (j := 6) C flX6_12 dX6_sumOfBytes_26 kq_5 (by decide) rfl (fun W => pt_600 kq_5 W) ?_
      show Jr _ _ _ _ _ _ 29 _
      refine r_iload_n C dX6_sumOfBytes_29 rfl 2 rfl ?_
      refine r_bald (n := 60000) C dX6_sumOfBytes_30 kq_6 lq_6 h (fun j1 hj2 h => ?_)
      refine r_sipush (v := 255) C dX6_sumOfBytes_31 (by decide) ?_
      refine r_iand C dX6_sumOfBytes_34 rfl ?_
      refine r_iadd C dX6_sumOfBytes_35 rfl ?_
      refine r_lbI h (fun v3 h => ?_)
      refine r_istore_n (lv' := [(1, .int v3), (0, .ref (ad 5)), (2, .int a2)]) C dX6_sumOfBytes_36 rfl (by rw [hn9]; decide) rfl ?_
      show Jr _ _ _ _ _ _ 37 _
      refine r_iinc (q := 2) (v := (a2 + 1)) (lv' := [(2, .int (a2 + 1)), (1, .int v3), (0, .ref (ad 5))]) C dX6_sumOfBytes_37 rfl (by rw [show Int32.ofInt (1) = 1 by decide]) (by rw [hn9]; decide) rfl ?_
      refine r_goto (tgt := 4) C dX6_sumOfBytes_40 (by decide) ?_
      refine Jr.sub [2, 1, 0] (lv' := [(0, .ref (ad 5)), (1, .int v3), (2, .int (a2 + 1))]) rfl ?_
      exact hk4 v3 (a2 + 1) T h
noncomputable def f_X6_sumOfBytes_l4 (n : Nat) : Int32 → Int32 → Mm → Option (Int32 × Mm) := Nat.rec (fun _ _ _ => none) (fun _ ih => f_X6_sumOfBytes_b4 ih) n
theorem s_X6_sumOfBytes_l4 {x : JX} {ad : Nat → Nat} {U : Mm} {S0 : Hp} {q : Int32 × Mm}  (hn9 : x_n x = 3) (C : CB x RX6 cX6_sumOfBytes) (M : CMr x 1 (some .int) S0 ad true U eI q) : ∀ (n : Nat), ∀ (a1 : Int32) (a2 : Int32) (T : Mm), f_X6_sumOfBytes_l4  n a1 a2 T = some q → Jr x ad true U T [(0, .ref (ad 5)), (1, .int a1), (2, .int a2)] 4 [] := by
  intro n
  induction n with
  | zero => intro a1 a2 T  h; exact absurd h (by intro h; cases h)
  | succ n ih => exact fun a1 a2 T  h => s_X6_sumOfBytes_b4 hn9 C M (ih) a1 a2 T  h
noncomputable def f_X6_sumOfBytes (T : Mm) : Option (Int32 × Mm) :=
  f_X6_sumOfBytes_l4 FU 0 0 T
set_option maxRecDepth 100000 in
set_option maxHeartbeats 4000000 in
theorem s_X6_sumOfBytes {ad : Nat → Nat} {U T : Mm} {q : Int32 × Mm}  (h : f_X6_sumOfBytes  T = some q) : Cr 1 yX6_sumOfBytes cX6_sumOfBytes 3 (some .int) [.ref (ad 5)] ad true U T eI q := by
  refine cr_of (by decide) (Nat.le_of_ble_eq_true rfl) fun x S0 hn9 C M => ?_
  have C : CB x RX6 cX6_sumOfBytes := C
  refine Jr.eq (lv' := [(0, .ref (ad 5))]) (st' := []) rfl rfl ?_
  unfold f_X6_sumOfBytes at h
  refine r_iconst (v := 0) C dX6_sumOfBytes_0 (by decide) ?_
  refine r_istore_n (lv' := [(1, .int 0), (0, .ref (ad 5))]) C dX6_sumOfBytes_1 rfl (by rw [hn9]; decide) rfl ?_
  refine r_iconst (v := 0) C dX6_sumOfBytes_2 (by decide) ?_
  refine r_istore_n (lv' := [(2, .int 0), (1, .int 0), (0, .ref (ad 5))]) C dX6_sumOfBytes_3 rfl (by rw [hn9]; decide) rfl ?_
  refine Jr.sub [2, 1, 0] (lv' := [(0, .ref (ad 5)), (1, .int 0), (2, .int 0)]) rfl ?_
  exact s_X6_sumOfBytes_l4 hn9 C M  FU 0 0 T h
theorem dX11_sum_0 : decode cX11_sum 0 = .ok (.aload_n 0, 1) := by decide +kernel
theorem dX11_sum_1 : decode cX11_sum 1 = .ok (.getfield 33, 3) := by decide +kernel
theorem dX11_sum_4 : decode cX11_sum 4 = .ok (.invokevirtual 106, 3) := by decide +kernel
theorem dX11_sum_7 : decode cX11_sum 7 = .ok (.ireturn, 1) := by decide +kernel
noncomputable def f_X11_sum (T : Mm) : Option (Int32 × Mm) :=
  bd (f_X6_sumOfBytes T) fun v1 T2 =>
  some (v1, T2)
set_option maxRecDepth 100000 in
set_option maxHeartbeats 4000000 in
theorem s_X11_sum {ad : Nat → Nat} {U T : Mm} {q : Int32 × Mm}  (h : f_X11_sum  T = some q) : Cr 2 yX11_sum cX11_sum 1 (some .int) [.ref (ad 0)] ad true U T eI q := by
  refine cr_of (by decide) (Nat.le_of_ble_eq_true rfl) fun x S0 hn9 C M => ?_
  have C : CB x RX11 cX11_sum := C
  refine Jr.eq (lv' := [(0, .ref (ad 0))]) (st' := []) rfl rfl ?_
  unfold f_X11_sum at h
  refine r_aload_n C dX11_sum_0 rfl 0 rfl ?_
  refine r_getp (f := 1106) (j := 5) C flX11_33 dX11_sum_1 kq_0 (by decide) rfl (fun W => pt_1106 kq_0 W) ?_
  refine r_callVI C M h [] [] mlX11_106 mcX6_sumOfBytes (fun q9 e9 => s_X6_sumOfBytes   e9) kq_5 rfl (by decide) (by decide) rfl rfl (Nat.le_of_ble_eq_true rfl) dX11_sum_4 (fun v1 T2 h => ?_)
  exact r_iret C M dX11_sum_7 h
theorem dX11_take_0 : decode cX11_take 0 = .ok (.aload_n 0, 1) := by decide +kernel
theorem dX11_take_1 : decode cX11_take 1 = .ok (.getfield 33, 3) := by decide +kernel
theorem dX11_take_4 : decode cX11_take 4 = .ok (.getfield 99, 3) := by decide +kernel
theorem dX11_take_7 : decode cX11_take 7 = .ok (.istore_n 1, 1) := by decide +kernel
theorem dX11_take_8 : decode cX11_take 8 = .ok (.iload_n 1, 1) := by decide +kernel
theorem dX11_take_9 : decode cX11_take 9 = .ok (.sipush 8000, 3) := by decide +kernel
theorem dX11_take_12 : decode cX11_take 12 = .ok (.if_icmp .le 5, 3) := by decide +kernel
theorem dX11_take_15 : decode cX11_take 15 = .ok (.iconst (-1), 1) := by decide +kernel
theorem dX11_take_16 : decode cX11_take 16 = .ok (.ireturn, 1) := by decide +kernel
theorem dX11_take_17 : decode cX11_take 17 = .ok (.aload_n 0, 1) := by decide +kernel
theorem dX11_take_18 : decode cX11_take 18 = .ok (.getfield 33, 3) := by decide +kernel
theorem dX11_take_21 : decode cX11_take 21 = .ok (.getfield 110, 3) := by decide +kernel
theorem dX11_take_24 : decode cX11_take 24 = .ok (.iconst 0, 1) := by decide +kernel
theorem dX11_take_25 : decode cX11_take 25 = .ok (.aload_n 0, 1) := by decide +kernel
theorem dX11_take_26 : decode cX11_take 26 = .ok (.getfield 9, 3) := by decide +kernel
theorem dX11_take_29 : decode cX11_take 29 = .ok (.iconst 0, 1) := by decide +kernel
theorem dX11_take_30 : decode cX11_take 30 = .ok (.iload_n 1, 1) := by decide +kernel
theorem dX11_take_31 : decode cX11_take 31 = .ok (.invokestatic 63, 3) := by decide +kernel
theorem dX11_take_34 : decode cX11_take 34 = .ok (.aload_n 0, 1) := by decide +kernel
theorem dX11_take_35 : decode cX11_take 35 = .ok (.iload_n 1, 1) := by decide +kernel
theorem dX11_take_36 : decode cX11_take 36 = .ok (.putfield 53, 3) := by decide +kernel
theorem dX11_take_39 : decode cX11_take 39 = .ok (.aload_n 0, 1) := by decide +kernel
theorem dX11_take_40 : decode cX11_take 40 = .ok (.getfield 53, 3) := by decide +kernel
theorem dX11_take_43 : decode cX11_take 43 = .ok (.ireturn, 1) := by decide +kernel
noncomputable def f_X11_take (T : Mm) : Option (Int32 × Mm) :=
  lb ((gI T 601 5)) fun v1 =>
  if v1 ≤ 8000 then (cp 0 0 v1 60000 8000 fun q2 q3 q4 => lb (vA T 1 (va_cpy (gA T 6) (gA T 1) q2 q3 q4)) fun T5 =>
  lb (uI T5 1101 0 v1) fun T6 =>
  some ((gI T6 1101 0), T6))
  else (some ((-1), T))
set_option maxRecDepth 100000 in
set_option maxHeartbeats 4000000 in
theorem s_X11_take {ad : Nat → Nat} {U T : Mm} {q : Int32 × Mm}  (h : f_X11_take  T = some q) : Cr 1 yX11_take cX11_take 2 (some .int) [.ref (ad 0)] ad true U T eI q := by
  refine cr_of (by decide) (Nat.le_of_ble_eq_true rfl) fun x S0 hn9 C M => ?_
  have C : CB x RX11 cX11_take := C
  refine Jr.eq (lv' := [(0, .ref (ad 0))]) (st' := []) rfl rfl ?_
  unfold f_X11_take at h
  refine r_aload_n C dX11_take_0 rfl 0 rfl ?_
  refine r_getp (f := 1106) (j := 5) C flX11_33 dX11_take_1 kq_0 (by decide) rfl (fun W => pt_1106 kq_0 W) ?_
  refine r_geti (f := 601) C flX11_99 dX11_take_4 kq_5 (by decide) (by decide) rfl ?_
  refine r_lbI h (fun v1 h => ?_)
  refine r_istore_n (lv' := [(1, .int v1), (0, .ref (ad 0))]) C dX11_take_7 rfl (by rw [hn9]; decide) rfl ?_
  refine r_iload_n C dX11_take_8 rfl 0 rfl ?_
  show Jr _ _ _ _ _ _ 9 _
  refine r_sipush (v := 8000) C dX11_take_9 (by decide) ?_
  refine r_ic_le (tgt := 17) C dX11_take_12 (by decide) h (fun h => ?_) (fun h => ?_)
  · refine r_aload_n C dX11_take_17 rfl 1 rfl ?_
    refine r_getp (f := 1106) (j := 5) C flX11_33 dX11_take_18 kq_0 (by decide) rfl (fun W => pt_1106 kq_0 W) ?_
    refine r_getp (f := 600) (j := 6) C flX11_110 dX11_take_21 kq_5 (by decide) rfl (fun W => pt_600 kq_5 W) ?_
    refine r_iconst (v := 0) C dX11_take_24 (by decide) ?_
    refine r_aload_n C dX11_take_25 rfl 1 rfl ?_
    show Jr _ _ _ _ _ _ 26 _
    refine r_getp (f := 1100) (j := 1) C flX11_9 dX11_take_26 kq_0 (by decide) rfl (fun W => pt_1100 kq_0 W) ?_
    refine r_iconst (v := 0) C dX11_take_29 (by decide) ?_
    refine r_iload_n C dX11_take_30 rfl 0 rfl ?_
    refine r_copy (n0 := 60000) (n1 := 8000) (kd := 13) (ty := .byte) C M (by decide) mlX11_63 (by decide) kq_6 lq_6 kq_1 lq_1 dX11_take_31 h (fun q2 q3 q4 T5 h => ?_)
    refine r_aload_n C dX11_take_34 rfl 1 rfl ?_
    refine r_iload_n C dX11_take_35 rfl 0 rfl ?_
    show Jr _ _ _ _ _ _ 36 _
    refine r_puti (f := 1101) C flX11_53 (by decide) rfl rfl dX11_take_36 kq_0 rfl h (fun T6 h => ?_)
    refine r_aload_n C dX11_take_39 rfl 1 rfl ?_
    refine r_geti (f := 1101) C flX11_53 dX11_take_40 kq_0 (by decide) (by decide) rfl ?_
    exact r_iret C M dX11_take_43 h
  · refine r_iconst (v := (-1)) C dX11_take_15 (by decide) ?_
    exact r_iret C M dX11_take_16 h
theorem dX11_pages_0 : decode cX11_pages 0 = .ok (.aload_n 0, 1) := by decide +kernel
theorem dX11_pages_1 : decode cX11_pages 1 = .ok (.getfield 33, 3) := by decide +kernel
theorem dX11_pages_4 : decode cX11_pages 4 = .ok (.getfield 93, 3) := by decide +kernel
theorem dX11_pages_7 : decode cX11_pages 7 = .ok (.ireturn, 1) := by decide +kernel
noncomputable def f_X11_pages (T : Mm) : Option (Int32 × Mm) :=
  some ((gI T 602 5), T)
set_option maxRecDepth 100000 in
set_option maxHeartbeats 4000000 in
theorem s_X11_pages {ad : Nat → Nat} {U T : Mm} {q : Int32 × Mm}  (h : f_X11_pages  T = some q) : Cr 1 yX11_pages cX11_pages 1 (some .int) [.ref (ad 0)] ad true U T eI q := by
  refine cr_of (by decide) (Nat.le_of_ble_eq_true rfl) fun x S0 hn9 C M => ?_
  have C : CB x RX11 cX11_pages := C
  refine Jr.eq (lv' := [(0, .ref (ad 0))]) (st' := []) rfl rfl ?_
  unfold f_X11_pages at h
  refine r_aload_n C dX11_pages_0 rfl 0 rfl ?_
  refine r_getp (f := 1106) (j := 5) C flX11_33 dX11_pages_1 kq_0 (by decide) rfl (fun W => pt_1106 kq_0 W) ?_
  refine r_geti (f := 602) C flX11_93 dX11_pages_4 kq_5 (by decide) (by decide) rfl ?_
  exact r_iret C M dX11_pages_7 h
theorem dX6_hasPage_0 : decode cX6_hasPage 0 = .ok (.iload_n 1, 1) := by decide +kernel
theorem dX6_hasPage_1 : decode cX6_hasPage 1 = .ok (.ifCond .lt 21, 3) := by decide +kernel
theorem dX6_hasPage_4 : decode cX6_hasPage 4 = .ok (.iload_n 1, 1) := by decide +kernel
theorem dX6_hasPage_5 : decode cX6_hasPage 5 = .ok (.aload_n 0, 1) := by decide +kernel
theorem dX6_hasPage_6 : decode cX6_hasPage 6 = .ok (.getfield 32, 3) := by decide +kernel
theorem dX6_hasPage_9 : decode cX6_hasPage 9 = .ok (.if_icmp .ge 13, 3) := by decide +kernel
theorem dX6_hasPage_12 : decode cX6_hasPage 12 = .ok (.iload_n 1, 1) := by decide +kernel
theorem dX6_hasPage_13 : decode cX6_hasPage 13 = .ok (.bipush 12, 2) := by decide +kernel
theorem dX6_hasPage_15 : decode cX6_hasPage 15 = .ok (.if_icmp .ge 7, 3) := by decide +kernel
theorem dX6_hasPage_18 : decode cX6_hasPage 18 = .ok (.iconst 1, 1) := by decide +kernel
theorem dX6_hasPage_19 : decode cX6_hasPage 19 = .ok (.goto 4, 3) := by decide +kernel
theorem dX6_hasPage_22 : decode cX6_hasPage 22 = .ok (.iconst 0, 1) := by decide +kernel
theorem dX6_hasPage_23 : decode cX6_hasPage 23 = .ok (.ireturn, 1) := by decide +kernel
noncomputable def f_X6_hasPage (p1 : Int32) (T : Mm) : Option (Int32 × Mm) :=
  if p1 < 0 then (some (0, T))
  else (if (gI T 602 5) ≤ p1 then (some (0, T))
  else (if 12 ≤ p1 then (some (0, T))
  else (some (1, T))))
set_option maxRecDepth 100000 in
set_option maxHeartbeats 4000000 in
theorem s_X6_hasPage {ad : Nat → Nat} {U T : Mm} {q : Int32 × Mm}  (p1 : Int32) (h : f_X6_hasPage p1 T = some q) : Cr 1 yX6_hasPage cX6_hasPage 2 (some .boolean) [.ref (ad 5), .int p1] ad true U T eI q := by
  refine cr_of (by decide) (Nat.le_of_ble_eq_true rfl) fun x S0 hn9 C M => ?_
  have C : CB x RX6 cX6_hasPage := C
  refine Jr.eq (lv' := [(0, .ref (ad 5)), (1, .int p1)]) (st' := []) rfl rfl ?_
  unfold f_X6_hasPage at h
  refine r_iload_n C dX6_hasPage_0 rfl 1 rfl ?_
  refine r_if_lt (tgt := 22) C dX6_hasPage_1 (by decide) h (fun h => ?_) (fun h => ?_)
  · refine r_iconst (v := 0) C dX6_hasPage_22 (by decide) ?_
    exact r_zret C M dX6_hasPage_23 (by decide) h
  · refine r_iload_n C dX6_hasPage_4 rfl 1 rfl ?_
    refine r_aload_n C dX6_hasPage_5 rfl 0 rfl ?_
    refine r_geti (f := 602) C flX6_32 dX6_hasPage_6 kq_5 (by decide) (by decide) rfl ?_
    refine r_ic_ge (tgt := 22) C dX6_hasPage_9 (by decide) h (fun h => ?_) (fun h => ?_)
    · refine r_iconst (v := 0) C dX6_hasPage_22 (by decide) ?_
      exact r_zret C M dX6_hasPage_23 (by decide) h
    · refine r_iload_n C dX6_hasPage_12 rfl 1 rfl ?_
      refine r_bipush (v := 12) C dX6_hasPage_13 (by decide) ?_
      refine r_ic_ge (tgt := 22) C dX6_hasPage_15 (by decide) h (fun h => ?_) (fun h => ?_)
      · refine r_iconst (v := 0) C dX6_hasPage_22 (by decide) ?_
        exact r_zret C M dX6_hasPage_23 (by decide) h
      · refine r_iconst (v := 1) C dX6_hasPage_18 (by decide) ?_
        refine r_goto (tgt := 23) C dX6_hasPage_19 (by decide) ?_
        exact r_zret C M dX6_hasPage_23 (by decide) h
theorem dX11_width_0 : decode cX11_width 0 = .ok (.aload_n 0, 1) := by decide +kernel
theorem dX11_width_1 : decode cX11_width 1 = .ok (.getfield 33, 3) := by decide +kernel
theorem dX11_width_4 : decode cX11_width 4 = .ok (.iload_n 1, 1) := by decide +kernel
theorem dX11_width_5 : decode cX11_width 5 = .ok (.invokevirtual 113, 3) := by decide +kernel
theorem dX11_width_8 : decode cX11_width 8 = .ok (.ifCond .eq 15, 3) := by decide +kernel
theorem dX11_width_11 : decode cX11_width 11 = .ok (.aload_n 0, 1) := by decide +kernel
theorem dX11_width_12 : decode cX11_width 12 = .ok (.getfield 33, 3) := by decide +kernel
theorem dX11_width_15 : decode cX11_width 15 = .ok (.getfield 117, 3) := by decide +kernel
theorem dX11_width_18 : decode cX11_width 18 = .ok (.iload_n 1, 1) := by decide +kernel
theorem dX11_width_19 : decode cX11_width 19 = .ok (.iaload, 1) := by decide +kernel
theorem dX11_width_20 : decode cX11_width 20 = .ok (.goto 4, 3) := by decide +kernel
theorem dX11_width_23 : decode cX11_width 23 = .ok (.iconst (-1), 1) := by decide +kernel
theorem dX11_width_24 : decode cX11_width 24 = .ok (.ireturn, 1) := by decide +kernel
noncomputable def f_X11_width (p1 : Int32) (T : Mm) : Option (Int32 × Mm) :=
  bd (f_X6_hasPage p1 T) fun v1 T2 =>
  if v1 = 0 then (some ((-1), T2))
  else (ix p1 12 fun j3 =>
  some ((gA T2 7 j3), T2))
set_option maxRecDepth 100000 in
set_option maxHeartbeats 4000000 in
theorem s_X11_width {ad : Nat → Nat} {U T : Mm} {q : Int32 × Mm}  (p1 : Int32) (h : f_X11_width p1 T = some q) : Cr 2 yX11_width cX11_width 2 (some .int) [.ref (ad 0), .int p1] ad true U T eI q := by
  refine cr_of (by decide) (Nat.le_of_ble_eq_true rfl) fun x S0 hn9 C M => ?_
  have C : CB x RX11 cX11_width := C
  refine Jr.eq (lv' := [(0, .ref (ad 0)), (1, .int p1)]) (st' := []) rfl rfl ?_
  unfold f_X11_width at h
  refine r_aload_n C dX11_width_0 rfl 0 rfl ?_
  refine r_getp (f := 1106) (j := 5) C flX11_33 dX11_width_1 kq_0 (by decide) rfl (fun W => pt_1106 kq_0 W) ?_
  refine r_iload_n C dX11_width_4 rfl 1 rfl ?_
  refine r_callVI C M h [.int p1] [] mlX11_113 mcX6_hasPage (fun q9 e9 => s_X6_hasPage p1  e9) kq_5 rfl (by decide) (by decide) rfl rfl (Nat.le_of_ble_eq_true rfl) dX11_width_5 (fun v1 T2 h => ?_)
  refine r_if_eq (tgt := 23) C dX11_width_8 (by decide) h (fun h => ?_) (fun h => ?_)
  · refine r_iconst (v := (-1)) C dX11_width_23 (by decide) ?_
    exact r_iret C M dX11_width_24 h
  · refine r_aload_n C dX11_width_11 rfl 0 rfl ?_
    refine r_getp (f := 1106) (j := 5) C flX11_33 dX11_width_12 kq_0 (by decide) rfl (fun W => pt_1106 kq_0 W) ?_
    refine r_getp (f := 604) (j := 7) C flX11_117 dX11_width_15 kq_5 (by decide) rfl (fun W => pt_604 kq_5 W) ?_
    refine r_iload_n C dX11_width_18 rfl 1 rfl ?_
    refine r_iald (n := 12) C dX11_width_19 kq_7 lq_7 h (fun j3 hj4 h => ?_)
    show Jr _ _ _ _ _ _ 20 _
    refine r_goto (tgt := 24) C dX11_width_20 (by decide) ?_
    exact r_iret C M dX11_width_24 h
theorem dX11_height_0 : decode cX11_height 0 = .ok (.aload_n 0, 1) := by decide +kernel
theorem dX11_height_1 : decode cX11_height 1 = .ok (.getfield 33, 3) := by decide +kernel
theorem dX11_height_4 : decode cX11_height 4 = .ok (.iload_n 1, 1) := by decide +kernel
theorem dX11_height_5 : decode cX11_height 5 = .ok (.invokevirtual 113, 3) := by decide +kernel
theorem dX11_height_8 : decode cX11_height 8 = .ok (.ifCond .eq 15, 3) := by decide +kernel
theorem dX11_height_11 : decode cX11_height 11 = .ok (.aload_n 0, 1) := by decide +kernel
theorem dX11_height_12 : decode cX11_height 12 = .ok (.getfield 33, 3) := by decide +kernel
theorem dX11_height_15 : decode cX11_height 15 = .ok (.getfield 120, 3) := by decide +kernel
theorem dX11_height_18 : decode cX11_height 18 = .ok (.iload_n 1, 1) := by decide +kernel
theorem dX11_height_19 : decode cX11_height 19 = .ok (.iaload, 1) := by decide +kernel
theorem dX11_height_20 : decode cX11_height 20 = .ok (.goto 4, 3) := by decide +kernel
theorem dX11_height_23 : decode cX11_height 23 = .ok (.iconst (-1), 1) := by decide +kernel
theorem dX11_height_24 : decode cX11_height 24 = .ok (.ireturn, 1) := by decide +kernel
noncomputable def f_X11_height (p1 : Int32) (T : Mm) : Option (Int32 × Mm) :=
  bd (f_X6_hasPage p1 T) fun v1 T2 =>
  if v1 = 0 then (some ((-1), T2))
  else (ix p1 12 fun j3 =>
  some ((gA T2 8 j3), T2))
set_option maxRecDepth 100000 in
set_option maxHeartbeats 4000000 in
theorem s_X11_height {ad : Nat → Nat} {U T : Mm} {q : Int32 × Mm}  (p1 : Int32) (h : f_X11_height p1 T = some q) : Cr 2 yX11_height cX11_height 2 (some .int) [.ref (ad 0), .int p1] ad true U T eI q := by
  refine cr_of (by decide) (Nat.le_of_ble_eq_true rfl) fun x S0 hn9 C M => ?_
  have C : CB x RX11 cX11_height := C
  refine Jr.eq (lv' := [(0, .ref (ad 0)), (1, .int p1)]) (st' := []) rfl rfl ?_
  unfold f_X11_height at h
  refine r_aload_n C dX11_height_0 rfl 0 rfl ?_
  refine r_getp (f := 1106) (j := 5) C flX11_33 dX11_height_1 kq_0 (by decide) rfl (fun W => pt_1106 kq_0 W) ?_
  refine r_iload_n C dX11_height_4 rfl 1 rfl ?_
  refine r_callVI C M h [.int p1] [] mlX11_113 mcX6_hasPage (fun q9 e9 => s_X6_hasPage p1  e9) kq_5 rfl (by decide) (by decide) rfl rfl (Nat.le_of_ble_eq_true rfl) dX11_height_5 (fun v1 T2 h => ?_)
  refine r_if_eq (tgt := 23) C dX11_height_8 (by decide) h (fun h => ?_) (fun h => ?_)
  · refine r_iconst (v := (-1)) C dX11_height_23 (by decide) ?_
    exact r_iret C M dX11_height_24 h
  · refine r_aload_n C dX11_height_11 rfl 0 rfl ?_
    refine r_getp (f := 1106) (j := 5) C flX11_33 dX11_height_12 kq_0 (by decide) rfl (fun W => pt_1106 kq_0 W) ?_
    refine r_getp (f := 605) (j := 8) C flX11_120 dX11_height_15 kq_5 (by decide) rfl (fun W => pt_605 kq_5 W) ?_
    refine r_iload_n C dX11_height_18 rfl 1 rfl ?_
    refine r_iald (n := 12) C dX11_height_19 kq_8 lq_8 h (fun j3 hj4 h => ?_)
    show Jr _ _ _ _ _ _ 20 _
    refine r_goto (tgt := 24) C dX11_height_20 (by decide) ?_
    exact r_iret C M dX11_height_24 h
theorem dX6_hasRow_0 : decode cX6_hasRow 0 = .ok (.aload_n 0, 1) := by decide +kernel
theorem dX6_hasRow_1 : decode cX6_hasRow 1 = .ok (.iload_n 1, 1) := by decide +kernel
theorem dX6_hasRow_2 : decode cX6_hasRow 2 = .ok (.invokevirtual 39, 3) := by decide +kernel
theorem dX6_hasRow_5 : decode cX6_hasRow 5 = .ok (.ifCond .eq 21, 3) := by decide +kernel
theorem dX6_hasRow_8 : decode cX6_hasRow 8 = .ok (.iload_n 2, 1) := by decide +kernel
theorem dX6_hasRow_9 : decode cX6_hasRow 9 = .ok (.ifCond .lt 17, 3) := by decide +kernel
theorem dX6_hasRow_12 : decode cX6_hasRow 12 = .ok (.iload_n 2, 1) := by decide +kernel
theorem dX6_hasRow_13 : decode cX6_hasRow 13 = .ok (.aload_n 0, 1) := by decide +kernel
theorem dX6_hasRow_14 : decode cX6_hasRow 14 = .ok (.getfield 20, 3) := by decide +kernel
theorem dX6_hasRow_17 : decode cX6_hasRow 17 = .ok (.iload_n 1, 1) := by decide +kernel
theorem dX6_hasRow_18 : decode cX6_hasRow 18 = .ok (.iaload, 1) := by decide +kernel
theorem dX6_hasRow_19 : decode cX6_hasRow 19 = .ok (.if_icmp .ge 7, 3) := by decide +kernel
theorem dX6_hasRow_22 : decode cX6_hasRow 22 = .ok (.iconst 1, 1) := by decide +kernel
theorem dX6_hasRow_23 : decode cX6_hasRow 23 = .ok (.goto 4, 3) := by decide +kernel
theorem dX6_hasRow_26 : decode cX6_hasRow 26 = .ok (.iconst 0, 1) := by decide +kernel
theorem dX6_hasRow_27 : decode cX6_hasRow 27 = .ok (.ireturn, 1) := by decide +kernel
noncomputable def f_X6_hasRow (p1 : Int32) (p2 : Int32) (T : Mm) : Option (Int32 × Mm) :=
  bd (f_X6_hasPage p1 T) fun v1 T2 =>
  if v1 = 0 then (some (0, T2))
  else (if p2 < 0 then (some (0, T2))
  else (ix p1 12 fun j3 =>
  if (gA T2 8 j3) ≤ p2 then (some (0, T2))
  else (some (1, T2))))
set_option maxRecDepth 100000 in
set_option maxHeartbeats 4000000 in
theorem s_X6_hasRow {ad : Nat → Nat} {U T : Mm} {q : Int32 × Mm}  (p1 : Int32) (p2 : Int32) (h : f_X6_hasRow p1 p2 T = some q) : Cr 2 yX6_hasRow cX6_hasRow 3 (some .boolean) [.ref (ad 5), .int p1, .int p2] ad true U T eI q := by
  refine cr_of (by decide) (Nat.le_of_ble_eq_true rfl) fun x S0 hn9 C M => ?_
  have C : CB x RX6 cX6_hasRow := C
  refine Jr.eq (lv' := [(0, .ref (ad 5)), (1, .int p1), (2, .int p2)]) (st' := []) rfl rfl ?_
  unfold f_X6_hasRow at h
  refine r_aload_n C dX6_hasRow_0 rfl 0 rfl ?_
  refine r_iload_n C dX6_hasRow_1 rfl 1 rfl ?_
  refine r_callVI C M h [.int p1] [] mlX6_39 mcX6_hasPage (fun q9 e9 => s_X6_hasPage p1  e9) kq_5 rfl (by decide) (by decide) rfl rfl (Nat.le_of_ble_eq_true rfl) dX6_hasRow_2 (fun v1 T2 h => ?_)
  refine r_if_eq (tgt := 26) C dX6_hasRow_5 (by decide) h (fun h => ?_) (fun h => ?_)
  · refine r_iconst (v := 0) C dX6_hasRow_26 (by decide) ?_
    exact r_zret C M dX6_hasRow_27 (by decide) h
  · refine r_iload_n C dX6_hasRow_8 rfl 2 rfl ?_
    refine r_if_lt (tgt := 26) C dX6_hasRow_9 (by decide) h (fun h => ?_) (fun h => ?_)
    · refine r_iconst (v := 0) C dX6_hasRow_26 (by decide) ?_
      exact r_zret C M dX6_hasRow_27 (by decide) h
    · refine r_iload_n C dX6_hasRow_12 rfl 2 rfl ?_
      refine r_aload_n C dX6_hasRow_13 rfl 0 rfl ?_
      refine r_getp (f := 605) (j := 8) C flX6_20 dX6_hasRow_14 kq_5 (by decide) rfl (fun W => pt_605 kq_5 W) ?_
      refine r_iload_n C dX6_hasRow_17 rfl 1 rfl ?_
      refine r_iald (n := 12) C dX6_hasRow_18 kq_8 lq_8 h (fun j3 hj4 h => ?_)
      show Jr _ _ _ _ _ _ 19 _
      refine r_ic_ge (tgt := 26) C dX6_hasRow_19 (by decide) h (fun h => ?_) (fun h => ?_)
      · refine r_iconst (v := 0) C dX6_hasRow_26 (by decide) ?_
        exact r_zret C M dX6_hasRow_27 (by decide) h
      · refine r_iconst (v := 1) C dX6_hasRow_22 (by decide) ?_
        refine r_goto (tgt := 27) C dX6_hasRow_23 (by decide) ?_
        exact r_zret C M dX6_hasRow_27 (by decide) h
theorem dX11_dot_0 : decode cX11_dot 0 = .ok (.aload_n 0, 1) := by decide +kernel
theorem dX11_dot_1 : decode cX11_dot 1 = .ok (.getfield 33, 3) := by decide +kernel
theorem dX11_dot_4 : decode cX11_dot 4 = .ok (.iload_n 1, 1) := by decide +kernel
theorem dX11_dot_5 : decode cX11_dot 5 = .ok (.iload_n 3, 1) := by decide +kernel
theorem dX11_dot_6 : decode cX11_dot 6 = .ok (.invokevirtual 123, 3) := by decide +kernel
theorem dX11_dot_9 : decode cX11_dot 9 = .ok (.ifCond .eq 20, 3) := by decide +kernel
theorem dX11_dot_12 : decode cX11_dot 12 = .ok (.iload_n 2, 1) := by decide +kernel
theorem dX11_dot_13 : decode cX11_dot 13 = .ok (.ifCond .lt 16, 3) := by decide +kernel
theorem dX11_dot_16 : decode cX11_dot 16 = .ok (.iload_n 2, 1) := by decide +kernel
theorem dX11_dot_17 : decode cX11_dot 17 = .ok (.aload_n 0, 1) := by decide +kernel
theorem dX11_dot_18 : decode cX11_dot 18 = .ok (.getfield 33, 3) := by decide +kernel
theorem dX11_dot_21 : decode cX11_dot 21 = .ok (.getfield 117, 3) := by decide +kernel
theorem dX11_dot_24 : decode cX11_dot 24 = .ok (.iload_n 1, 1) := by decide +kernel
theorem dX11_dot_25 : decode cX11_dot 25 = .ok (.iaload, 1) := by decide +kernel
theorem dX11_dot_26 : decode cX11_dot 26 = .ok (.if_icmp .lt 5, 3) := by decide +kernel
theorem dX11_dot_29 : decode cX11_dot 29 = .ok (.iconst (-1), 1) := by decide +kernel
theorem dX11_dot_30 : decode cX11_dot 30 = .ok (.ireturn, 1) := by decide +kernel
theorem dX11_dot_31 : decode cX11_dot 31 = .ok (.aload_n 0, 1) := by decide +kernel
theorem dX11_dot_32 : decode cX11_dot 32 = .ok (.getfield 33, 3) := by decide +kernel
theorem dX11_dot_35 : decode cX11_dot 35 = .ok (.getfield 127, 3) := by decide +kernel
theorem dX11_dot_38 : decode cX11_dot 38 = .ok (.iload_n 1, 1) := by decide +kernel
theorem dX11_dot_39 : decode cX11_dot 39 = .ok (.aaload, 1) := by decide +kernel
theorem dX11_dot_40 : decode cX11_dot 40 = .ok (.iload_n 3, 1) := by decide +kernel
theorem dX11_dot_41 : decode cX11_dot 41 = .ok (.bipush 20, 2) := by decide +kernel
theorem dX11_dot_43 : decode cX11_dot 43 = .ok (.imul, 1) := by decide +kernel
theorem dX11_dot_44 : decode cX11_dot 44 = .ok (.iload_n 2, 1) := by decide +kernel
theorem dX11_dot_45 : decode cX11_dot 45 = .ok (.invokestatic 131, 3) := by decide +kernel
theorem dX11_dot_48 : decode cX11_dot 48 = .ok (.ireturn, 1) := by decide +kernel
noncomputable def f_X11_dot (p1 : Int32) (p2 : Int32) (p3 : Int32) (T : Mm) : Option (Int32 × Mm) :=
  bd (f_X6_hasRow p1 p3 T) fun v1 T2 =>
  if v1 = 0 then (some ((-1), T2))
  else (if p2 < 0 then (some ((-1), T2))
  else (ix p1 12 fun j3 =>
  if p2 < (gA T2 7 j3) then (ix p1 13 fun j5 =>
  bd (f_X11_dotAt (10 + j5) (p3 * 20) p2 T2) fun v7 T8 =>
  some (v7, T8))
  else (some ((-1), T2))))
set_option maxRecDepth 100000 in
set_option maxHeartbeats 4000000 in
theorem s_X11_dot {ad : Nat → Nat} {U T : Mm} {q : Int32 × Mm}  (p1 : Int32) (p2 : Int32) (p3 : Int32) (h : f_X11_dot p1 p2 p3 T = some q) : Cr 3 yX11_dot cX11_dot 4 (some .int) [.ref (ad 0), .int p1, .int p2, .int p3] ad true U T eI q := by
  refine cr_of (by decide) (Nat.le_of_ble_eq_true rfl) fun x S0 hn9 C M => ?_
  have C : CB x RX11 cX11_dot := C
  refine Jr.eq (lv' := [(0, .ref (ad 0)), (1, .int p1), (2, .int p2), (3, .int p3)]) (st' := []) rfl rfl ?_
  unfold f_X11_dot at h
  refine r_aload_n C dX11_dot_0 rfl 0 rfl ?_
  refine r_getp (f := 1106) (j := 5) C flX11_33 dX11_dot_1 kq_0 (by decide) rfl (fun W => pt_1106 kq_0 W) ?_
  refine r_iload_n C dX11_dot_4 rfl 1 rfl ?_
  refine r_iload_n C dX11_dot_5 rfl 3 rfl ?_
  refine r_callVI C M h [.int p1, .int p3] [] mlX11_123 mcX6_hasRow (fun q9 e9 => s_X6_hasRow p1 p3  e9) kq_5 rfl (by decide) (by decide) rfl rfl (Nat.le_of_ble_eq_true rfl) dX11_dot_6 (fun v1 T2 h => ?_)
  show Jr _ _ _ _ _ _ 9 _
  refine r_if_eq (tgt := 29) C dX11_dot_9 (by decide) h (fun h => ?_) (fun h => ?_)
  · refine r_iconst (v := (-1)) C dX11_dot_29 (by decide) ?_
    exact r_iret C M dX11_dot_30 h
  · refine r_iload_n C dX11_dot_12 rfl 2 rfl ?_
    refine r_if_lt (tgt := 29) C dX11_dot_13 (by decide) h (fun h => ?_) (fun h => ?_)
    · refine r_iconst (v := (-1)) C dX11_dot_29 (by decide) ?_
      exact r_iret C M dX11_dot_30 h
    · refine r_iload_n C dX11_dot_16 rfl 2 rfl ?_
      refine r_aload_n C dX11_dot_17 rfl 0 rfl ?_
      refine r_getp (f := 1106) (j := 5) C flX11_33 dX11_dot_18 kq_0 (by decide) rfl (fun W => pt_1106 kq_0 W) ?_
      refine r_getp (f := 604) (j := 7) C flX11_117 dX11_dot_21 kq_5 (by decide) rfl (fun W => pt_604 kq_5 W) ?_
      refine r_iload_n C dX11_dot_24 rfl 1 rfl ?_
      show Jr _ _ _ _ _ _ 25 _
      refine r_iald (n := 12) C dX11_dot_25 kq_7 lq_7 h (fun j3 hj4 h => ?_)
      refine r_ic_lt (tgt := 31) C dX11_dot_26 (by decide) h (fun h => ?_) (fun h => ?_)
      · refine r_aload_n C dX11_dot_31 rfl 0 rfl ?_
        refine r_getp (f := 1106) (j := 5) C flX11_33 dX11_dot_32 kq_0 (by decide) rfl (fun W => pt_1106 kq_0 W) ?_
        refine r_getp (f := 606) (j := 9) C flX11_127 dX11_dot_35 kq_5 (by decide) rfl (fun W => pt_606 kq_5 W) ?_
        refine r_iload_n C dX11_dot_38 rfl 1 rfl ?_
        refine r_aaldR (n := 13) (t := fun j9 => (10 + j9)) C dX11_dot_39 kq_9 lq_9 (fun hj W => pe_9 hj W) h (fun j5 hj6 h => ?_)
        refine Jr.eq (lv' := [(0, .ref (ad 0)), (1, .int p1), (2, .int p2), (3, .int p3)]) (st' := [.ref (ad (10 + j5))]) rfl rfl ?_
        show Jr _ _ _ _ _ _ 40 _
        refine r_iload_n C dX11_dot_40 rfl 3 rfl ?_
        refine r_bipush (v := 20) C dX11_dot_41 (by decide) ?_
        refine r_imul C dX11_dot_43 rfl ?_
        refine r_iload_n C dX11_dot_44 rfl 2 rfl ?_
        refine r_callSI C M h [.ref (ad (10 + j5)), .int (p3 * 20), .int p2] [] mlX11_131 mcX11_dotAt (fun q9 e9 => s_X11_dotAt (10 + j5) (p3 * 20) p2 (pek_9 hj6) e9) (by decide) (by decide) rfl rfl (Nat.le_of_ble_eq_true rfl) dX11_dot_45 (fun v7 T8 h => ?_)
        exact r_iret C M dX11_dot_48 h
      · refine r_iconst (v := (-1)) C dX11_dot_29 (by decide) ?_
        exact r_iret C M dX11_dot_30 h
theorem dX6_blackDots_0 : decode cX6_blackDots 0 = .ok (.iconst 0, 1) := by decide +kernel
theorem dX6_blackDots_1 : decode cX6_blackDots 1 = .ok (.istore_n 3, 1) := by decide +kernel
theorem dX6_blackDots_2 : decode cX6_blackDots 2 = .ok (.iload_n 2, 1) := by decide +kernel
theorem dX6_blackDots_3 : decode cX6_blackDots 3 = .ok (.bipush 20, 2) := by decide +kernel
theorem dX6_blackDots_5 : decode cX6_blackDots 5 = .ok (.imul, 1) := by decide +kernel
theorem dX6_blackDots_6 : decode cX6_blackDots 6 = .ok (.istore 4, 2) := by decide +kernel
theorem dX6_blackDots_8 : decode cX6_blackDots 8 = .ok (.iconst 0, 1) := by decide +kernel
theorem dX6_blackDots_9 : decode cX6_blackDots 9 = .ok (.istore 5, 2) := by decide +kernel
theorem dX6_blackDots_11 : decode cX6_blackDots 11 = .ok (.iload 5, 2) := by decide +kernel
theorem dX6_blackDots_13 : decode cX6_blackDots 13 = .ok (.bipush 20, 2) := by decide +kernel
theorem dX6_blackDots_15 : decode cX6_blackDots 15 = .ok (.if_icmp .ge 65, 3) := by decide +kernel
theorem dX6_blackDots_18 : decode cX6_blackDots 18 = .ok (.iload_n 1, 1) := by decide +kernel
theorem dX6_blackDots_19 : decode cX6_blackDots 19 = .ok (.ifCond .lt 61, 3) := by decide +kernel
theorem dX6_blackDots_22 : decode cX6_blackDots 22 = .ok (.iload_n 1, 1) := by decide +kernel
theorem dX6_blackDots_23 : decode cX6_blackDots 23 = .ok (.aload_n 0, 1) := by decide +kernel
theorem dX6_blackDots_24 : decode cX6_blackDots 24 = .ok (.getfield 25, 3) := by decide +kernel
theorem dX6_blackDots_27 : decode cX6_blackDots 27 = .ok (.arraylength, 1) := by decide +kernel
theorem dX6_blackDots_28 : decode cX6_blackDots 28 = .ok (.if_icmp .ge 52, 3) := by decide +kernel
theorem dX6_blackDots_31 : decode cX6_blackDots 31 = .ok (.iload 4, 2) := by decide +kernel
theorem dX6_blackDots_33 : decode cX6_blackDots 33 = .ok (.iload 5, 2) := by decide +kernel
theorem dX6_blackDots_35 : decode cX6_blackDots 35 = .ok (.iadd, 1) := by decide +kernel
theorem dX6_blackDots_36 : decode cX6_blackDots 36 = .ok (.istore 6, 2) := by decide +kernel
theorem dX6_blackDots_38 : decode cX6_blackDots 38 = .ok (.iload_n 3, 1) := by decide +kernel
theorem dX6_blackDots_39 : decode cX6_blackDots 39 = .ok (.iload 6, 2) := by decide +kernel
theorem dX6_blackDots_41 : decode cX6_blackDots 41 = .ok (.ifCond .lt 30, 3) := by decide +kernel
theorem dX6_blackDots_44 : decode cX6_blackDots 44 = .ok (.iload 6, 2) := by decide +kernel
theorem dX6_blackDots_46 : decode cX6_blackDots 46 = .ok (.aload_n 0, 1) := by decide +kernel
theorem dX6_blackDots_47 : decode cX6_blackDots 47 = .ok (.getfield 25, 3) := by decide +kernel
theorem dX6_blackDots_50 : decode cX6_blackDots 50 = .ok (.iload_n 1, 1) := by decide +kernel
theorem dX6_blackDots_51 : decode cX6_blackDots 51 = .ok (.aaload, 1) := by decide +kernel
theorem dX6_blackDots_52 : decode cX6_blackDots 52 = .ok (.arraylength, 1) := by decide +kernel
theorem dX6_blackDots_53 : decode cX6_blackDots 53 = .ok (.if_icmp .ge 18, 3) := by decide +kernel
theorem dX6_blackDots_56 : decode cX6_blackDots 56 = .ok (.aload_n 0, 1) := by decide +kernel
theorem dX6_blackDots_57 : decode cX6_blackDots 57 = .ok (.getfield 25, 3) := by decide +kernel
theorem dX6_blackDots_60 : decode cX6_blackDots 60 = .ok (.iload_n 1, 1) := by decide +kernel
theorem dX6_blackDots_61 : decode cX6_blackDots 61 = .ok (.aaload, 1) := by decide +kernel
theorem dX6_blackDots_62 : decode cX6_blackDots 62 = .ok (.iload 6, 2) := by decide +kernel
theorem dX6_blackDots_64 : decode cX6_blackDots 64 = .ok (.iaload, 1) := by decide +kernel
theorem dX6_blackDots_65 : decode cX6_blackDots 65 = .ok (.invokestatic 43, 3) := by decide +kernel
theorem dX6_blackDots_68 : decode cX6_blackDots 68 = .ok (.goto 4, 3) := by decide +kernel
theorem dX6_blackDots_71 : decode cX6_blackDots 71 = .ok (.iconst 0, 1) := by decide +kernel
theorem dX6_blackDots_72 : decode cX6_blackDots 72 = .ok (.iadd, 1) := by decide +kernel
theorem dX6_blackDots_73 : decode cX6_blackDots 73 = .ok (.istore_n 3, 1) := by decide +kernel
theorem dX6_blackDots_74 : decode cX6_blackDots 74 = .ok (.iinc 5 1, 3) := by decide +kernel
theorem dX6_blackDots_77 : decode cX6_blackDots 77 = .ok (.goto (-66), 3) := by decide +kernel
theorem dX6_blackDots_80 : decode cX6_blackDots 80 = .ok (.iload_n 3, 1) := by decide +kernel
theorem dX6_blackDots_81 : decode cX6_blackDots 81 = .ok (.ireturn, 1) := by decide +kernel
noncomputable def f_X6_blackDots_b11 (k11 : Int32 → Int32 → Int32 → Int32 → Mm → Option (Int32 × Mm)) (a1 : Int32) (a3 : Int32) (a4 : Int32) (a5 : Int32) (T : Mm) : Option (Int32 × Mm) :=
  if 20 ≤ a5 then (some (a3, T))
  else (if a1 < 0 then (some (a3, T))
  else (if 13 ≤ a1 then (some (a3, T))
  else (lb ((a4 + a5)) fun v1 =>
  if v1 < 0 then (lb ((a3 + 0)) fun v2 =>
  k11 a1 v2 a4 (a5 + 1) T)
  else (ix a1 13 fun j3 =>
  if 16000 ≤ v1 then (lb ((a3 + 0)) fun v5 =>
  k11 a1 v5 a4 (a5 + 1) T)
  else (ix a1 13 fun j6 =>
  ix v1 16000 fun j8 =>
  bd (f_J6_bitCount_0f7a4 (gA T (10 + j6) j8) T) fun v10 T11 =>
  lb ((a3 + v10)) fun v12 =>
  k11 a1 v12 a4 (a5 + 1) T11)))))
set_option maxRecDepth 100000 in
set_option maxHeartbeats 4000000 in
theorem s_X6_blackDots_b11 {x : JX} {ad : Nat → Nat} {U : Mm} {S0 : Hp} {q : Int32 × Mm}  {k11 : Int32 → Int32 → Int32 → Int32 → Mm → Option (Int32 × Mm)} (hn9 : x_n x = 7) (C : CB x RX6 cX6_blackDots) (M : CMr x 2 (some .int) S0 ad true U eI q) (hk11 : ∀ (a1 : Int32) (a3 : Int32) (a4 : Int32) (a5 : Int32) (T : Mm), k11 a1 a3 a4 a5 T = some q → Jr x ad true U T [(0, .ref (ad 5)), (1, .int a1), (3, .int a3), (4, .int a4), (5, .int a5)] 11 []) (a1 : Int32) (a3 : Int32) (a4 : Int32) (a5 : Int32) (T : Mm) (h : f_X6_blackDots_b11 k11 a1 a3 a4 a5 T = some q) : Jr x ad true U T [(0, .ref (ad 5)), (1, .int a1), (3, .int a3), (4, .int a4), (5, .int a5)] 11 [] := by
  unfold f_X6_blackDots_b11 at h
  refine r_iload C dX6_blackDots_11 4 rfl ?_
  refine r_bipush (v := 20) C dX6_blackDots_13 (by decide) ?_
  refine r_ic_ge (tgt := 80) C dX6_blackDots_15 (by decide) h (fun h => ?_) (fun h => ?_)
  · refine r_iload_n C dX6_blackDots_80 rfl 2 rfl ?_
    exact r_iret C M dX6_blackDots_81 h
  · refine r_iload_n C dX6_blackDots_18 rfl 1 rfl ?_
    refine r_if_lt (tgt := 80) C dX6_blackDots_19 (by decide) h (fun h => ?_) (fun h => ?_)
    · refine r_iload_n C dX6_blackDots_80 rfl 2 rfl ?_
      exact r_iret C M dX6_blackDots_81 h
    · refine r_iload_n C dX6_blackDots_22 rfl 1 rfl ?_
      refine r_aload_n C dX6_blackDots_23 rfl 0 rfl ?_
      refine r_getp (f := 606) (j := 9) C flX6_25 dX6_blackDots_24 kq_5 (by decide) rfl (fun W => pt_606 kq_5 W) ?_
      refine r_alen (n := 0) (v := 13) C dX6_blackDots_27 kq_9 (by decide) (by decide) (congrArg Int32.ofNat lq_9) ?_
      refine r_ic_ge (tgt := 80) C dX6_blackDots_28 (by decide) h (fun h => ?_) (fun h => ?_)
      · refine r_iload_n C dX6_blackDots_80 rfl 2 rfl ?_
        exact r_iret C M dX6_blackDots_81 h
      · refine r_iload C dX6_blackDots_31 3 rfl ?_
        refine r_iload C dX6_blackDots_33 4 rfl ?_
        refine r_iadd C dX6_blackDots_35 rfl ?_
        refine r_lbI h (fun v1 h => ?_)
        refine r_istore (lv' := [(6, .int v1), (0, .ref (ad 5)), (1, .int a1), (3, .int a3), (4, .int a4), (5, .int a5)]) C dX6_blackDots_36 (by rw [hn9]; decide) rfl ?_
        refine r_iload_n C dX6_blackDots_38 rfl 3 rfl ?_
        show Jr _ _ _ _ _ _ 39 _
        refine r_iload C dX6_blackDots_39 0 rfl ?_
        refine r_if_lt (tgt := 71) C dX6_blackDots_41 (by decide) h (fun h => ?_) (fun h => ?_)
        · refine r_iconst (v := 0) C dX6_blackDots_71 (by decide) ?_
          refine r_iadd C dX6_blackDots_72 rfl ?_
          refine r_lbI h (fun v2 h => ?_)
          refine r_istore_n (lv' := [(3, .int v2), (6, .int v1), (0, .ref (ad 5)), (1, .int a1), (4, .int a4), (5, .int a5)]) C dX6_blackDots_73 rfl (by rw [hn9]; decide) rfl ?_
          refine r_iinc (q := 5) (v := (a5 + 1)) (lv' := [(5, .int (a5 + 1)), (3, .int v2), (6, .int v1), (0, .ref (ad 5)), (1, .int a1), (4, .int a4)]) C dX6_blackDots_74 rfl (by rw [show Int32.ofInt (1) = 1 by decide]) (by rw [hn9]; decide) rfl ?_
          refine r_goto (tgt := 11) C dX6_blackDots_77 (by decide) ?_
          refine Jr.sub [3, 4, 1, 5, 0] (lv' := [(0, .ref (ad 5)), (1, .int a1), (3, .int v2), (4, .int a4), (5, .int (a5 + 1))]) rfl ?_
          exact hk11 a1 v2 a4 (a5 + 1) T h
        · refine r_iload C dX6_blackDots_44 0 rfl ?_
          refine r_aload_n C dX6_blackDots_46 rfl 1 rfl ?_
          refine r_getp (f := 606) (j := 9) C flX6_25 dX6_blackDots_47 kq_5 (by decide) rfl (fun W => pt_606 kq_5 W) ?_
          refine r_iload_n C dX6_blackDots_50 rfl 2 rfl ?_
          refine r_aaldR (n := 13) (t := fun j9 => (10 + j9)) C dX6_blackDots_51 kq_9 lq_9 (fun hj W => pe_9 hj W) h (fun j3 hj4 h => ?_)
          refine Jr.eq (lv' := [(6, .int v1), (0, .ref (ad 5)), (1, .int a1), (3, .int a3), (4, .int a4), (5, .int a5)]) (st' := [.ref (ad (10 + j3)), .int v1, .int a3]) rfl rfl ?_
          show Jr _ _ _ _ _ _ 52 _
          refine r_alen (n := 0) (v := 16000) C dX6_blackDots_52 (pek_9 hj4) (by decide) (by decide) (congrArg Int32.ofNat (pel_9 hj4)) ?_
          refine r_ic_ge (tgt := 71) C dX6_blackDots_53 (by decide) h (fun h => ?_) (fun h => ?_)
          · refine r_iconst (v := 0) C dX6_blackDots_71 (by decide) ?_
            refine r_iadd C dX6_blackDots_72 rfl ?_
            refine r_lbI h (fun v5 h => ?_)
            refine r_istore_n (lv' := [(3, .int v5), (6, .int v1), (0, .ref (ad 5)), (1, .int a1), (4, .int a4), (5, .int a5)]) C dX6_blackDots_73 rfl (by rw [hn9]; decide) rfl ?_
            refine r_iinc (q := 5) (v := (a5 + 1)) (lv' := [(5, .int (a5 + 1)), (3, .int v5), (6, .int v1), (0, .ref (ad 5)), (1, .int a1), (4, .int a4)]) C dX6_blackDots_74 rfl (by rw [show Int32.ofInt (1) = 1 by decide]) (by rw [hn9]; decide) rfl ?_
            refine r_goto (tgt := 11) C dX6_blackDots_77 (by decide) ?_
            refine Jr.sub [3, 4, 1, 5, 0] (lv' := [(0, .ref (ad 5)), (1, .int a1), (3, .int v5), (4, .int a4), (5, .int (a5 + 1))]) rfl ?_
            exact hk11 a1 v5 a4 (a5 + 1) T h
          · refine r_aload_n C dX6_blackDots_56 rfl 1 rfl ?_
            refine r_getp (f := 606) (j := 9) C flX6_25 dX6_blackDots_57 kq_5 (by decide) rfl (fun W => pt_606 kq_5 W) ?_
            refine r_iload_n C dX6_blackDots_60 rfl 2 rfl ?_
            refine r_aaldR (n := 13) (t := fun j9 => (10 + j9)) C dX6_blackDots_61 kq_9 lq_9 (fun hj W => pe_9 hj W) h (fun j6 hj7 h => ?_)
            refine Jr.eq (lv' := [(6, .int v1), (0, .ref (ad 5)), (1, .int a1), (3, .int a3), (4, .int a4), (5, .int a5)]) (st' := [.ref (ad (10 + j6)), .int a3]) rfl rfl ?_
            refine r_iload C dX6_blackDots_62 0 rfl ?_
            show Jr _ _ _ _ _ _ 64 _
            refine r_iald (n := 16000) C dX6_blackDots_64 (pek_9 hj7) (pel_9 hj7) h (fun j8 hj9 h => ?_)
            refine r_callSI C M h [.int (gA T (10 + j6) j8)] [.int a3] mlX6_43 mcJ6_bitCount_0f7a4 (fun q9 e9 => s_J6_bitCount_0f7a4 (gA T (10 + j6) j8)  e9) (by decide) (by decide) rfl rfl (Nat.le_of_ble_eq_true rfl) dX6_blackDots_65 (fun v10 T11 h => ?_)
            refine r_goto (tgt := 72) C dX6_blackDots_68 (by decide) ?_
            refine r_iadd C dX6_blackDots_72 rfl ?_
            refine r_lbI h (fun v12 h => ?_)
            refine r_istore_n (lv' := [(3, .int v12), (6, .int v1), (0, .ref (ad 5)), (1, .int a1), (4, .int a4), (5, .int a5)]) C dX6_blackDots_73 rfl (by rw [hn9]; decide) rfl ?_
            refine r_iinc (q := 5) (v := (a5 + 1)) (lv' := [(5, .int (a5 + 1)), (3, .int v12), (6, .int v1), (0, .ref (ad 5)), (1, .int a1), (4, .int a4)]) C dX6_blackDots_74 rfl (by rw [show Int32.ofInt (1) = 1 by decide]) (by rw [hn9]; decide) rfl ?_
            show Jr _ _ _ _ _ _ 77 _
            refine r_goto (tgt := 11) C dX6_blackDots_77 (by decide) ?_
            refine Jr.sub [3, 4, 1, 5, 0] (lv' := [(0, .ref (ad 5)), (1, .int a1), (3, .int v12), (4, .int a4), (5, .int (a5 + 1))]) rfl ?_
            exact hk11 a1 v12 a4 (a5 + 1) T11 h
noncomputable def f_X6_blackDots_l11 (n : Nat) : Int32 → Int32 → Int32 → Int32 → Mm → Option (Int32 × Mm) := Nat.rec (fun _ _ _ _ _ => none) (fun _ ih => f_X6_blackDots_b11 ih) n
theorem s_X6_blackDots_l11 {x : JX} {ad : Nat → Nat} {U : Mm} {S0 : Hp} {q : Int32 × Mm}  (hn9 : x_n x = 7) (C : CB x RX6 cX6_blackDots) (M : CMr x 2 (some .int) S0 ad true U eI q) : ∀ (n : Nat), ∀ (a1 : Int32) (a3 : Int32) (a4 : Int32) (a5 : Int32) (T : Mm), f_X6_blackDots_l11  n a1 a3 a4 a5 T = some q → Jr x ad true U T [(0, .ref (ad 5)), (1, .int a1), (3, .int a3), (4, .int a4), (5, .int a5)] 11 [] := by
  intro n
  induction n with
  | zero => intro a1 a3 a4 a5 T  h; exact absurd h (by intro h; cases h)
  | succ n ih => exact fun a1 a3 a4 a5 T  h => s_X6_blackDots_b11 hn9 C M (ih) a1 a3 a4 a5 T  h
noncomputable def f_X6_blackDots (p1 : Int32) (p2 : Int32) (T : Mm) : Option (Int32 × Mm) :=
  lb ((p2 * 20)) fun v1 =>
  f_X6_blackDots_l11 FU p1 0 v1 0 T
set_option maxRecDepth 100000 in
set_option maxHeartbeats 4000000 in
theorem s_X6_blackDots {ad : Nat → Nat} {U T : Mm} {q : Int32 × Mm}  (p1 : Int32) (p2 : Int32) (h : f_X6_blackDots p1 p2 T = some q) : Cr 2 yX6_blackDots cX6_blackDots 7 (some .int) [.ref (ad 5), .int p1, .int p2] ad true U T eI q := by
  refine cr_of (by decide) (Nat.le_of_ble_eq_true rfl) fun x S0 hn9 C M => ?_
  have C : CB x RX6 cX6_blackDots := C
  refine Jr.eq (lv' := [(0, .ref (ad 5)), (1, .int p1), (2, .int p2)]) (st' := []) rfl rfl ?_
  unfold f_X6_blackDots at h
  refine r_iconst (v := 0) C dX6_blackDots_0 (by decide) ?_
  refine r_istore_n (lv' := [(3, .int 0), (0, .ref (ad 5)), (1, .int p1), (2, .int p2)]) C dX6_blackDots_1 rfl (by rw [hn9]; decide) rfl ?_
  refine r_iload_n C dX6_blackDots_2 rfl 3 rfl ?_
  refine r_bipush (v := 20) C dX6_blackDots_3 (by decide) ?_
  refine r_imul C dX6_blackDots_5 rfl ?_
  show Jr _ _ _ _ _ _ 6 _
  refine r_lbI h (fun v1 h => ?_)
  refine r_istore (lv' := [(4, .int v1), (3, .int 0), (0, .ref (ad 5)), (1, .int p1), (2, .int p2)]) C dX6_blackDots_6 (by rw [hn9]; decide) rfl ?_
  refine r_iconst (v := 0) C dX6_blackDots_8 (by decide) ?_
  refine r_istore (lv' := [(5, .int 0), (4, .int v1), (3, .int 0), (0, .ref (ad 5)), (1, .int p1), (2, .int p2)]) C dX6_blackDots_9 (by rw [hn9]; decide) rfl ?_
  refine Jr.sub [3, 4, 2, 1, 0] (lv' := [(0, .ref (ad 5)), (1, .int p1), (3, .int 0), (4, .int v1), (5, .int 0)]) rfl ?_
  exact s_X6_blackDots_l11 hn9 C M  FU p1 0 v1 0 T h
theorem dX11_black_0 : decode cX11_black 0 = .ok (.aload_n 0, 1) := by decide +kernel
theorem dX11_black_1 : decode cX11_black 1 = .ok (.getfield 33, 3) := by decide +kernel
theorem dX11_black_4 : decode cX11_black 4 = .ok (.iload_n 1, 1) := by decide +kernel
theorem dX11_black_5 : decode cX11_black 5 = .ok (.iload_n 2, 1) := by decide +kernel
theorem dX11_black_6 : decode cX11_black 6 = .ok (.invokevirtual 123, 3) := by decide +kernel
theorem dX11_black_9 : decode cX11_black 9 = .ok (.ifCond .eq 15, 3) := by decide +kernel
theorem dX11_black_12 : decode cX11_black 12 = .ok (.aload_n 0, 1) := by decide +kernel
theorem dX11_black_13 : decode cX11_black 13 = .ok (.getfield 33, 3) := by decide +kernel
theorem dX11_black_16 : decode cX11_black 16 = .ok (.iload_n 1, 1) := by decide +kernel
theorem dX11_black_17 : decode cX11_black 17 = .ok (.iload_n 2, 1) := by decide +kernel
theorem dX11_black_18 : decode cX11_black 18 = .ok (.invokevirtual 135, 3) := by decide +kernel
theorem dX11_black_21 : decode cX11_black 21 = .ok (.goto 4, 3) := by decide +kernel
theorem dX11_black_24 : decode cX11_black 24 = .ok (.iconst (-1), 1) := by decide +kernel
theorem dX11_black_25 : decode cX11_black 25 = .ok (.ireturn, 1) := by decide +kernel
noncomputable def f_X11_black (p1 : Int32) (p2 : Int32) (T : Mm) : Option (Int32 × Mm) :=
  bd (f_X6_hasRow p1 p2 T) fun v1 T2 =>
  if v1 = 0 then (some ((-1), T2))
  else (bd (f_X6_blackDots p1 p2 T2) fun v3 T4 =>
  some (v3, T4))
set_option maxRecDepth 100000 in
set_option maxHeartbeats 4000000 in
theorem s_X11_black {ad : Nat → Nat} {U T : Mm} {q : Int32 × Mm}  (p1 : Int32) (p2 : Int32) (h : f_X11_black p1 p2 T = some q) : Cr 3 yX11_black cX11_black 3 (some .int) [.ref (ad 0), .int p1, .int p2] ad true U T eI q := by
  refine cr_of (by decide) (Nat.le_of_ble_eq_true rfl) fun x S0 hn9 C M => ?_
  have C : CB x RX11 cX11_black := C
  refine Jr.eq (lv' := [(0, .ref (ad 0)), (1, .int p1), (2, .int p2)]) (st' := []) rfl rfl ?_
  unfold f_X11_black at h
  refine r_aload_n C dX11_black_0 rfl 0 rfl ?_
  refine r_getp (f := 1106) (j := 5) C flX11_33 dX11_black_1 kq_0 (by decide) rfl (fun W => pt_1106 kq_0 W) ?_
  refine r_iload_n C dX11_black_4 rfl 1 rfl ?_
  refine r_iload_n C dX11_black_5 rfl 2 rfl ?_
  refine r_callVI C M h [.int p1, .int p2] [] mlX11_123 mcX6_hasRow (fun q9 e9 => s_X6_hasRow p1 p2  e9) kq_5 rfl (by decide) (by decide) rfl rfl (Nat.le_of_ble_eq_true rfl) dX11_black_6 (fun v1 T2 h => ?_)
  show Jr _ _ _ _ _ _ 9 _
  refine r_if_eq (tgt := 24) C dX11_black_9 (by decide) h (fun h => ?_) (fun h => ?_)
  · refine r_iconst (v := (-1)) C dX11_black_24 (by decide) ?_
    exact r_iret C M dX11_black_25 h
  · refine r_aload_n C dX11_black_12 rfl 0 rfl ?_
    refine r_getp (f := 1106) (j := 5) C flX11_33 dX11_black_13 kq_0 (by decide) rfl (fun W => pt_1106 kq_0 W) ?_
    refine r_iload_n C dX11_black_16 rfl 1 rfl ?_
    refine r_iload_n C dX11_black_17 rfl 2 rfl ?_
    refine r_callVI C M h [.int p1, .int p2] [] mlX11_135 mcX6_blackDots (fun q9 e9 => s_X6_blackDots p1 p2  e9) kq_5 rfl (by decide) (by decide) rfl rfl (Nat.le_of_ble_eq_true rfl) dX11_black_18 (fun v3 T4 h => ?_)
    show Jr _ _ _ _ _ _ 21 _
    refine r_goto (tgt := 25) C dX11_black_21 (by decide) ?_
    exact r_iret C M dX11_black_25 h
theorem dX9_lastState_0 : decode cX9_lastState 0 = .ok (.aload_n 0, 1) := by decide +kernel
theorem dX9_lastState_1 : decode cX9_lastState 1 = .ok (.getfield 126, 3) := by decide +kernel
theorem dX9_lastState_4 : decode cX9_lastState 4 = .ok (.ifCond .eq 22, 3) := by decide +kernel
theorem dX9_lastState_7 : decode cX9_lastState 7 = .ok (.iload_n 1, 1) := by decide +kernel
theorem dX9_lastState_8 : decode cX9_lastState 8 = .ok (.ifCond .lt 18, 3) := by decide +kernel
theorem dX9_lastState_11 : decode cX9_lastState 11 = .ok (.iload_n 1, 1) := by decide +kernel
theorem dX9_lastState_12 : decode cX9_lastState 12 = .ok (.bipush 12, 2) := by decide +kernel
theorem dX9_lastState_14 : decode cX9_lastState 14 = .ok (.if_icmp .ge 12, 3) := by decide +kernel
theorem dX9_lastState_17 : decode cX9_lastState 17 = .ok (.aload_n 0, 1) := by decide +kernel
theorem dX9_lastState_18 : decode cX9_lastState 18 = .ok (.getfield 74, 3) := by decide +kernel
theorem dX9_lastState_21 : decode cX9_lastState 21 = .ok (.iload_n 1, 1) := by decide +kernel
theorem dX9_lastState_22 : decode cX9_lastState 22 = .ok (.iaload, 1) := by decide +kernel
theorem dX9_lastState_23 : decode cX9_lastState 23 = .ok (.goto 4, 3) := by decide +kernel
theorem dX9_lastState_26 : decode cX9_lastState 26 = .ok (.iconst (-1), 1) := by decide +kernel
theorem dX9_lastState_27 : decode cX9_lastState 27 = .ok (.ireturn, 1) := by decide +kernel
noncomputable def f_X9_lastState (p1 : Int32) (T : Mm) : Option (Int32 × Mm) :=
  if (gI T 918 23) = 0 then (some ((-1), T))
  else (if p1 < 0 then (some ((-1), T))
  else (if 12 ≤ p1 then (some ((-1), T))
  else (ix p1 12 fun j1 =>
  some ((gA T 65 j1), T))))
set_option maxRecDepth 100000 in
set_option maxHeartbeats 4000000 in
theorem s_X9_lastState {ad : Nat → Nat} {U T : Mm} {q : Int32 × Mm}  (p1 : Int32) (h : f_X9_lastState p1 T = some q) : Cr 1 yX9_lastState cX9_lastState 2 (some .int) [.ref (ad 23), .int p1] ad true U T eI q := by
  refine cr_of (by decide) (Nat.le_of_ble_eq_true rfl) fun x S0 hn9 C M => ?_
  have C : CB x RX9 cX9_lastState := C
  refine Jr.eq (lv' := [(0, .ref (ad 23)), (1, .int p1)]) (st' := []) rfl rfl ?_
  unfold f_X9_lastState at h
  refine r_aload_n C dX9_lastState_0 rfl 0 rfl ?_
  refine r_geti (f := 918) C flX9_126 dX9_lastState_1 kq_23 (by decide) (by decide) rfl ?_
  refine r_if_eq (tgt := 26) C dX9_lastState_4 (by decide) h (fun h => ?_) (fun h => ?_)
  · refine r_iconst (v := (-1)) C dX9_lastState_26 (by decide) ?_
    exact r_iret C M dX9_lastState_27 h
  · refine r_iload_n C dX9_lastState_7 rfl 1 rfl ?_
    refine r_if_lt (tgt := 26) C dX9_lastState_8 (by decide) h (fun h => ?_) (fun h => ?_)
    · refine r_iconst (v := (-1)) C dX9_lastState_26 (by decide) ?_
      exact r_iret C M dX9_lastState_27 h
    · refine r_iload_n C dX9_lastState_11 rfl 1 rfl ?_
      refine r_bipush (v := 12) C dX9_lastState_12 (by decide) ?_
      refine r_ic_ge (tgt := 26) C dX9_lastState_14 (by decide) h (fun h => ?_) (fun h => ?_)
      · refine r_iconst (v := (-1)) C dX9_lastState_26 (by decide) ?_
        exact r_iret C M dX9_lastState_27 h
      · refine r_aload_n C dX9_lastState_17 rfl 0 rfl ?_
        refine r_getp (f := 917) (j := 65) C flX9_74 dX9_lastState_18 kq_23 (by decide) rfl (fun W => pt_917 kq_23 W) ?_
        refine r_iload_n C dX9_lastState_21 rfl 1 rfl ?_
        refine r_iald (n := 12) C dX9_lastState_22 kq_65 lq_65 h (fun j1 hj2 h => ?_)
        refine r_goto (tgt := 27) C dX9_lastState_23 (by decide) ?_
        show Jr _ _ _ _ _ _ 27 _
        exact r_iret C M dX9_lastState_27 h
theorem dX11_state_0 : decode cX11_state 0 = .ok (.aload_n 0, 1) := by decide +kernel
theorem dX11_state_1 : decode cX11_state 1 = .ok (.getfield 42, 3) := by decide +kernel
theorem dX11_state_4 : decode cX11_state 4 = .ok (.iload_n 1, 1) := by decide +kernel
theorem dX11_state_5 : decode cX11_state 5 = .ok (.invokevirtual 139, 3) := by decide +kernel
theorem dX11_state_8 : decode cX11_state 8 = .ok (.ireturn, 1) := by decide +kernel
noncomputable def f_X11_state (p1 : Int32) (T : Mm) : Option (Int32 × Mm) :=
  bd (f_X9_lastState p1 T) fun v1 T2 =>
  some (v1, T2)
set_option maxRecDepth 100000 in
set_option maxHeartbeats 4000000 in
theorem s_X11_state {ad : Nat → Nat} {U T : Mm} {q : Int32 × Mm}  (p1 : Int32) (h : f_X11_state p1 T = some q) : Cr 2 yX11_state cX11_state 2 (some .int) [.ref (ad 0), .int p1] ad true U T eI q := by
  refine cr_of (by decide) (Nat.le_of_ble_eq_true rfl) fun x S0 hn9 C M => ?_
  have C : CB x RX11 cX11_state := C
  refine Jr.eq (lv' := [(0, .ref (ad 0)), (1, .int p1)]) (st' := []) rfl rfl ?_
  unfold f_X11_state at h
  refine r_aload_n C dX11_state_0 rfl 0 rfl ?_
  refine r_getp (f := 1107) (j := 23) C flX11_42 dX11_state_1 kq_0 (by decide) rfl (fun W => pt_1107 kq_0 W) ?_
  refine r_iload_n C dX11_state_4 rfl 1 rfl ?_
  refine r_callVI C M h [.int p1] [] mlX11_139 mcX9_lastState (fun q9 e9 => s_X9_lastState p1  e9) kq_23 rfl (by decide) (by decide) rfl rfl (Nat.le_of_ble_eq_true rfl) dX11_state_5 (fun v1 T2 h => ?_)
  exact r_iret C M dX11_state_8 h
theorem dX8_count_0 : decode cX8_count 0 = .ok (.iconst 0, 1) := by decide +kernel
theorem dX8_count_1 : decode cX8_count 1 = .ok (.istore_n 1, 1) := by decide +kernel
theorem dX8_count_2 : decode cX8_count 2 = .ok (.iconst 0, 1) := by decide +kernel
theorem dX8_count_3 : decode cX8_count 3 = .ok (.istore_n 2, 1) := by decide +kernel
theorem dX8_count_4 : decode cX8_count 4 = .ok (.iload_n 2, 1) := by decide +kernel
theorem dX8_count_5 : decode cX8_count 5 = .ok (.bipush 16, 2) := by decide +kernel
theorem dX8_count_7 : decode cX8_count 7 = .ok (.if_icmp .ge 26, 3) := by decide +kernel
theorem dX8_count_10 : decode cX8_count 10 = .ok (.iload_n 1, 1) := by decide +kernel
theorem dX8_count_11 : decode cX8_count 11 = .ok (.aload_n 0, 1) := by decide +kernel
theorem dX8_count_12 : decode cX8_count 12 = .ok (.getfield 9, 3) := by decide +kernel
theorem dX8_count_15 : decode cX8_count 15 = .ok (.iload_n 2, 1) := by decide +kernel
theorem dX8_count_16 : decode cX8_count 16 = .ok (.iaload, 1) := by decide +kernel
theorem dX8_count_17 : decode cX8_count 17 = .ok (.ifCond .eq 7, 3) := by decide +kernel
theorem dX8_count_20 : decode cX8_count 20 = .ok (.iconst 1, 1) := by decide +kernel
theorem dX8_count_21 : decode cX8_count 21 = .ok (.goto 4, 3) := by decide +kernel
theorem dX8_count_24 : decode cX8_count 24 = .ok (.iconst 0, 1) := by decide +kernel
theorem dX8_count_25 : decode cX8_count 25 = .ok (.iadd, 1) := by decide +kernel
theorem dX8_count_26 : decode cX8_count 26 = .ok (.istore_n 1, 1) := by decide +kernel
theorem dX8_count_27 : decode cX8_count 27 = .ok (.iinc 2 1, 3) := by decide +kernel
theorem dX8_count_30 : decode cX8_count 30 = .ok (.goto (-26), 3) := by decide +kernel
theorem dX8_count_33 : decode cX8_count 33 = .ok (.iload_n 1, 1) := by decide +kernel
theorem dX8_count_34 : decode cX8_count 34 = .ok (.ireturn, 1) := by decide +kernel
noncomputable def f_X8_count_b4 (k4 : Nat → Int32 → Int32 → Mm → Option (Int32 × Mm)) (a0 : Nat) (a1 : Int32) (a2 : Int32) (T : Mm) : Option (Int32 × Mm) :=
  if 16 ≤ a2 then (some (a1, T))
  else (ix a2 16 fun j1 =>
  if (gA T (a0 + 1) j1) = 0 then (lb ((a1 + 0)) fun v3 =>
  k4 a0 v3 (a2 + 1) T)
  else (lb ((a1 + 1)) fun v4 =>
  k4 a0 v4 (a2 + 1) T))
set_option maxRecDepth 100000 in
set_option maxHeartbeats 4000000 in
theorem s_X8_count_b4 {x : JX} {ad : Nat → Nat} {U : Mm} {S0 : Hp} {q : Int32 × Mm}  {k4 : Nat → Int32 → Int32 → Mm → Option (Int32 × Mm)} (hn9 : x_n x = 3) (C : CB x RX8 cX8_count) (M : CMr x 1 (some .int) S0 ad true U eI q) (hk4 : ∀ (a0 : Nat) (a1 : Int32) (a2 : Int32) (T : Mm) (_ : kS true a0 = 8), k4 a0 a1 a2 T = some q → Jr x ad true U T [(0, .ref (ad a0)), (1, .int a1), (2, .int a2)] 4 []) (a0 : Nat) (a1 : Int32) (a2 : Int32) (T : Mm) (ha0 : kS true a0 = 8) (h : f_X8_count_b4 k4 a0 a1 a2 T = some q) : Jr x ad true U T [(0, .ref (ad a0)), (1, .int a1), (2, .int a2)] 4 [] := by
  unfold f_X8_count_b4 at h
  refine r_iload_n C dX8_count_4 rfl 2 rfl ?_
  refine r_bipush (v := 16) C dX8_count_5 (by decide) ?_
  refine r_ic_ge (tgt := 33) C dX8_count_7 (by decide) h (fun h => ?_) (fun h => ?_)
  · refine r_iload_n C dX8_count_33 rfl 1 rfl ?_
    exact r_iret C M dX8_count_34 h
  · refine r_iload_n C dX8_count_10 rfl 1 rfl ?_
    refine r_aload_n C dX8_count_11 rfl 0 rfl ?_
    refine r_getp (f := 800) (j := (a0 + 1)) C flX8_9 dX8_count_12 ha0 (by decide) rfl (fun W => pt_800 ha0 W) ?_
    refine r_iload_n C dX8_count_15 rfl 2 rfl ?_
    refine r_iald (n := 16) C dX8_count_16 (pk_800 ha0) (pl_800 ha0) h (fun j1 hj2 h => ?_)
    show Jr _ _ _ _ _ _ 17 _
    refine r_if_eq (tgt := 24) C dX8_count_17 (by decide) h (fun h => ?_) (fun h => ?_)
    · refine r_iconst (v := 0) C dX8_count_24 (by decide) ?_
      refine r_iadd C dX8_count_25 rfl ?_
      refine r_lbI h (fun v3 h => ?_)
      refine r_istore_n (lv' := [(1, .int v3), (0, .ref (ad a0)), (2, .int a2)]) C dX8_count_26 rfl (by rw [hn9]; decide) rfl ?_
      refine r_iinc (q := 2) (v := (a2 + 1)) (lv' := [(2, .int (a2 + 1)), (1, .int v3), (0, .ref (ad a0))]) C dX8_count_27 rfl (by rw [show Int32.ofInt (1) = 1 by decide]) (by rw [hn9]; decide) rfl ?_
      refine r_goto (tgt := 4) C dX8_count_30 (by decide) ?_
      refine Jr.sub [2, 1, 0] (lv' := [(0, .ref (ad a0)), (1, .int v3), (2, .int (a2 + 1))]) rfl ?_
      exact hk4 a0 v3 (a2 + 1) T ha0 h
    · refine r_iconst (v := 1) C dX8_count_20 (by decide) ?_
      refine r_goto (tgt := 25) C dX8_count_21 (by decide) ?_
      refine r_iadd C dX8_count_25 rfl ?_
      refine r_lbI h (fun v4 h => ?_)
      refine r_istore_n (lv' := [(1, .int v4), (0, .ref (ad a0)), (2, .int a2)]) C dX8_count_26 rfl (by rw [hn9]; decide) rfl ?_
      refine r_iinc (q := 2) (v := (a2 + 1)) (lv' := [(2, .int (a2 + 1)), (1, .int v4), (0, .ref (ad a0))]) C dX8_count_27 rfl (by rw [show Int32.ofInt (1) = 1 by decide]) (by rw [hn9]; decide) rfl ?_
      show Jr _ _ _ _ _ _ 30 _
      refine r_goto (tgt := 4) C dX8_count_30 (by decide) ?_
      refine Jr.sub [2, 1, 0] (lv' := [(0, .ref (ad a0)), (1, .int v4), (2, .int (a2 + 1))]) rfl ?_
      exact hk4 a0 v4 (a2 + 1) T ha0 h
noncomputable def f_X8_count_l4 (n : Nat) : Nat → Int32 → Int32 → Mm → Option (Int32 × Mm) := Nat.rec (fun _ _ _ _ => none) (fun _ ih => f_X8_count_b4 ih) n
theorem s_X8_count_l4 {x : JX} {ad : Nat → Nat} {U : Mm} {S0 : Hp} {q : Int32 × Mm}  (hn9 : x_n x = 3) (C : CB x RX8 cX8_count) (M : CMr x 1 (some .int) S0 ad true U eI q) : ∀ (n : Nat), ∀ (a0 : Nat) (a1 : Int32) (a2 : Int32) (T : Mm) (_ : kS true a0 = 8), f_X8_count_l4  n a0 a1 a2 T = some q → Jr x ad true U T [(0, .ref (ad a0)), (1, .int a1), (2, .int a2)] 4 [] := by
  intro n
  induction n with
  | zero => intro a0 a1 a2 T _ h; exact absurd h (by intro h; cases h)
  | succ n ih => exact fun a0 a1 a2 T ha0 h => s_X8_count_b4 hn9 C M (ih) a0 a1 a2 T ha0 h
noncomputable def f_X8_count (p0 : Nat) (T : Mm) : Option (Int32 × Mm) :=
  f_X8_count_l4 FU p0 0 0 T
set_option maxRecDepth 100000 in
set_option maxHeartbeats 4000000 in
theorem s_X8_count {ad : Nat → Nat} {U T : Mm} {q : Int32 × Mm}  (p0 : Nat) (hk0 : kS true p0 = 8) (h : f_X8_count p0 T = some q) : Cr 1 yX8_count cX8_count 3 (some .int) [.ref (ad p0)] ad true U T eI q := by
  refine cr_of (by decide) (Nat.le_of_ble_eq_true rfl) fun x S0 hn9 C M => ?_
  have C : CB x RX8 cX8_count := C
  refine Jr.eq (lv' := [(0, .ref (ad p0))]) (st' := []) rfl rfl ?_
  unfold f_X8_count at h
  refine r_iconst (v := 0) C dX8_count_0 (by decide) ?_
  refine r_istore_n (lv' := [(1, .int 0), (0, .ref (ad p0))]) C dX8_count_1 rfl (by rw [hn9]; decide) rfl ?_
  refine r_iconst (v := 0) C dX8_count_2 (by decide) ?_
  refine r_istore_n (lv' := [(2, .int 0), (1, .int 0), (0, .ref (ad p0))]) C dX8_count_3 rfl (by rw [hn9]; decide) rfl ?_
  refine Jr.sub [2, 1, 0] (lv' := [(0, .ref (ad p0)), (1, .int 0), (2, .int 0)]) rfl ?_
  exact s_X8_count_l4 hn9 C M  FU p0 0 0 T hk0 h
theorem dX9_bytesOfMacros_0 : decode cX9_bytesOfMacros 0 = .ok (.iconst 0, 1) := by decide +kernel
theorem dX9_bytesOfMacros_1 : decode cX9_bytesOfMacros 1 = .ok (.istore_n 1, 1) := by decide +kernel
theorem dX9_bytesOfMacros_2 : decode cX9_bytesOfMacros 2 = .ok (.iconst 0, 1) := by decide +kernel
theorem dX9_bytesOfMacros_3 : decode cX9_bytesOfMacros 3 = .ok (.istore_n 2, 1) := by decide +kernel
theorem dX9_bytesOfMacros_4 : decode cX9_bytesOfMacros 4 = .ok (.iload_n 2, 1) := by decide +kernel
theorem dX9_bytesOfMacros_5 : decode cX9_bytesOfMacros 5 = .ok (.aload_n 0, 1) := by decide +kernel
theorem dX9_bytesOfMacros_6 : decode cX9_bytesOfMacros 6 = .ok (.getfield 50, 3) := by decide +kernel
theorem dX9_bytesOfMacros_9 : decode cX9_bytesOfMacros 9 = .ok (.arraylength, 1) := by decide +kernel
theorem dX9_bytesOfMacros_10 : decode cX9_bytesOfMacros 10 = .ok (.if_icmp .ge 33, 3) := by decide +kernel
theorem dX9_bytesOfMacros_13 : decode cX9_bytesOfMacros 13 = .ok (.iload_n 1, 1) := by decide +kernel
theorem dX9_bytesOfMacros_14 : decode cX9_bytesOfMacros 14 = .ok (.aload_n 0, 1) := by decide +kernel
theorem dX9_bytesOfMacros_15 : decode cX9_bytesOfMacros 15 = .ok (.getfield 43, 3) := by decide +kernel
theorem dX9_bytesOfMacros_18 : decode cX9_bytesOfMacros 18 = .ok (.iload_n 2, 1) := by decide +kernel
theorem dX9_bytesOfMacros_19 : decode cX9_bytesOfMacros 19 = .ok (.invokevirtual 192, 3) := by decide +kernel
theorem dX9_bytesOfMacros_22 : decode cX9_bytesOfMacros 22 = .ok (.ifCond .eq 12, 3) := by decide +kernel
theorem dX9_bytesOfMacros_25 : decode cX9_bytesOfMacros 25 = .ok (.aload_n 0, 1) := by decide +kernel
theorem dX9_bytesOfMacros_26 : decode cX9_bytesOfMacros 26 = .ok (.getfield 50, 3) := by decide +kernel
theorem dX9_bytesOfMacros_29 : decode cX9_bytesOfMacros 29 = .ok (.iload_n 2, 1) := by decide +kernel
theorem dX9_bytesOfMacros_30 : decode cX9_bytesOfMacros 30 = .ok (.iaload, 1) := by decide +kernel
theorem dX9_bytesOfMacros_31 : decode cX9_bytesOfMacros 31 = .ok (.goto 4, 3) := by decide +kernel
theorem dX9_bytesOfMacros_34 : decode cX9_bytesOfMacros 34 = .ok (.iconst 0, 1) := by decide +kernel
theorem dX9_bytesOfMacros_35 : decode cX9_bytesOfMacros 35 = .ok (.iadd, 1) := by decide +kernel
theorem dX9_bytesOfMacros_36 : decode cX9_bytesOfMacros 36 = .ok (.istore_n 1, 1) := by decide +kernel
theorem dX9_bytesOfMacros_37 : decode cX9_bytesOfMacros 37 = .ok (.iinc 2 1, 3) := by decide +kernel
theorem dX9_bytesOfMacros_40 : decode cX9_bytesOfMacros 40 = .ok (.goto (-36), 3) := by decide +kernel
theorem dX9_bytesOfMacros_43 : decode cX9_bytesOfMacros 43 = .ok (.iload_n 1, 1) := by decide +kernel
theorem dX9_bytesOfMacros_44 : decode cX9_bytesOfMacros 44 = .ok (.ireturn, 1) := by decide +kernel
noncomputable def f_X9_bytesOfMacros_b4 (k4 : Int32 → Int32 → Mm → Option (Int32 × Mm)) (a1 : Int32) (a2 : Int32) (T : Mm) : Option (Int32 × Mm) :=
  if 16 ≤ a2 then (some (a1, T))
  else (bd (f_X8_has 41 a2 T) fun v1 T2 =>
  if v1 = 0 then (lb ((a1 + 0)) fun v3 =>
  k4 v3 (a2 + 1) T2)
  else (ix a2 16 fun j4 =>
  lb ((a1 + (gA T2 44 j4))) fun v6 =>
  k4 v6 (a2 + 1) T2))
set_option maxRecDepth 100000 in
set_option maxHeartbeats 4000000 in
theorem s_X9_bytesOfMacros_b4 {x : JX} {ad : Nat → Nat} {U : Mm} {S0 : Hp} {q : Int32 × Mm}  {k4 : Int32 → Int32 → Mm → Option (Int32 × Mm)} (hn9 : x_n x = 3) (C : CB x RX9 cX9_bytesOfMacros) (M : CMr x 2 (some .int) S0 ad true U eI q) (hk4 : ∀ (a1 : Int32) (a2 : Int32) (T : Mm), k4 a1 a2 T = some q → Jr x ad true U T [(0, .ref (ad 23)), (1, .int a1), (2, .int a2)] 4 []) (a1 : Int32) (a2 : Int32) (T : Mm) (h : f_X9_bytesOfMacros_b4 k4 a1 a2 T = some q) : Jr x ad true U T [(0, .ref (ad 23)), (1, .int a1), (2, .int a2)] 4 [] := by
  unfold f_X9_bytesOfMacros_b4 at h
  refine r_iload_n C dX9_bytesOfMacros_4 rfl 2 rfl ?_
  refine r_aload_n C dX9_bytesOfMacros_5 rfl 0 rfl ?_
  refine r_getp (f := 908) (j := 44) C flX9_50 dX9_bytesOfMacros_6 kq_23 (by decide) rfl (fun W => pt_908 kq_23 W) ?_
  refine r_alen (n := 0) (v := 16) C dX9_bytesOfMacros_9 kq_44 (by decide) (by decide) (congrArg Int32.ofNat lq_44) ?_
  refine r_ic_ge (tgt := 43) C dX9_bytesOfMacros_10 (by decide) h (fun h => ?_) (fun h => ?_)
  · refine r_iload_n C dX9_bytesOfMacros_43 rfl 1 rfl ?_
    exact r_iret C M dX9_bytesOfMacros_44 h
  · refine r_iload_n C dX9_bytesOfMacros_13 rfl 1 rfl ?_
    refine r_aload_n C dX9_bytesOfMacros_14 rfl 0 rfl ?_
    refine r_getp (f := 906) (j := 41) C flX9_43 dX9_bytesOfMacros_15 kq_23 (by decide) rfl (fun W => pt_906 kq_23 W) ?_
    refine r_iload_n C dX9_bytesOfMacros_18 rfl 2 rfl ?_
    refine r_callVI C M h [.int a2] [.int a1] mlX9_192 mcX8_has (fun q9 e9 => s_X8_has 41 a2 kq_41 e9) kq_41 rfl (by decide) (by decide) rfl rfl (Nat.le_of_ble_eq_true rfl) dX9_bytesOfMacros_19 (fun v1 T2 h => ?_)
    show Jr _ _ _ _ _ _ 22 _
    refine r_if_eq (tgt := 34) C dX9_bytesOfMacros_22 (by decide) h (fun h => ?_) (fun h => ?_)
    · refine r_iconst (v := 0) C dX9_bytesOfMacros_34 (by decide) ?_
      refine r_iadd C dX9_bytesOfMacros_35 rfl ?_
      refine r_lbI h (fun v3 h => ?_)
      refine r_istore_n (lv' := [(1, .int v3), (0, .ref (ad 23)), (2, .int a2)]) C dX9_bytesOfMacros_36 rfl (by rw [hn9]; decide) rfl ?_
      refine r_iinc (q := 2) (v := (a2 + 1)) (lv' := [(2, .int (a2 + 1)), (1, .int v3), (0, .ref (ad 23))]) C dX9_bytesOfMacros_37 rfl (by rw [show Int32.ofInt (1) = 1 by decide]) (by rw [hn9]; decide) rfl ?_
      refine r_goto (tgt := 4) C dX9_bytesOfMacros_40 (by decide) ?_
      refine Jr.sub [2, 1, 0] (lv' := [(0, .ref (ad 23)), (1, .int v3), (2, .int (a2 + 1))]) rfl ?_
      exact hk4 v3 (a2 + 1) T2 h
    · refine r_aload_n C dX9_bytesOfMacros_25 rfl 0 rfl ?_
      refine r_getp (f := 908) (j := 44) C flX9_50 dX9_bytesOfMacros_26 kq_23 (by decide) rfl (fun W => pt_908 kq_23 W) ?_
      refine r_iload_n C dX9_bytesOfMacros_29 rfl 2 rfl ?_
      refine r_iald (n := 16) C dX9_bytesOfMacros_30 kq_44 lq_44 h (fun j4 hj5 h => ?_)
      refine r_goto (tgt := 35) C dX9_bytesOfMacros_31 (by decide) ?_
      show Jr _ _ _ _ _ _ 35 _
      refine r_iadd C dX9_bytesOfMacros_35 rfl ?_
      refine r_lbI h (fun v6 h => ?_)
      refine r_istore_n (lv' := [(1, .int v6), (0, .ref (ad 23)), (2, .int a2)]) C dX9_bytesOfMacros_36 rfl (by rw [hn9]; decide) rfl ?_
      refine r_iinc (q := 2) (v := (a2 + 1)) (lv' := [(2, .int (a2 + 1)), (1, .int v6), (0, .ref (ad 23))]) C dX9_bytesOfMacros_37 rfl (by rw [show Int32.ofInt (1) = 1 by decide]) (by rw [hn9]; decide) rfl ?_
      refine r_goto (tgt := 4) C dX9_bytesOfMacros_40 (by decide) ?_
      refine Jr.sub [2, 1, 0] (lv' := [(0, .ref (ad 23)), (1, .int v6), (2, .int (a2 + 1))]) rfl ?_
      exact hk4 v6 (a2 + 1) T2 h
noncomputable def f_X9_bytesOfMacros_l4 (n : Nat) : Int32 → Int32 → Mm → Option (Int32 × Mm) := Nat.rec (fun _ _ _ => none) (fun _ ih => f_X9_bytesOfMacros_b4 ih) n
theorem s_X9_bytesOfMacros_l4 {x : JX} {ad : Nat → Nat} {U : Mm} {S0 : Hp} {q : Int32 × Mm}  (hn9 : x_n x = 3) (C : CB x RX9 cX9_bytesOfMacros) (M : CMr x 2 (some .int) S0 ad true U eI q) : ∀ (n : Nat), ∀ (a1 : Int32) (a2 : Int32) (T : Mm), f_X9_bytesOfMacros_l4  n a1 a2 T = some q → Jr x ad true U T [(0, .ref (ad 23)), (1, .int a1), (2, .int a2)] 4 [] := by
  intro n
  induction n with
  | zero => intro a1 a2 T  h; exact absurd h (by intro h; cases h)
  | succ n ih => exact fun a1 a2 T  h => s_X9_bytesOfMacros_b4 hn9 C M (ih) a1 a2 T  h
noncomputable def f_X9_bytesOfMacros (T : Mm) : Option (Int32 × Mm) :=
  f_X9_bytesOfMacros_l4 FU 0 0 T
set_option maxRecDepth 100000 in
set_option maxHeartbeats 4000000 in
theorem s_X9_bytesOfMacros {ad : Nat → Nat} {U T : Mm} {q : Int32 × Mm}  (h : f_X9_bytesOfMacros  T = some q) : Cr 2 yX9_bytesOfMacros cX9_bytesOfMacros 3 (some .int) [.ref (ad 23)] ad true U T eI q := by
  refine cr_of (by decide) (Nat.le_of_ble_eq_true rfl) fun x S0 hn9 C M => ?_
  have C : CB x RX9 cX9_bytesOfMacros := C
  refine Jr.eq (lv' := [(0, .ref (ad 23))]) (st' := []) rfl rfl ?_
  unfold f_X9_bytesOfMacros at h
  refine r_iconst (v := 0) C dX9_bytesOfMacros_0 (by decide) ?_
  refine r_istore_n (lv' := [(1, .int 0), (0, .ref (ad 23))]) C dX9_bytesOfMacros_1 rfl (by rw [hn9]; decide) rfl ?_
  refine r_iconst (v := 0) C dX9_bytesOfMacros_2 (by decide) ?_
  refine r_istore_n (lv' := [(2, .int 0), (1, .int 0), (0, .ref (ad 23))]) C dX9_bytesOfMacros_3 rfl (by rw [hn9]; decide) rfl ?_
  refine Jr.sub [2, 1, 0] (lv' := [(0, .ref (ad 23)), (1, .int 0), (2, .int 0)]) rfl ?_
  exact s_X9_bytesOfMacros_l4 hn9 C M  FU 0 0 T h
theorem dX9_number_0 : decode cX9_number 0 = .ok (.iload_n 1, 1) := by decide +kernel
theorem dX9_number_1 : decode cX9_number 1 = .ok (.tableswitch 96 0 6 #[43, 54, 62, 70, 78, 83, 88], 43) := by decide +kernel
theorem dX9_number_44 : decode cX9_number 44 = .ok (.aload_n 0, 1) := by decide +kernel
theorem dX9_number_45 : decode cX9_number 45 = .ok (.getfield 21, 3) := by decide +kernel
theorem dX9_number_48 : decode cX9_number 48 = .ok (.getfield 176, 3) := by decide +kernel
theorem dX9_number_51 : decode cX9_number 51 = .ok (.invokevirtual 179, 3) := by decide +kernel
theorem dX9_number_54 : decode cX9_number 54 = .ok (.ireturn, 1) := by decide +kernel
theorem dX9_number_55 : decode cX9_number 55 = .ok (.aload_n 0, 1) := by decide +kernel
theorem dX9_number_56 : decode cX9_number 56 = .ok (.getfield 21, 3) := by decide +kernel
theorem dX9_number_59 : decode cX9_number 59 = .ok (.getfield 183, 3) := by decide +kernel
theorem dX9_number_62 : decode cX9_number 62 = .ok (.ireturn, 1) := by decide +kernel
theorem dX9_number_63 : decode cX9_number 63 = .ok (.aload_n 0, 1) := by decide +kernel
theorem dX9_number_64 : decode cX9_number 64 = .ok (.getfield 28, 3) := by decide +kernel
theorem dX9_number_67 : decode cX9_number 67 = .ok (.invokevirtual 179, 3) := by decide +kernel
theorem dX9_number_70 : decode cX9_number 70 = .ok (.ireturn, 1) := by decide +kernel
theorem dX9_number_71 : decode cX9_number 71 = .ok (.aload_n 0, 1) := by decide +kernel
theorem dX9_number_72 : decode cX9_number 72 = .ok (.getfield 43, 3) := by decide +kernel
theorem dX9_number_75 : decode cX9_number 75 = .ok (.invokevirtual 179, 3) := by decide +kernel
theorem dX9_number_78 : decode cX9_number 78 = .ok (.ireturn, 1) := by decide +kernel
theorem dX9_number_79 : decode cX9_number 79 = .ok (.aload_n 0, 1) := by decide +kernel
theorem dX9_number_80 : decode cX9_number 80 = .ok (.invokevirtual 186, 3) := by decide +kernel
theorem dX9_number_83 : decode cX9_number 83 = .ok (.ireturn, 1) := by decide +kernel
theorem dX9_number_84 : decode cX9_number 84 = .ok (.aload_n 0, 1) := by decide +kernel
theorem dX9_number_85 : decode cX9_number 85 = .ok (.getfield 86, 3) := by decide +kernel
theorem dX9_number_88 : decode cX9_number 88 = .ok (.ireturn, 1) := by decide +kernel
theorem dX9_number_89 : decode cX9_number 89 = .ok (.aload_n 0, 1) := by decide +kernel
theorem dX9_number_90 : decode cX9_number 90 = .ok (.getfield 12, 3) := by decide +kernel
theorem dX9_number_93 : decode cX9_number 93 = .ok (.getfield 189, 3) := by decide +kernel
theorem dX9_number_96 : decode cX9_number 96 = .ok (.ireturn, 1) := by decide +kernel
theorem dX9_number_97 : decode cX9_number 97 = .ok (.iconst (-1), 1) := by decide +kernel
theorem dX9_number_98 : decode cX9_number 98 = .ok (.ireturn, 1) := by decide +kernel
noncomputable def f_X9_number (p1 : Int32) (T : Mm) : Option (Int32 × Mm) :=
  if p1 = 0 then (bd (f_X8_count 28 T) fun v2 T3 =>
  some (v2, T3))
  else if p1 = 1 then (some ((gI T 206 27), T))
  else if p1 = 2 then (bd (f_X8_count 36 T) fun v6 T7 =>
  some (v6, T7))
  else if p1 = 3 then (bd (f_X8_count 41 T) fun v9 T10 =>
  some (v9, T10))
  else if p1 = 4 then (bd (f_X9_bytesOfMacros T) fun v12 T13 =>
  some (v12, T13))
  else if p1 = 5 then (some ((gI T 916 23), T))
  else if p1 = 6 then (some ((gI T 3 24), T))
  else (some ((-1), T))
set_option maxRecDepth 100000 in
set_option maxHeartbeats 4000000 in
theorem s_X9_number {ad : Nat → Nat} {U T : Mm} {q : Int32 × Mm}  (p1 : Int32) (h : f_X9_number p1 T = some q) : Cr 3 yX9_number cX9_number 2 (some .int) [.ref (ad 23), .int p1] ad true U T eI q := by
  refine cr_of (by decide) (Nat.le_of_ble_eq_true rfl) fun x S0 hn9 C M => ?_
  have C : CB x RX9 cX9_number := C
  refine Jr.eq (lv' := [(0, .ref (ad 23)), (1, .int p1)]) (st' := []) rfl rfl ?_
  unfold f_X9_number at h
  refine r_iload_n C dX9_number_0 rfl 1 rfl ?_
  by_cases hs1 : p1 = 0
  · rw [if_pos hs1] at h
    refine r_top hs1 ?_
    refine r_tabIn (off := 43) (tgt := 44) C dX9_number_1 (by decide) (by decide) (by decide) (by decide) ?_
    refine r_aload_n C dX9_number_44 rfl 0 rfl ?_
    refine r_getp (f := 902) (j := 27) C flX9_21 dX9_number_45 kq_23 (by decide) rfl (fun W => pt_902 kq_23 W) ?_
    refine r_getp (f := 200) (j := 28) C flX9_176 dX9_number_48 kq_27 (by decide) rfl (fun W => pt_200 kq_27 W) ?_
    refine r_callVI C M h [] [] mlX9_179 mcX8_count (fun q9 e9 => s_X8_count 28 kq_28 e9) kq_28 rfl (by decide) (by decide) rfl rfl (Nat.le_of_ble_eq_true rfl) dX9_number_51 (fun v2 T3 h => ?_)
    exact r_iret C M dX9_number_54 h
  rw [if_neg hs1] at h
  by_cases hs4 : p1 = 1
  · rw [if_pos hs4] at h
    refine r_top hs4 ?_
    refine r_tabIn (off := 54) (tgt := 55) C dX9_number_1 (by decide) (by decide) (by decide) (by decide) ?_
    refine r_aload_n C dX9_number_55 rfl 0 rfl ?_
    refine r_getp (f := 902) (j := 27) C flX9_21 dX9_number_56 kq_23 (by decide) rfl (fun W => pt_902 kq_23 W) ?_
    refine r_geti (f := 206) C flX9_183 dX9_number_59 kq_27 (by decide) (by decide) rfl ?_
    exact r_iret C M dX9_number_62 h
  rw [if_neg hs4] at h
  by_cases hs5 : p1 = 2
  · rw [if_pos hs5] at h
    refine r_top hs5 ?_
    refine r_tabIn (off := 62) (tgt := 63) C dX9_number_1 (by decide) (by decide) (by decide) (by decide) ?_
    refine r_aload_n C dX9_number_63 rfl 0 rfl ?_
    refine r_getp (f := 903) (j := 36) C flX9_28 dX9_number_64 kq_23 (by decide) rfl (fun W => pt_903 kq_23 W) ?_
    refine r_callVI C M h [] [] mlX9_179 mcX8_count (fun q9 e9 => s_X8_count 36 kq_36 e9) kq_36 rfl (by decide) (by decide) rfl rfl (Nat.le_of_ble_eq_true rfl) dX9_number_67 (fun v6 T7 h => ?_)
    exact r_iret C M dX9_number_70 h
  rw [if_neg hs5] at h
  by_cases hs8 : p1 = 3
  · rw [if_pos hs8] at h
    refine r_top hs8 ?_
    refine r_tabIn (off := 70) (tgt := 71) C dX9_number_1 (by decide) (by decide) (by decide) (by decide) ?_
    refine r_aload_n C dX9_number_71 rfl 0 rfl ?_
    refine r_getp (f := 906) (j := 41) C flX9_43 dX9_number_72 kq_23 (by decide) rfl (fun W => pt_906 kq_23 W) ?_
    refine r_callVI C M h [] [] mlX9_179 mcX8_count (fun q9 e9 => s_X8_count 41 kq_41 e9) kq_41 rfl (by decide) (by decide) rfl rfl (Nat.le_of_ble_eq_true rfl) dX9_number_75 (fun v9 T10 h => ?_)
    exact r_iret C M dX9_number_78 h
  rw [if_neg hs8] at h
  by_cases hs11 : p1 = 4
  · rw [if_pos hs11] at h
    refine r_top hs11 ?_
    refine r_tabIn (off := 78) (tgt := 79) C dX9_number_1 (by decide) (by decide) (by decide) (by decide) ?_
    refine r_aload_n C dX9_number_79 rfl 0 rfl ?_
    refine r_callVI C M h [] [] mlX9_186 mcX9_bytesOfMacros (fun q9 e9 => s_X9_bytesOfMacros   e9) kq_23 rfl (by decide) (by decide) rfl rfl (Nat.le_of_ble_eq_true rfl) dX9_number_80 (fun v12 T13 h => ?_)
    exact r_iret C M dX9_number_83 h
  rw [if_neg hs11] at h
  by_cases hs14 : p1 = 5
  · rw [if_pos hs14] at h
    refine r_top hs14 ?_
    refine r_tabIn (off := 83) (tgt := 84) C dX9_number_1 (by decide) (by decide) (by decide) (by decide) ?_
    refine r_aload_n C dX9_number_84 rfl 0 rfl ?_
    refine r_geti (f := 916) C flX9_86 dX9_number_85 kq_23 (by decide) (by decide) rfl ?_
    exact r_iret C M dX9_number_88 h
  rw [if_neg hs14] at h
  by_cases hs15 : p1 = 6
  · rw [if_pos hs15] at h
    refine r_top hs15 ?_
    refine r_tabIn (off := 88) (tgt := 89) C dX9_number_1 (by decide) (by decide) (by decide) (by decide) ?_
    refine r_aload_n C dX9_number_89 rfl 0 rfl ?_
    refine r_getp (f := 901) (j := 24) C flX9_12 dX9_number_90 kq_23 (by decide) rfl (fun W => pt_901 kq_23 W) ?_
    refine r_geti (f := 3) C flX9_189 dX9_number_93 kq_24 (by decide) (by decide) rfl ?_
    exact r_iret C M dX9_number_96 h
  rw [if_neg hs15] at h
  refine r_tabOut (tgt := 97) C dX9_number_1 (by have t09 : (p1).toInt ≠ 0 := ne_toInt hs1 (by decide); have t19 : (p1).toInt ≠ 1 := ne_toInt hs4 (by decide); have t29 : (p1).toInt ≠ 2 := ne_toInt hs5 (by decide); have t39 : (p1).toInt ≠ 3 := ne_toInt hs8 (by decide); have t49 : (p1).toInt ≠ 4 := ne_toInt hs11 (by decide); have t59 : (p1).toInt ≠ 5 := ne_toInt hs14 (by decide); have t69 : (p1).toInt ≠ 6 := ne_toInt hs15 (by decide); omega) (by decide) ?_
  refine r_iconst (v := (-1)) C dX9_number_97 (by decide) ?_
  exact r_iret C M dX9_number_98 h
theorem dX11_held_0 : decode cX11_held 0 = .ok (.aload_n 0, 1) := by decide +kernel
theorem dX11_held_1 : decode cX11_held 1 = .ok (.getfield 42, 3) := by decide +kernel
theorem dX11_held_4 : decode cX11_held 4 = .ok (.iload_n 1, 1) := by decide +kernel
theorem dX11_held_5 : decode cX11_held 5 = .ok (.invokevirtual 142, 3) := by decide +kernel
theorem dX11_held_8 : decode cX11_held 8 = .ok (.ireturn, 1) := by decide +kernel
noncomputable def f_X11_held (p1 : Int32) (T : Mm) : Option (Int32 × Mm) :=
  bd (f_X9_number p1 T) fun v1 T2 =>
  some (v1, T2)
set_option maxRecDepth 100000 in
set_option maxHeartbeats 4000000 in
theorem s_X11_held {ad : Nat → Nat} {U T : Mm} {q : Int32 × Mm}  (p1 : Int32) (h : f_X11_held p1 T = some q) : Cr 4 yX11_held cX11_held 2 (some .int) [.ref (ad 0), .int p1] ad true U T eI q := by
  refine cr_of (by decide) (Nat.le_of_ble_eq_true rfl) fun x S0 hn9 C M => ?_
  have C : CB x RX11 cX11_held := C
  refine Jr.eq (lv' := [(0, .ref (ad 0)), (1, .int p1)]) (st' := []) rfl rfl ?_
  unfold f_X11_held at h
  refine r_aload_n C dX11_held_0 rfl 0 rfl ?_
  refine r_getp (f := 1107) (j := 23) C flX11_42 dX11_held_1 kq_0 (by decide) rfl (fun W => pt_1107 kq_0 W) ?_
  refine r_iload_n C dX11_held_4 rfl 1 rfl ?_
  refine r_callVI C M h [.int p1] [] mlX11_142 mcX9_number (fun q9 e9 => s_X9_number p1  e9) kq_23 rfl (by decide) (by decide) rfl rfl (Nat.le_of_ble_eq_true rfl) dX11_held_5 (fun v1 T2 h => ?_)
  exact r_iret C M dX11_held_8 h
theorem dX9_dropAll_0 : decode cX9_dropAll 0 = .ok (.aload_n 0, 1) := by decide +kernel
theorem dX9_dropAll_1 : decode cX9_dropAll 1 = .ok (.getfield 21, 3) := by decide +kernel
theorem dX9_dropAll_4 : decode cX9_dropAll 4 = .ok (.getfield 176, 3) := by decide +kernel
theorem dX9_dropAll_7 : decode cX9_dropAll 7 = .ok (.invokevirtual 179, 3) := by decide +kernel
theorem dX9_dropAll_10 : decode cX9_dropAll 10 = .ok (.aload_n 0, 1) := by decide +kernel
theorem dX9_dropAll_11 : decode cX9_dropAll 11 = .ok (.getfield 28, 3) := by decide +kernel
theorem dX9_dropAll_14 : decode cX9_dropAll 14 = .ok (.invokevirtual 179, 3) := by decide +kernel
theorem dX9_dropAll_17 : decode cX9_dropAll 17 = .ok (.iadd, 1) := by decide +kernel
theorem dX9_dropAll_18 : decode cX9_dropAll 18 = .ok (.aload_n 0, 1) := by decide +kernel
theorem dX9_dropAll_19 : decode cX9_dropAll 19 = .ok (.getfield 43, 3) := by decide +kernel
theorem dX9_dropAll_22 : decode cX9_dropAll 22 = .ok (.invokevirtual 179, 3) := by decide +kernel
theorem dX9_dropAll_25 : decode cX9_dropAll 25 = .ok (.iadd, 1) := by decide +kernel
theorem dX9_dropAll_26 : decode cX9_dropAll 26 = .ok (.istore_n 1, 1) := by decide +kernel
theorem dX9_dropAll_27 : decode cX9_dropAll 27 = .ok (.aload_n 0, 1) := by decide +kernel
theorem dX9_dropAll_28 : decode cX9_dropAll 28 = .ok (.getfield 21, 3) := by decide +kernel
theorem dX9_dropAll_31 : decode cX9_dropAll 31 = .ok (.iconst 0, 1) := by decide +kernel
theorem dX9_dropAll_32 : decode cX9_dropAll 32 = .ok (.invokevirtual 196, 3) := by decide +kernel
theorem dX9_dropAll_35 : decode cX9_dropAll 35 = .ok (.aload_n 0, 1) := by decide +kernel
theorem dX9_dropAll_36 : decode cX9_dropAll 36 = .ok (.getfield 28, 3) := by decide +kernel
theorem dX9_dropAll_39 : decode cX9_dropAll 39 = .ok (.iconst 0, 1) := by decide +kernel
theorem dX9_dropAll_40 : decode cX9_dropAll 40 = .ok (.invokevirtual 200, 3) := by decide +kernel
theorem dX9_dropAll_43 : decode cX9_dropAll 43 = .ok (.aload_n 0, 1) := by decide +kernel
theorem dX9_dropAll_44 : decode cX9_dropAll 44 = .ok (.getfield 43, 3) := by decide +kernel
theorem dX9_dropAll_47 : decode cX9_dropAll 47 = .ok (.iconst 0, 1) := by decide +kernel
theorem dX9_dropAll_48 : decode cX9_dropAll 48 = .ok (.invokevirtual 200, 3) := by decide +kernel
theorem dX9_dropAll_51 : decode cX9_dropAll 51 = .ok (.iload_n 1, 1) := by decide +kernel
theorem dX9_dropAll_52 : decode cX9_dropAll 52 = .ok (.ireturn, 1) := by decide +kernel
noncomputable def f_X9_dropAll (T : Mm) : Option (Int32 × Mm) :=
  bd (f_X8_count 28 T) fun v1 T2 =>
  bd (f_X8_count 36 T2) fun v3 T4 =>
  bd (f_X8_count 41 T4) fun v5 T6 =>
  lb (((v1 + v3) + v5)) fun v7 =>
  bd (f_X2_removeMany 0 T6) fun _ T8 =>
  bd (f_X8_removeMany 36 0 T8) fun _ T9 =>
  bd (f_X8_removeMany 41 0 T9) fun _ T10 =>
  some (v7, T10)
set_option maxRecDepth 100000 in
set_option maxHeartbeats 4000000 in
theorem s_X9_dropAll {ad : Nat → Nat} {U T : Mm} {q : Int32 × Mm}  (h : f_X9_dropAll  T = some q) : Cr 4 yX9_dropAll cX9_dropAll 2 (some .int) [.ref (ad 23)] ad true U T eI q := by
  refine cr_of (by decide) (Nat.le_of_ble_eq_true rfl) fun x S0 hn9 C M => ?_
  have C : CB x RX9 cX9_dropAll := C
  refine Jr.eq (lv' := [(0, .ref (ad 23))]) (st' := []) rfl rfl ?_
  unfold f_X9_dropAll at h
  refine r_aload_n C dX9_dropAll_0 rfl 0 rfl ?_
  refine r_getp (f := 902) (j := 27) C flX9_21 dX9_dropAll_1 kq_23 (by decide) rfl (fun W => pt_902 kq_23 W) ?_
  refine r_getp (f := 200) (j := 28) C flX9_176 dX9_dropAll_4 kq_27 (by decide) rfl (fun W => pt_200 kq_27 W) ?_
  refine r_callVI C M h [] [] mlX9_179 mcX8_count (fun q9 e9 => s_X8_count 28 kq_28 e9) kq_28 rfl (by decide) (by decide) rfl rfl (Nat.le_of_ble_eq_true rfl) dX9_dropAll_7 (fun v1 T2 h => ?_)
  refine r_aload_n C dX9_dropAll_10 rfl 0 rfl ?_
  show Jr _ _ _ _ _ _ 11 _
  refine r_getp (f := 903) (j := 36) C flX9_28 dX9_dropAll_11 kq_23 (by decide) rfl (fun W => pt_903 kq_23 W) ?_
  refine r_callVI C M h [] [.int v1] mlX9_179 mcX8_count (fun q9 e9 => s_X8_count 36 kq_36 e9) kq_36 rfl (by decide) (by decide) rfl rfl (Nat.le_of_ble_eq_true rfl) dX9_dropAll_14 (fun v3 T4 h => ?_)
  refine r_iadd C dX9_dropAll_17 rfl ?_
  refine r_aload_n C dX9_dropAll_18 rfl 0 rfl ?_
  refine r_getp (f := 906) (j := 41) C flX9_43 dX9_dropAll_19 kq_23 (by decide) rfl (fun W => pt_906 kq_23 W) ?_
  refine r_callVI C M h [] [.int (v1 + v3)] mlX9_179 mcX8_count (fun q9 e9 => s_X8_count 41 kq_41 e9) kq_41 rfl (by decide) (by decide) rfl rfl (Nat.le_of_ble_eq_true rfl) dX9_dropAll_22 (fun v5 T6 h => ?_)
  show Jr _ _ _ _ _ _ 25 _
  refine r_iadd C dX9_dropAll_25 rfl ?_
  refine r_lbI h (fun v7 h => ?_)
  refine r_istore_n (lv' := [(1, .int v7), (0, .ref (ad 23))]) C dX9_dropAll_26 rfl (by rw [hn9]; decide) rfl ?_
  refine r_aload_n C dX9_dropAll_27 rfl 1 rfl ?_
  refine r_getp (f := 902) (j := 27) C flX9_21 dX9_dropAll_28 kq_23 (by decide) rfl (fun W => pt_902 kq_23 W) ?_
  refine r_iconst (v := 0) C dX9_dropAll_31 (by decide) ?_
  refine r_callVN C M h [.int 0] [] mlX9_196 mcX2_removeMany (fun q9 e9 => s_X2_removeMany 0  e9) kq_27 rfl (by decide) (by decide) rfl rfl (Nat.le_of_ble_eq_true rfl) dX9_dropAll_32 (fun _ T8 h => ?_)
  show Jr _ _ _ _ _ _ 35 _
  refine r_aload_n C dX9_dropAll_35 rfl 1 rfl ?_
  refine r_getp (f := 903) (j := 36) C flX9_28 dX9_dropAll_36 kq_23 (by decide) rfl (fun W => pt_903 kq_23 W) ?_
  refine r_iconst (v := 0) C dX9_dropAll_39 (by decide) ?_
  refine r_callVN C M h [.int 0] [] mlX9_200 mcX8_removeMany (fun q9 e9 => s_X8_removeMany 36 0 kq_36 e9) kq_36 rfl (by decide) (by decide) rfl rfl (Nat.le_of_ble_eq_true rfl) dX9_dropAll_40 (fun _ T9 h => ?_)
  refine r_aload_n C dX9_dropAll_43 rfl 1 rfl ?_
  refine r_getp (f := 906) (j := 41) C flX9_43 dX9_dropAll_44 kq_23 (by decide) rfl (fun W => pt_906 kq_23 W) ?_
  show Jr _ _ _ _ _ _ 47 _
  refine r_iconst (v := 0) C dX9_dropAll_47 (by decide) ?_
  refine r_callVN C M h [.int 0] [] mlX9_200 mcX8_removeMany (fun q9 e9 => s_X8_removeMany 41 0 kq_41 e9) kq_41 rfl (by decide) (by decide) rfl rfl (Nat.le_of_ble_eq_true rfl) dX9_dropAll_48 (fun _ T10 h => ?_)
  refine r_iload_n C dX9_dropAll_51 rfl 0 rfl ?_
  exact r_iret C M dX9_dropAll_52 h
theorem dX11_off_0 : decode cX11_off 0 = .ok (.aload_n 0, 1) := by decide +kernel
theorem dX11_off_1 : decode cX11_off 1 = .ok (.getfield 42, 3) := by decide +kernel
theorem dX11_off_4 : decode cX11_off 4 = .ok (.invokevirtual 145, 3) := by decide +kernel
theorem dX11_off_7 : decode cX11_off 7 = .ok (.ireturn, 1) := by decide +kernel
noncomputable def f_X11_off (T : Mm) : Option (Int32 × Mm) :=
  bd (f_X9_dropAll T) fun v1 T2 =>
  some (v1, T2)
set_option maxRecDepth 100000 in
set_option maxHeartbeats 4000000 in
theorem s_X11_off {ad : Nat → Nat} {U T : Mm} {q : Int32 × Mm}  (h : f_X11_off  T = some q) : Cr 5 yX11_off cX11_off 1 (some .int) [.ref (ad 0)] ad true U T eI q := by
  refine cr_of (by decide) (Nat.le_of_ble_eq_true rfl) fun x S0 hn9 C M => ?_
  have C : CB x RX11 cX11_off := C
  refine Jr.eq (lv' := [(0, .ref (ad 0))]) (st' := []) rfl rfl ?_
  unfold f_X11_off at h
  refine r_aload_n C dX11_off_0 rfl 0 rfl ?_
  refine r_getp (f := 1107) (j := 23) C flX11_42 dX11_off_1 kq_0 (by decide) rfl (fun W => pt_1107 kq_0 W) ?_
  refine r_callVI C M h [] [] mlX11_145 mcX9_dropAll (fun q9 e9 => s_X9_dropAll   e9) kq_23 rfl (by decide) (by decide) rfl rfl (Nat.le_of_ble_eq_true rfl) dX11_off_4 (fun v1 T2 h => ?_)
  exact r_iret C M dX11_off_7 h
