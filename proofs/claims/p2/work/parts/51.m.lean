theorem dX12_wish_0 : decode cX12_wish 0 = .ok (.aload_n 0, 1) := by decide +kernel
theorem dX12_wish_1 : decode cX12_wish 1 = .ok (.getfield 9, 3) := by decide +kernel
theorem dX12_wish_4 : decode cX12_wish 4 = .ok (.bipush 12, 2) := by decide +kernel
theorem dX12_wish_6 : decode cX12_wish 6 = .ok (.bipush 8, 2) := by decide +kernel
theorem dX12_wish_8 : decode cX12_wish 8 = .ok (.aload_n 0, 1) := by decide +kernel
theorem dX12_wish_9 : decode cX12_wish 9 = .ok (.getfield 9, 3) := by decide +kernel
theorem dX12_wish_12 : decode cX12_wish 12 = .ok (.bipush 28, 2) := by decide +kernel
theorem dX12_wish_14 : decode cX12_wish 14 = .ok (.iaload, 1) := by decide +kernel
theorem dX12_wish_15 : decode cX12_wish 15 = .ok (.imul, 1) := by decide +kernel
theorem dX12_wish_16 : decode cX12_wish 16 = .ok (.iadd, 1) := by decide +kernel
theorem dX12_wish_17 : decode cX12_wish 17 = .ok (.iload_n 1, 1) := by decide +kernel
theorem dX12_wish_18 : decode cX12_wish 18 = .ok (.iadd, 1) := by decide +kernel
theorem dX12_wish_19 : decode cX12_wish 19 = .ok (.iaload, 1) := by decide +kernel
theorem dX12_wish_20 : decode cX12_wish 20 = .ok (.ireturn, 1) := by decide +kernel
noncomputable def f_X12_wish (p1 : Int32) (T : Mm) : Option (Int32 × Mm) :=
  ix (((12 : Int32) + ((8 : Int32) * (gA T 134 28))) + p1) 192 fun j1 =>
  some ((gA T 134 j1), T)
set_option maxRecDepth 100000 in
set_option maxHeartbeats 4000000 in
theorem s_X12_wish {ad : Nat → Nat} {U T : Mm} {q : Int32 × Mm}  (p1 : Int32) (h : f_X12_wish p1 T = some q) : Cr 1 yX12_wish cX12_wish 2 (some .int) [.ref (ad 133), .int p1] ad false U T eI q := by
  refine cr_of (by decide) (Nat.le_of_ble_eq_true rfl) fun x S0 hn9 C M => ?_
  have C : CB x RX12 cX12_wish := C
  refine Jr.eq (lv' := [(0, .ref (ad 133)), (1, .int p1)]) (st' := []) rfl rfl ?_
  unfold f_X12_wish at h
  refine r_aload_n C dX12_wish_0 rfl 0 rfl ?_
  refine r_getp (f := 1200) (j := 134) C flX12_9 dX12_wish_1 kq_133 (by decide) rfl (fun W => pt_1200 kq_133 W) ?_
  refine r_bipush (v := 12) C dX12_wish_4 (by decide) ?_
  refine r_bipush (v := 8) C dX12_wish_6 (by decide) ?_
  refine r_aload_n C dX12_wish_8 rfl 0 rfl ?_
  show Jr _ _ _ _ _ _ 9 _
  refine r_getp (f := 1200) (j := 134) C flX12_9 dX12_wish_9 kq_133 (by decide) rfl (fun W => pt_1200 kq_133 W) ?_
  refine r_bipush (v := 28) C dX12_wish_12 (by decide) ?_
  refine r_ialdc (n := 192) C 28 dX12_wish_14 kq_134 lq_134 (vp_lit (by decide)) (by decide) ?_
  refine r_imul C dX12_wish_15 rfl ?_
  refine r_iadd C dX12_wish_16 rfl ?_
  refine r_iload_n C dX12_wish_17 rfl 1 rfl ?_
  show Jr _ _ _ _ _ _ 18 _
  refine r_iadd C dX12_wish_18 rfl ?_
  refine r_iald (n := 192) C dX12_wish_19 kq_134 lq_134 h (fun j1 hj2 h => ?_)
  exact r_iret C M dX12_wish_20 h
theorem dX12_keep_0 : decode cX12_keep 0 = .ok (.iconst 0, 1) := by decide +kernel
theorem dX12_keep_1 : decode cX12_keep 1 = .ok (.istore_n 3, 1) := by decide +kernel
theorem dX12_keep_2 : decode cX12_keep 2 = .ok (.iconst 0, 1) := by decide +kernel
theorem dX12_keep_3 : decode cX12_keep 3 = .ok (.istore 4, 2) := by decide +kernel
theorem dX12_keep_5 : decode cX12_keep 5 = .ok (.iload 4, 2) := by decide +kernel
theorem dX12_keep_7 : decode cX12_keep 7 = .ok (.bipush 17, 2) := by decide +kernel
theorem dX12_keep_9 : decode cX12_keep 9 = .ok (.if_icmp .ge 45, 3) := by decide +kernel
theorem dX12_keep_12 : decode cX12_keep 12 = .ok (.iload_n 3, 1) := by decide +kernel
theorem dX12_keep_13 : decode cX12_keep 13 = .ok (.ifCond .ne 29, 3) := by decide +kernel
theorem dX12_keep_16 : decode cX12_keep 16 = .ok (.aload_n 0, 1) := by decide +kernel
theorem dX12_keep_17 : decode cX12_keep 17 = .ok (.getfield 105, 3) := by decide +kernel
theorem dX12_keep_20 : decode cX12_keep 20 = .ok (.iload 4, 2) := by decide +kernel
theorem dX12_keep_22 : decode cX12_keep 22 = .ok (.baload, 1) := by decide +kernel
theorem dX12_keep_23 : decode cX12_keep 23 = .ok (.ifCond .eq 23, 3) := by decide +kernel
theorem dX12_keep_26 : decode cX12_keep 26 = .ok (.aload_n 0, 1) := by decide +kernel
theorem dX12_keep_27 : decode cX12_keep 27 = .ok (.getfield 23, 3) := by decide +kernel
theorem dX12_keep_30 : decode cX12_keep 30 = .ok (.bipush 7, 2) := by decide +kernel
theorem dX12_keep_32 : decode cX12_keep 32 = .ok (.iload 4, 2) := by decide +kernel
theorem dX12_keep_34 : decode cX12_keep 34 = .ok (.imul, 1) := by decide +kernel
theorem dX12_keep_35 : decode cX12_keep 35 = .ok (.iload_n 1, 1) := by decide +kernel
theorem dX12_keep_36 : decode cX12_keep 36 = .ok (.iadd, 1) := by decide +kernel
theorem dX12_keep_37 : decode cX12_keep 37 = .ok (.iaload, 1) := by decide +kernel
theorem dX12_keep_38 : decode cX12_keep 38 = .ok (.iload_n 2, 1) := by decide +kernel
theorem dX12_keep_39 : decode cX12_keep 39 = .ok (.if_icmp .ne 7, 3) := by decide +kernel
theorem dX12_keep_42 : decode cX12_keep 42 = .ok (.iconst 1, 1) := by decide +kernel
theorem dX12_keep_43 : decode cX12_keep 43 = .ok (.goto 4, 3) := by decide +kernel
theorem dX12_keep_46 : decode cX12_keep 46 = .ok (.iconst 0, 1) := by decide +kernel
theorem dX12_keep_47 : decode cX12_keep 47 = .ok (.istore_n 3, 1) := by decide +kernel
theorem dX12_keep_48 : decode cX12_keep 48 = .ok (.iinc 4 1, 3) := by decide +kernel
theorem dX12_keep_51 : decode cX12_keep 51 = .ok (.goto (-46), 3) := by decide +kernel
theorem dX12_keep_54 : decode cX12_keep 54 = .ok (.iconst 0, 1) := by decide +kernel
theorem dX12_keep_55 : decode cX12_keep 55 = .ok (.istore 4, 2) := by decide +kernel
theorem dX12_keep_57 : decode cX12_keep 57 = .ok (.iload 4, 2) := by decide +kernel
theorem dX12_keep_59 : decode cX12_keep 59 = .ok (.bipush 17, 2) := by decide +kernel
theorem dX12_keep_61 : decode cX12_keep 61 = .ok (.if_icmp .ge 51, 3) := by decide +kernel
theorem dX12_keep_64 : decode cX12_keep 64 = .ok (.iload_n 3, 1) := by decide +kernel
theorem dX12_keep_65 : decode cX12_keep 65 = .ok (.ifCond .eq 47, 3) := by decide +kernel
theorem dX12_keep_68 : decode cX12_keep 68 = .ok (.aload_n 0, 1) := by decide +kernel
theorem dX12_keep_69 : decode cX12_keep 69 = .ok (.getfield 105, 3) := by decide +kernel
theorem dX12_keep_72 : decode cX12_keep 72 = .ok (.iload 4, 2) := by decide +kernel
theorem dX12_keep_74 : decode cX12_keep 74 = .ok (.aload_n 0, 1) := by decide +kernel
theorem dX12_keep_75 : decode cX12_keep 75 = .ok (.getfield 105, 3) := by decide +kernel
theorem dX12_keep_78 : decode cX12_keep 78 = .ok (.iload 4, 2) := by decide +kernel
theorem dX12_keep_80 : decode cX12_keep 80 = .ok (.baload, 1) := by decide +kernel
theorem dX12_keep_81 : decode cX12_keep 81 = .ok (.ifCond .eq 23, 3) := by decide +kernel
theorem dX12_keep_84 : decode cX12_keep 84 = .ok (.aload_n 0, 1) := by decide +kernel
theorem dX12_keep_85 : decode cX12_keep 85 = .ok (.getfield 23, 3) := by decide +kernel
theorem dX12_keep_88 : decode cX12_keep 88 = .ok (.bipush 7, 2) := by decide +kernel
theorem dX12_keep_90 : decode cX12_keep 90 = .ok (.iload 4, 2) := by decide +kernel
theorem dX12_keep_92 : decode cX12_keep 92 = .ok (.imul, 1) := by decide +kernel
theorem dX12_keep_93 : decode cX12_keep 93 = .ok (.iload_n 1, 1) := by decide +kernel
theorem dX12_keep_94 : decode cX12_keep 94 = .ok (.iadd, 1) := by decide +kernel
theorem dX12_keep_95 : decode cX12_keep 95 = .ok (.iaload, 1) := by decide +kernel
theorem dX12_keep_96 : decode cX12_keep 96 = .ok (.iload_n 2, 1) := by decide +kernel
theorem dX12_keep_97 : decode cX12_keep 97 = .ok (.if_icmp .ne 7, 3) := by decide +kernel
theorem dX12_keep_100 : decode cX12_keep 100 = .ok (.iconst 1, 1) := by decide +kernel
theorem dX12_keep_101 : decode cX12_keep 101 = .ok (.goto 4, 3) := by decide +kernel
theorem dX12_keep_104 : decode cX12_keep 104 = .ok (.iconst 0, 1) := by decide +kernel
theorem dX12_keep_105 : decode cX12_keep 105 = .ok (.bastore, 1) := by decide +kernel
theorem dX12_keep_106 : decode cX12_keep 106 = .ok (.iinc 4 1, 3) := by decide +kernel
theorem dX12_keep_109 : decode cX12_keep 109 = .ok (.goto (-52), 3) := by decide +kernel
theorem dX12_keep_112 : decode cX12_keep 112 = .ok (.return_, 1) := by decide +kernel
noncomputable def f_X12_keep_b57 (k57 : Int32 → Int32 → Int32 → Int32 → Mm → Option (Unit × Mm)) (a1 : Int32) (a2 : Int32) (a3 : Int32) (a4 : Int32) (T : Mm) : Option (Unit × Mm) :=
  if 17 ≤ a4 then (some ((), T))
  else (if a3 = 0 then (some ((), T))
  else (ix a4 17 fun j1 =>
  if (gA T 164 j1) = 0 then (ix a4 17 fun j3 => lb (uA T 164 j3 (0)) fun T5 =>
  k57 a1 a2 a3 (a4 + 1) T5)
  else (ix (((7 : Int32) * a4) + a1) 119 fun j6 =>
  if (gA T 138 j6) = a2 then (ix a4 17 fun j11 => lb (uA T 164 j11 (1)) fun T13 =>
  k57 a1 a2 a3 (a4 + 1) T13)
  else (ix a4 17 fun j8 => lb (uA T 164 j8 (0)) fun T10 =>
  k57 a1 a2 a3 (a4 + 1) T10))))
set_option maxRecDepth 100000 in
set_option maxHeartbeats 4000000 in
theorem s_X12_keep_b57 {x : JX} {ad : Nat → Nat} {U : Mm} {S0 : Hp} {q : Unit × Mm}  {k57 : Int32 → Int32 → Int32 → Int32 → Mm → Option (Unit × Mm)} (hn9 : x_n x = 5) (C : CB x RX12 cX12_keep) (M : CMr x 1 none S0 ad false U eV q) (hk57 : ∀ (a1 : Int32) (a2 : Int32) (a3 : Int32) (a4 : Int32) (T : Mm), k57 a1 a2 a3 a4 T = some q → Jr x ad false U T [(0, .ref (ad 133)), (1, .int a1), (2, .int a2), (3, .int a3), (4, .int a4)] 57 []) (a1 : Int32) (a2 : Int32) (a3 : Int32) (a4 : Int32) (T : Mm) (h : f_X12_keep_b57 k57 a1 a2 a3 a4 T = some q) : Jr x ad false U T [(0, .ref (ad 133)), (1, .int a1), (2, .int a2), (3, .int a3), (4, .int a4)] 57 [] := by
  unfold f_X12_keep_b57 at h
  refine r_iload C dX12_keep_57 4 rfl ?_
  refine r_bipush (v := 17) C dX12_keep_59 (by decide) ?_
  refine r_ic_ge (tgt := 112) C dX12_keep_61 (by decide) h (fun h => ?_) (fun h => ?_)
  · exact r_vret C M dX12_keep_112 h
  · refine r_iload_n C dX12_keep_64 rfl 3 rfl ?_
    refine r_if_eq (tgt := 112) C dX12_keep_65 (by decide) h (fun h => ?_) (fun h => ?_)
    · exact r_vret C M dX12_keep_112 h
    · refine r_aload_n C dX12_keep_68 rfl 0 rfl ?_
      refine r_getp (f := 1250) (j := 164) C flX12_105 dX12_keep_69 kq_133 (by decide) rfl (fun W => pt_1250 kq_133 W) ?_
      refine r_iload C dX12_keep_72 4 rfl ?_
      refine r_aload_n C dX12_keep_74 rfl 0 rfl ?_
      refine r_getp (f := 1250) (j := 164) C flX12_105 dX12_keep_75 kq_133 (by decide) rfl (fun W => pt_1250 kq_133 W) ?_
      show Jr _ _ _ _ _ _ 78 _
      refine r_iload C dX12_keep_78 4 rfl ?_
      refine r_zald (n := 17) C dX12_keep_80 kq_164 lq_164 h (fun j1 hj2 h => ?_)
      refine r_if_eq (tgt := 104) C dX12_keep_81 (by decide) h (fun h => ?_) (fun h => ?_)
      · refine r_iconst (v := 0) C dX12_keep_104 (by decide) ?_
        refine r_zast (n := 17) C dX12_keep_105 kq_164 lq_164 (by decide) h (fun j3 T5 hj4 h => ?_)
        refine r_iinc (q := 4) (v := (a4 + 1)) (lv' := [(4, .int (a4 + 1)), (0, .ref (ad 133)), (1, .int a1), (2, .int a2), (3, .int a3)]) C dX12_keep_106 rfl (by rw [show Int32.ofInt (1) = 1 by decide]) (by rw [hn9]; decide) rfl ?_
        refine r_goto (tgt := 57) C dX12_keep_109 (by decide) ?_
        refine Jr.sub [1, 2, 3, 4, 0] (lv' := [(0, .ref (ad 133)), (1, .int a1), (2, .int a2), (3, .int a3), (4, .int (a4 + 1))]) rfl ?_
        exact hk57 a1 a2 a3 (a4 + 1) T5 h
      · refine r_aload_n C dX12_keep_84 rfl 0 rfl ?_
        refine r_getp (f := 1204) (j := 138) C flX12_23 dX12_keep_85 kq_133 (by decide) rfl (fun W => pt_1204 kq_133 W) ?_
        refine r_bipush (v := 7) C dX12_keep_88 (by decide) ?_
        refine r_iload C dX12_keep_90 4 rfl ?_
        refine r_imul C dX12_keep_92 rfl ?_
        show Jr _ _ _ _ _ _ 93 _
        refine r_iload_n C dX12_keep_93 rfl 1 rfl ?_
        refine r_iadd C dX12_keep_94 rfl ?_
        refine r_iald (n := 119) C dX12_keep_95 kq_138 lq_138 h (fun j6 hj7 h => ?_)
        refine r_iload_n C dX12_keep_96 rfl 2 rfl ?_
        refine r_ic_ne (tgt := 104) C dX12_keep_97 (by decide) h (fun h => ?_) (fun h => ?_)
        · refine r_iconst (v := 0) C dX12_keep_104 (by decide) ?_
          refine r_zast (n := 17) C dX12_keep_105 kq_164 lq_164 (by decide) h (fun j8 T10 hj9 h => ?_)
          refine r_iinc (q := 4) (v := (a4 + 1)) (lv' := [(4, .int (a4 + 1)), (0, .ref (ad 133)), (1, .int a1), (2, .int a2), (3, .int a3)]) C dX12_keep_106 rfl (by rw [show Int32.ofInt (1) = 1 by decide]) (by rw [hn9]; decide) rfl ?_
          refine r_goto (tgt := 57) C dX12_keep_109 (by decide) ?_
          refine Jr.sub [1, 2, 3, 4, 0] (lv' := [(0, .ref (ad 133)), (1, .int a1), (2, .int a2), (3, .int a3), (4, .int (a4 + 1))]) rfl ?_
          exact hk57 a1 a2 a3 (a4 + 1) T10 h
        · refine r_iconst (v := 1) C dX12_keep_100 (by decide) ?_
          refine r_goto (tgt := 105) C dX12_keep_101 (by decide) ?_
          refine r_zast (n := 17) C dX12_keep_105 kq_164 lq_164 (by decide) h (fun j11 T13 hj12 h => ?_)
          refine r_iinc (q := 4) (v := (a4 + 1)) (lv' := [(4, .int (a4 + 1)), (0, .ref (ad 133)), (1, .int a1), (2, .int a2), (3, .int a3)]) C dX12_keep_106 rfl (by rw [show Int32.ofInt (1) = 1 by decide]) (by rw [hn9]; decide) rfl ?_
          refine r_goto (tgt := 57) C dX12_keep_109 (by decide) ?_
          refine Jr.sub [1, 2, 3, 4, 0] (lv' := [(0, .ref (ad 133)), (1, .int a1), (2, .int a2), (3, .int a3), (4, .int (a4 + 1))]) rfl ?_
          exact hk57 a1 a2 a3 (a4 + 1) T13 h
noncomputable def f_X12_keep_l57 (n : Nat) : Int32 → Int32 → Int32 → Int32 → Mm → Option (Unit × Mm) := Nat.rec (fun _ _ _ _ _ => none) (fun _ ih => f_X12_keep_b57 ih) n
theorem s_X12_keep_l57 {x : JX} {ad : Nat → Nat} {U : Mm} {S0 : Hp} {q : Unit × Mm}  (hn9 : x_n x = 5) (C : CB x RX12 cX12_keep) (M : CMr x 1 none S0 ad false U eV q) : ∀ (n : Nat), ∀ (a1 : Int32) (a2 : Int32) (a3 : Int32) (a4 : Int32) (T : Mm), f_X12_keep_l57  n a1 a2 a3 a4 T = some q → Jr x ad false U T [(0, .ref (ad 133)), (1, .int a1), (2, .int a2), (3, .int a3), (4, .int a4)] 57 [] := by
  intro n
  induction n with
  | zero => intro a1 a2 a3 a4 T  h; exact absurd h (by intro h; cases h)
  | succ n ih => exact fun a1 a2 a3 a4 T  h => s_X12_keep_b57 hn9 C M (ih) a1 a2 a3 a4 T  h
noncomputable def f_X12_keep_b5 (k5 : Int32 → Int32 → Int32 → Int32 → Mm → Option (Unit × Mm)) (a1 : Int32) (a2 : Int32) (a3 : Int32) (a4 : Int32) (T : Mm) : Option (Unit × Mm) :=
  if 17 ≤ a4 then (f_X12_keep_l57 FU a1 a2 a3 0 T)
  else (if a3 = 0 then (ix a4 17 fun j1 =>
  if (gA T 164 j1) = 0 then (k5 a1 a2 0 (a4 + 1) T)
  else (ix (((7 : Int32) * a4) + a1) 119 fun j3 =>
  if (gA T 138 j3) = a2 then (k5 a1 a2 1 (a4 + 1) T)
  else (k5 a1 a2 0 (a4 + 1) T)))
  else (k5 a1 a2 1 (a4 + 1) T))
set_option maxRecDepth 100000 in
set_option maxHeartbeats 4000000 in
theorem s_X12_keep_b5 {x : JX} {ad : Nat → Nat} {U : Mm} {S0 : Hp} {q : Unit × Mm}  {k5 : Int32 → Int32 → Int32 → Int32 → Mm → Option (Unit × Mm)} (hn9 : x_n x = 5) (C : CB x RX12 cX12_keep) (M : CMr x 1 none S0 ad false U eV q) (hk5 : ∀ (a1 : Int32) (a2 : Int32) (a3 : Int32) (a4 : Int32) (T : Mm), k5 a1 a2 a3 a4 T = some q → Jr x ad false U T [(0, .ref (ad 133)), (1, .int a1), (2, .int a2), (3, .int a3), (4, .int a4)] 5 []) (a1 : Int32) (a2 : Int32) (a3 : Int32) (a4 : Int32) (T : Mm) (h : f_X12_keep_b5 k5 a1 a2 a3 a4 T = some q) : Jr x ad false U T [(0, .ref (ad 133)), (1, .int a1), (2, .int a2), (3, .int a3), (4, .int a4)] 5 [] := by
  unfold f_X12_keep_b5 at h
  refine r_iload C dX12_keep_5 4 rfl ?_
  refine r_bipush (v := 17) C dX12_keep_7 (by decide) ?_
  refine r_ic_ge (tgt := 54) C dX12_keep_9 (by decide) h (fun h => ?_) (fun h => ?_)
  · refine r_iconst (v := 0) C dX12_keep_54 (by decide) ?_
    refine r_istore (lv' := [(4, .int 0), (0, .ref (ad 133)), (1, .int a1), (2, .int a2), (3, .int a3)]) C dX12_keep_55 (by rw [hn9]; decide) rfl ?_
    refine Jr.sub [1, 2, 3, 4, 0] (lv' := [(0, .ref (ad 133)), (1, .int a1), (2, .int a2), (3, .int a3), (4, .int 0)]) rfl ?_
    exact s_X12_keep_l57 hn9 C M  FU a1 a2 a3 0 T h
  · refine r_iload_n C dX12_keep_12 rfl 3 rfl ?_
    refine r_if_ne (tgt := 42) C dX12_keep_13 (by decide) h (fun h => ?_) (fun h => ?_)
    · refine r_iconst (v := 1) C dX12_keep_42 (by decide) ?_
      refine r_goto (tgt := 47) C dX12_keep_43 (by decide) ?_
      refine r_istore_n (lv' := [(3, .int 1), (0, .ref (ad 133)), (1, .int a1), (2, .int a2), (4, .int a4)]) C dX12_keep_47 rfl (by rw [hn9]; decide) rfl ?_
      refine r_iinc (q := 4) (v := (a4 + 1)) (lv' := [(4, .int (a4 + 1)), (3, .int 1), (0, .ref (ad 133)), (1, .int a1), (2, .int a2)]) C dX12_keep_48 rfl (by rw [show Int32.ofInt (1) = 1 by decide]) (by rw [hn9]; decide) rfl ?_
      refine r_goto (tgt := 5) C dX12_keep_51 (by decide) ?_
      refine Jr.sub [2, 3, 4, 1, 0] (lv' := [(0, .ref (ad 133)), (1, .int a1), (2, .int a2), (3, .int 1), (4, .int (a4 + 1))]) rfl ?_
      exact hk5 a1 a2 1 (a4 + 1) T h
    · refine r_aload_n C dX12_keep_16 rfl 0 rfl ?_
      refine r_getp (f := 1250) (j := 164) C flX12_105 dX12_keep_17 kq_133 (by decide) rfl (fun W => pt_1250 kq_133 W) ?_
      refine r_iload C dX12_keep_20 4 rfl ?_
      refine r_zald (n := 17) C dX12_keep_22 kq_164 lq_164 h (fun j1 hj2 h => ?_)
      refine r_if_eq (tgt := 46) C dX12_keep_23 (by decide) h (fun h => ?_) (fun h => ?_)
      · refine r_iconst (v := 0) C dX12_keep_46 (by decide) ?_
        refine r_istore_n (lv' := [(3, .int 0), (0, .ref (ad 133)), (1, .int a1), (2, .int a2), (4, .int a4)]) C dX12_keep_47 rfl (by rw [hn9]; decide) rfl ?_
        refine r_iinc (q := 4) (v := (a4 + 1)) (lv' := [(4, .int (a4 + 1)), (3, .int 0), (0, .ref (ad 133)), (1, .int a1), (2, .int a2)]) C dX12_keep_48 rfl (by rw [show Int32.ofInt (1) = 1 by decide]) (by rw [hn9]; decide) rfl ?_
        refine r_goto (tgt := 5) C dX12_keep_51 (by decide) ?_
        refine Jr.sub [2, 3, 4, 1, 0] (lv' := [(0, .ref (ad 133)), (1, .int a1), (2, .int a2), (3, .int 0), (4, .int (a4 + 1))]) rfl ?_
        exact hk5 a1 a2 0 (a4 + 1) T h
      · refine r_aload_n C dX12_keep_26 rfl 0 rfl ?_
        refine r_getp (f := 1204) (j := 138) C flX12_23 dX12_keep_27 kq_133 (by decide) rfl (fun W => pt_1204 kq_133 W) ?_
        refine r_bipush (v := 7) C dX12_keep_30 (by decide) ?_
        refine r_iload C dX12_keep_32 4 rfl ?_
        refine r_imul C dX12_keep_34 rfl ?_
        show Jr _ _ _ _ _ _ 35 _
        refine r_iload_n C dX12_keep_35 rfl 1 rfl ?_
        refine r_iadd C dX12_keep_36 rfl ?_
        refine r_iald (n := 119) C dX12_keep_37 kq_138 lq_138 h (fun j3 hj4 h => ?_)
        refine r_iload_n C dX12_keep_38 rfl 2 rfl ?_
        refine r_ic_ne (tgt := 46) C dX12_keep_39 (by decide) h (fun h => ?_) (fun h => ?_)
        · refine r_iconst (v := 0) C dX12_keep_46 (by decide) ?_
          refine r_istore_n (lv' := [(3, .int 0), (0, .ref (ad 133)), (1, .int a1), (2, .int a2), (4, .int a4)]) C dX12_keep_47 rfl (by rw [hn9]; decide) rfl ?_
          refine r_iinc (q := 4) (v := (a4 + 1)) (lv' := [(4, .int (a4 + 1)), (3, .int 0), (0, .ref (ad 133)), (1, .int a1), (2, .int a2)]) C dX12_keep_48 rfl (by rw [show Int32.ofInt (1) = 1 by decide]) (by rw [hn9]; decide) rfl ?_
          refine r_goto (tgt := 5) C dX12_keep_51 (by decide) ?_
          refine Jr.sub [2, 3, 4, 1, 0] (lv' := [(0, .ref (ad 133)), (1, .int a1), (2, .int a2), (3, .int 0), (4, .int (a4 + 1))]) rfl ?_
          exact hk5 a1 a2 0 (a4 + 1) T h
        · refine r_iconst (v := 1) C dX12_keep_42 (by decide) ?_
          refine r_goto (tgt := 47) C dX12_keep_43 (by decide) ?_
          refine r_istore_n (lv' := [(3, .int 1), (0, .ref (ad 133)), (1, .int a1), (2, .int a2), (4, .int a4)]) C dX12_keep_47 rfl (by rw [hn9]; decide) rfl ?_
          refine r_iinc (q := 4) (v := (a4 + 1)) (lv' := [(4, .int (a4 + 1)), (3, .int 1), (0, .ref (ad 133)), (1, .int a1), (2, .int a2)]) C dX12_keep_48 rfl (by rw [show Int32.ofInt (1) = 1 by decide]) (by rw [hn9]; decide) rfl ?_
          refine r_goto (tgt := 5) C dX12_keep_51 (by decide) ?_
          refine Jr.sub [2, 3, 4, 1, 0] (lv' := [(0, .ref (ad 133)), (1, .int a1), (2, .int a2), (3, .int 1), (4, .int (a4 + 1))]) rfl ?_
          exact hk5 a1 a2 1 (a4 + 1) T h
noncomputable def f_X12_keep_l5 (n : Nat) : Int32 → Int32 → Int32 → Int32 → Mm → Option (Unit × Mm) := Nat.rec (fun _ _ _ _ _ => none) (fun _ ih => f_X12_keep_b5 ih) n
theorem s_X12_keep_l5 {x : JX} {ad : Nat → Nat} {U : Mm} {S0 : Hp} {q : Unit × Mm}  (hn9 : x_n x = 5) (C : CB x RX12 cX12_keep) (M : CMr x 1 none S0 ad false U eV q) : ∀ (n : Nat), ∀ (a1 : Int32) (a2 : Int32) (a3 : Int32) (a4 : Int32) (T : Mm), f_X12_keep_l5  n a1 a2 a3 a4 T = some q → Jr x ad false U T [(0, .ref (ad 133)), (1, .int a1), (2, .int a2), (3, .int a3), (4, .int a4)] 5 [] := by
  intro n
  induction n with
  | zero => intro a1 a2 a3 a4 T  h; exact absurd h (by intro h; cases h)
  | succ n ih => exact fun a1 a2 a3 a4 T  h => s_X12_keep_b5 hn9 C M (ih) a1 a2 a3 a4 T  h
noncomputable def f_X12_keep (p1 : Int32) (p2 : Int32) (T : Mm) : Option (Unit × Mm) :=
  f_X12_keep_l5 FU p1 p2 0 0 T
set_option maxRecDepth 100000 in
set_option maxHeartbeats 4000000 in
theorem s_X12_keep {ad : Nat → Nat} {U T : Mm} {q : Unit × Mm}  (p1 : Int32) (p2 : Int32) (h : f_X12_keep p1 p2 T = some q) : Cr 1 yX12_keep cX12_keep 5 none [.ref (ad 133), .int p1, .int p2] ad false U T eV q := by
  refine cr_of (by decide) (Nat.le_of_ble_eq_true rfl) fun x S0 hn9 C M => ?_
  have C : CB x RX12 cX12_keep := C
  refine Jr.eq (lv' := [(0, .ref (ad 133)), (1, .int p1), (2, .int p2)]) (st' := []) rfl rfl ?_
  unfold f_X12_keep at h
  refine r_iconst (v := 0) C dX12_keep_0 (by decide) ?_
  refine r_istore_n (lv' := [(3, .int 0), (0, .ref (ad 133)), (1, .int p1), (2, .int p2)]) C dX12_keep_1 rfl (by rw [hn9]; decide) rfl ?_
  refine r_iconst (v := 0) C dX12_keep_2 (by decide) ?_
  refine r_istore (lv' := [(4, .int 0), (3, .int 0), (0, .ref (ad 133)), (1, .int p1), (2, .int p2)]) C dX12_keep_3 (by rw [hn9]; decide) rfl ?_
  refine Jr.sub [2, 3, 4, 1, 0] (lv' := [(0, .ref (ad 133)), (1, .int p1), (2, .int p2), (3, .int 0), (4, .int 0)]) rfl ?_
  exact s_X12_keep_l5 hn9 C M  FU p1 p2 0 0 T h
theorem dX12_far_0 : decode cX12_far 0 = .ok (.iload_n 0, 1) := by decide +kernel
theorem dX12_far_1 : decode cX12_far 1 = .ok (.i2l, 1) := by decide +kernel
theorem dX12_far_2 : decode cX12_far 2 = .ok (.iload_n 1, 1) := by decide +kernel
theorem dX12_far_3 : decode cX12_far 3 = .ok (.i2l, 1) := by decide +kernel
theorem dX12_far_4 : decode cX12_far 4 = .ok (.lsub, 1) := by decide +kernel
theorem dX12_far_5 : decode cX12_far 5 = .ok (.lstore_n 2, 1) := by decide +kernel
theorem dX12_far_6 : decode cX12_far 6 = .ok (.lload_n 2, 1) := by decide +kernel
theorem dX12_far_7 : decode cX12_far 7 = .ok (.lconst 0, 1) := by decide +kernel
theorem dX12_far_8 : decode cX12_far 8 = .ok (.lcmp, 1) := by decide +kernel
theorem dX12_far_9 : decode cX12_far 9 = .ok (.ifCond .ge 13, 3) := by decide +kernel
theorem dX12_far_12 : decode cX12_far 12 = .ok (.ldc2_w 354, 3) := by decide +kernel
theorem dX12_far_15 : decode cX12_far 15 = .ok (.lload_n 2, 1) := by decide +kernel
theorem dX12_far_16 : decode cX12_far 16 = .ok (.lmul, 1) := by decide +kernel
theorem dX12_far_17 : decode cX12_far 17 = .ok (.lconst 1, 1) := by decide +kernel
theorem dX12_far_18 : decode cX12_far 18 = .ok (.ladd, 1) := by decide +kernel
theorem dX12_far_19 : decode cX12_far 19 = .ok (.goto 8, 3) := by decide +kernel
theorem dX12_far_22 : decode cX12_far 22 = .ok (.ldc2_w 356, 3) := by decide +kernel
theorem dX12_far_25 : decode cX12_far 25 = .ok (.lload_n 2, 1) := by decide +kernel
theorem dX12_far_26 : decode cX12_far 26 = .ok (.lmul, 1) := by decide +kernel
theorem dX12_far_27 : decode cX12_far 27 = .ok (.lreturn, 1) := by decide +kernel
noncomputable def f_X12_far (p0 : Int32) (p1 : Int32) (T : Mm) : Option (Int64 × Mm) :=
  lb ((((p0).toInt64) - ((p1).toInt64))) fun v1 =>
  if 0 ≤ (lg_cmp v1 0) then (some (((2 : Int64) * v1), T))
  else (some ((((-2 : Int64) * v1) + 1), T))
set_option maxRecDepth 100000 in
set_option maxHeartbeats 4000000 in
theorem s_X12_far {ad : Nat → Nat} {U T : Mm} {q : Int64 × Mm}  (p0 : Int32) (p1 : Int32) (h : f_X12_far p0 p1 T = some q) : Cr 1 yX12_far cX12_far 4 (some .long) [.int p0, .int p1] ad false U T eJ q := by
  refine cr_of (by decide) (Nat.le_of_ble_eq_true rfl) fun x S0 hn9 C M => ?_
  have C : CB x RX12 cX12_far := C
  refine Jr.eq (lv' := [(0, .int p0), (1, .int p1)]) (st' := []) rfl rfl ?_
  unfold f_X12_far at h
  refine r_iload_n C dX12_far_0 rfl 0 rfl ?_
  refine r_i2l C dX12_far_1 rfl ?_
  refine r_iload_n C dX12_far_2 rfl 1 rfl ?_
  refine r_i2l C dX12_far_3 rfl ?_
  refine r_lsub C dX12_far_4 rfl ?_
  show Jr _ _ _ _ _ _ 5 _
  refine r_lbJ h (fun v1 h => ?_)
  refine r_lstore_n (lv' := [(2, .long v1), (0, .int p0), (1, .int p1)]) C dX12_far_5 rfl (by rw [hn9]; decide) rfl ?_
  refine r_lload_n C dX12_far_6 rfl 0 rfl ?_
  refine r_lconst (v := 0) C dX12_far_7 (by decide) ?_
  refine r_lcmp C dX12_far_8 ?_
  refine r_if_ge (tgt := 22) C dX12_far_9 (by decide) h (fun h => ?_) (fun h => ?_)
  · refine r_ldc2 (v := 2) C dX12_far_22 kcX12_356 ?_
    refine r_lload_n C dX12_far_25 rfl 0 rfl ?_
    refine r_lmul C dX12_far_26 rfl ?_
    exact r_lret C M dX12_far_27 h
  · refine r_ldc2 (v := (-2)) C dX12_far_12 kcX12_354 ?_
    refine r_lload_n C dX12_far_15 rfl 0 rfl ?_
    refine r_lmul C dX12_far_16 rfl ?_
    refine r_lconst (v := 1) C dX12_far_17 (by decide) ?_
    refine r_ladd C dX12_far_18 rfl ?_
    show Jr _ _ _ _ _ _ 19 _
    refine r_goto (tgt := 27) C dX12_far_19 (by decide) ?_
    exact r_lret C M dX12_far_27 h
theorem dX12_smaller_0 : decode cX12_smaller 0 = .ok (.lload_n 0, 1) := by decide +kernel
theorem dX12_smaller_1 : decode cX12_smaller 1 = .ok (.lload_n 2, 1) := by decide +kernel
theorem dX12_smaller_2 : decode cX12_smaller 2 = .ok (.lcmp, 1) := by decide +kernel
theorem dX12_smaller_3 : decode cX12_smaller 3 = .ok (.ifCond .ge 7, 3) := by decide +kernel
theorem dX12_smaller_6 : decode cX12_smaller 6 = .ok (.lload_n 0, 1) := by decide +kernel
theorem dX12_smaller_7 : decode cX12_smaller 7 = .ok (.goto 4, 3) := by decide +kernel
theorem dX12_smaller_10 : decode cX12_smaller 10 = .ok (.lload_n 2, 1) := by decide +kernel
theorem dX12_smaller_11 : decode cX12_smaller 11 = .ok (.lreturn, 1) := by decide +kernel
noncomputable def f_X12_smaller (p0 : Int64) (p2 : Int64) (T : Mm) : Option (Int64 × Mm) :=
  if 0 ≤ (lg_cmp p0 p2) then (some (p2, T))
  else (some (p0, T))
set_option maxRecDepth 100000 in
set_option maxHeartbeats 4000000 in
theorem s_X12_smaller {ad : Nat → Nat} {U T : Mm} {q : Int64 × Mm}  (p0 : Int64) (p2 : Int64) (h : f_X12_smaller p0 p2 T = some q) : Cr 1 yX12_smaller cX12_smaller 4 (some .long) [.long p0, .long p2] ad false U T eJ q := by
  refine cr_of (by decide) (Nat.le_of_ble_eq_true rfl) fun x S0 hn9 C M => ?_
  have C : CB x RX12 cX12_smaller := C
  refine Jr.eq (lv' := [(0, .long p0), (2, .long p2)]) (st' := []) rfl rfl ?_
  unfold f_X12_smaller at h
  refine r_lload_n C dX12_smaller_0 rfl 0 rfl ?_
  refine r_lload_n C dX12_smaller_1 rfl 1 rfl ?_
  refine r_lcmp C dX12_smaller_2 ?_
  refine r_if_ge (tgt := 10) C dX12_smaller_3 (by decide) h (fun h => ?_) (fun h => ?_)
  · refine r_lload_n C dX12_smaller_10 rfl 1 rfl ?_
    exact r_lret C M dX12_smaller_11 h
  · refine r_lload_n C dX12_smaller_6 rfl 0 rfl ?_
    refine r_goto (tgt := 11) C dX12_smaller_7 (by decide) ?_
    exact r_lret C M dX12_smaller_11 h
theorem dX12_nearest_0 : decode cX12_nearest 0 = .ok (.ldc2_w 344, 3) := by decide +kernel
theorem dX12_nearest_3 : decode cX12_nearest 3 = .ok (.lstore_n 3, 1) := by decide +kernel
theorem dX12_nearest_4 : decode cX12_nearest 4 = .ok (.iconst 0, 1) := by decide +kernel
theorem dX12_nearest_5 : decode cX12_nearest 5 = .ok (.istore 5, 2) := by decide +kernel
theorem dX12_nearest_7 : decode cX12_nearest 7 = .ok (.iload 5, 2) := by decide +kernel
theorem dX12_nearest_9 : decode cX12_nearest 9 = .ok (.bipush 17, 2) := by decide +kernel
theorem dX12_nearest_11 : decode cX12_nearest 11 = .ok (.if_icmp .ge 40, 3) := by decide +kernel
theorem dX12_nearest_14 : decode cX12_nearest 14 = .ok (.aload_n 0, 1) := by decide +kernel
theorem dX12_nearest_15 : decode cX12_nearest 15 = .ok (.getfield 105, 3) := by decide +kernel
theorem dX12_nearest_18 : decode cX12_nearest 18 = .ok (.iload 5, 2) := by decide +kernel
theorem dX12_nearest_20 : decode cX12_nearest 20 = .ok (.baload, 1) := by decide +kernel
theorem dX12_nearest_21 : decode cX12_nearest 21 = .ok (.ifCond .eq 24, 3) := by decide +kernel
theorem dX12_nearest_24 : decode cX12_nearest 24 = .ok (.lload_n 3, 1) := by decide +kernel
theorem dX12_nearest_25 : decode cX12_nearest 25 = .ok (.aload_n 0, 1) := by decide +kernel
theorem dX12_nearest_26 : decode cX12_nearest 26 = .ok (.getfield 23, 3) := by decide +kernel
theorem dX12_nearest_29 : decode cX12_nearest 29 = .ok (.bipush 7, 2) := by decide +kernel
theorem dX12_nearest_31 : decode cX12_nearest 31 = .ok (.iload 5, 2) := by decide +kernel
theorem dX12_nearest_33 : decode cX12_nearest 33 = .ok (.imul, 1) := by decide +kernel
theorem dX12_nearest_34 : decode cX12_nearest 34 = .ok (.iload_n 1, 1) := by decide +kernel
theorem dX12_nearest_35 : decode cX12_nearest 35 = .ok (.iadd, 1) := by decide +kernel
theorem dX12_nearest_36 : decode cX12_nearest 36 = .ok (.iaload, 1) := by decide +kernel
theorem dX12_nearest_37 : decode cX12_nearest 37 = .ok (.iload_n 2, 1) := by decide +kernel
theorem dX12_nearest_38 : decode cX12_nearest 38 = .ok (.invokestatic 346, 3) := by decide +kernel
theorem dX12_nearest_41 : decode cX12_nearest 41 = .ok (.invokestatic 350, 3) := by decide +kernel
theorem dX12_nearest_44 : decode cX12_nearest 44 = .ok (.lstore_n 3, 1) := by decide +kernel
theorem dX12_nearest_45 : decode cX12_nearest 45 = .ok (.iinc 5 1, 3) := by decide +kernel
theorem dX12_nearest_48 : decode cX12_nearest 48 = .ok (.goto (-41), 3) := by decide +kernel
theorem dX12_nearest_51 : decode cX12_nearest 51 = .ok (.iconst 0, 1) := by decide +kernel
theorem dX12_nearest_52 : decode cX12_nearest 52 = .ok (.istore 5, 2) := by decide +kernel
theorem dX12_nearest_54 : decode cX12_nearest 54 = .ok (.iload 5, 2) := by decide +kernel
theorem dX12_nearest_56 : decode cX12_nearest 56 = .ok (.bipush 17, 2) := by decide +kernel
theorem dX12_nearest_58 : decode cX12_nearest 58 = .ok (.if_icmp .ge 52, 3) := by decide +kernel
theorem dX12_nearest_61 : decode cX12_nearest 61 = .ok (.aload_n 0, 1) := by decide +kernel
theorem dX12_nearest_62 : decode cX12_nearest 62 = .ok (.getfield 105, 3) := by decide +kernel
theorem dX12_nearest_65 : decode cX12_nearest 65 = .ok (.iload 5, 2) := by decide +kernel
theorem dX12_nearest_67 : decode cX12_nearest 67 = .ok (.aload_n 0, 1) := by decide +kernel
theorem dX12_nearest_68 : decode cX12_nearest 68 = .ok (.getfield 105, 3) := by decide +kernel
theorem dX12_nearest_71 : decode cX12_nearest 71 = .ok (.iload 5, 2) := by decide +kernel
theorem dX12_nearest_73 : decode cX12_nearest 73 = .ok (.baload, 1) := by decide +kernel
theorem dX12_nearest_74 : decode cX12_nearest 74 = .ok (.ifCond .eq 28, 3) := by decide +kernel
theorem dX12_nearest_77 : decode cX12_nearest 77 = .ok (.aload_n 0, 1) := by decide +kernel
theorem dX12_nearest_78 : decode cX12_nearest 78 = .ok (.getfield 23, 3) := by decide +kernel
theorem dX12_nearest_81 : decode cX12_nearest 81 = .ok (.bipush 7, 2) := by decide +kernel
theorem dX12_nearest_83 : decode cX12_nearest 83 = .ok (.iload 5, 2) := by decide +kernel
theorem dX12_nearest_85 : decode cX12_nearest 85 = .ok (.imul, 1) := by decide +kernel
theorem dX12_nearest_86 : decode cX12_nearest 86 = .ok (.iload_n 1, 1) := by decide +kernel
theorem dX12_nearest_87 : decode cX12_nearest 87 = .ok (.iadd, 1) := by decide +kernel
theorem dX12_nearest_88 : decode cX12_nearest 88 = .ok (.iaload, 1) := by decide +kernel
theorem dX12_nearest_89 : decode cX12_nearest 89 = .ok (.iload_n 2, 1) := by decide +kernel
theorem dX12_nearest_90 : decode cX12_nearest 90 = .ok (.invokestatic 346, 3) := by decide +kernel
theorem dX12_nearest_93 : decode cX12_nearest 93 = .ok (.lload_n 3, 1) := by decide +kernel
theorem dX12_nearest_94 : decode cX12_nearest 94 = .ok (.lcmp, 1) := by decide +kernel
theorem dX12_nearest_95 : decode cX12_nearest 95 = .ok (.ifCond .ne 7, 3) := by decide +kernel
theorem dX12_nearest_98 : decode cX12_nearest 98 = .ok (.iconst 1, 1) := by decide +kernel
theorem dX12_nearest_99 : decode cX12_nearest 99 = .ok (.goto 4, 3) := by decide +kernel
theorem dX12_nearest_102 : decode cX12_nearest 102 = .ok (.iconst 0, 1) := by decide +kernel
theorem dX12_nearest_103 : decode cX12_nearest 103 = .ok (.bastore, 1) := by decide +kernel
theorem dX12_nearest_104 : decode cX12_nearest 104 = .ok (.iinc 5 1, 3) := by decide +kernel
theorem dX12_nearest_107 : decode cX12_nearest 107 = .ok (.goto (-53), 3) := by decide +kernel
theorem dX12_nearest_110 : decode cX12_nearest 110 = .ok (.return_, 1) := by decide +kernel
noncomputable def f_X12_nearest_b54 (k54 : Int32 → Int32 → Int64 → Int32 → Mm → Option (Unit × Mm)) (a1 : Int32) (a2 : Int32) (a3 : Int64) (a5 : Int32) (T : Mm) : Option (Unit × Mm) :=
  if 17 ≤ a5 then (some ((), T))
  else (ix a5 17 fun j1 =>
  if (gA T 164 j1) = 0 then (ix a5 17 fun j3 => lb (uA T 164 j3 (0)) fun T5 =>
  k54 a1 a2 a3 (a5 + 1) T5)
  else (ix (((7 : Int32) * a5) + a1) 119 fun j6 =>
  bd (f_X12_far (gA T 138 j6) a2 T) fun v8 T9 =>
  if (lg_cmp v8 a3) = 0 then (ix a5 17 fun j13 => lb (uA T9 164 j13 (1)) fun T15 =>
  k54 a1 a2 a3 (a5 + 1) T15)
  else (ix a5 17 fun j10 => lb (uA T9 164 j10 (0)) fun T12 =>
  k54 a1 a2 a3 (a5 + 1) T12)))
set_option maxRecDepth 100000 in
set_option maxHeartbeats 4000000 in
theorem s_X12_nearest_b54 {x : JX} {ad : Nat → Nat} {U : Mm} {S0 : Hp} {q : Unit × Mm}  {k54 : Int32 → Int32 → Int64 → Int32 → Mm → Option (Unit × Mm)} (hn9 : x_n x = 6) (C : CB x RX12 cX12_nearest) (M : CMr x 2 none S0 ad false U eV q) (hk54 : ∀ (a1 : Int32) (a2 : Int32) (a3 : Int64) (a5 : Int32) (T : Mm), k54 a1 a2 a3 a5 T = some q → Jr x ad false U T [(0, .ref (ad 133)), (1, .int a1), (2, .int a2), (3, .long a3), (5, .int a5)] 54 []) (a1 : Int32) (a2 : Int32) (a3 : Int64) (a5 : Int32) (T : Mm) (h : f_X12_nearest_b54 k54 a1 a2 a3 a5 T = some q) : Jr x ad false U T [(0, .ref (ad 133)), (1, .int a1), (2, .int a2), (3, .long a3), (5, .int a5)] 54 [] := by
  unfold f_X12_nearest_b54 at h
  refine r_iload C dX12_nearest_54 4 rfl ?_
  refine r_bipush (v := 17) C dX12_nearest_56 (by decide) ?_
  refine r_ic_ge (tgt := 110) C dX12_nearest_58 (by decide) h (fun h => ?_) (fun h => ?_)
  · exact r_vret C M dX12_nearest_110 h
  · refine r_aload_n C dX12_nearest_61 rfl 0 rfl ?_
    refine r_getp (f := 1250) (j := 164) C flX12_105 dX12_nearest_62 kq_133 (by decide) rfl (fun W => pt_1250 kq_133 W) ?_
    refine r_iload C dX12_nearest_65 4 rfl ?_
    refine r_aload_n C dX12_nearest_67 rfl 0 rfl ?_
    refine r_getp (f := 1250) (j := 164) C flX12_105 dX12_nearest_68 kq_133 (by decide) rfl (fun W => pt_1250 kq_133 W) ?_
    show Jr _ _ _ _ _ _ 71 _
    refine r_iload C dX12_nearest_71 4 rfl ?_
    refine r_zald (n := 17) C dX12_nearest_73 kq_164 lq_164 h (fun j1 hj2 h => ?_)
    refine r_if_eq (tgt := 102) C dX12_nearest_74 (by decide) h (fun h => ?_) (fun h => ?_)
    · refine r_iconst (v := 0) C dX12_nearest_102 (by decide) ?_
      refine r_zast (n := 17) C dX12_nearest_103 kq_164 lq_164 (by decide) h (fun j3 T5 hj4 h => ?_)
      refine r_iinc (q := 4) (v := (a5 + 1)) (lv' := [(5, .int (a5 + 1)), (0, .ref (ad 133)), (1, .int a1), (2, .int a2), (3, .long a3)]) C dX12_nearest_104 rfl (by rw [show Int32.ofInt (1) = 1 by decide]) (by rw [hn9]; decide) rfl ?_
      refine r_goto (tgt := 54) C dX12_nearest_107 (by decide) ?_
      refine Jr.sub [1, 2, 3, 4, 0] (lv' := [(0, .ref (ad 133)), (1, .int a1), (2, .int a2), (3, .long a3), (5, .int (a5 + 1))]) rfl ?_
      exact hk54 a1 a2 a3 (a5 + 1) T5 h
    · refine r_aload_n C dX12_nearest_77 rfl 0 rfl ?_
      refine r_getp (f := 1204) (j := 138) C flX12_23 dX12_nearest_78 kq_133 (by decide) rfl (fun W => pt_1204 kq_133 W) ?_
      refine r_bipush (v := 7) C dX12_nearest_81 (by decide) ?_
      refine r_iload C dX12_nearest_83 4 rfl ?_
      refine r_imul C dX12_nearest_85 rfl ?_
      show Jr _ _ _ _ _ _ 86 _
      refine r_iload_n C dX12_nearest_86 rfl 1 rfl ?_
      refine r_iadd C dX12_nearest_87 rfl ?_
      refine r_iald (n := 119) C dX12_nearest_88 kq_138 lq_138 h (fun j6 hj7 h => ?_)
      refine r_iload_n C dX12_nearest_89 rfl 2 rfl ?_
      refine r_callSJ C M h [.int (gA T 138 j6), .int a2] [.int a5, .ref (ad 164)] mlX12_346 mcX12_far (fun q9 e9 => s_X12_far (gA T 138 j6) a2  e9) (by decide) (by decide) rfl rfl (Nat.le_of_ble_eq_true rfl) dX12_nearest_90 (fun v8 T9 h => ?_)
      refine r_lload_n C dX12_nearest_93 rfl 3 rfl ?_
      show Jr _ _ _ _ _ _ 94 _
      refine r_lcmp C dX12_nearest_94 ?_
      refine r_if_ne (tgt := 102) C dX12_nearest_95 (by decide) h (fun h => ?_) (fun h => ?_)
      · refine r_iconst (v := 0) C dX12_nearest_102 (by decide) ?_
        refine r_zast (n := 17) C dX12_nearest_103 kq_164 lq_164 (by decide) h (fun j10 T12 hj11 h => ?_)
        refine r_iinc (q := 4) (v := (a5 + 1)) (lv' := [(5, .int (a5 + 1)), (0, .ref (ad 133)), (1, .int a1), (2, .int a2), (3, .long a3)]) C dX12_nearest_104 rfl (by rw [show Int32.ofInt (1) = 1 by decide]) (by rw [hn9]; decide) rfl ?_
        refine r_goto (tgt := 54) C dX12_nearest_107 (by decide) ?_
        refine Jr.sub [1, 2, 3, 4, 0] (lv' := [(0, .ref (ad 133)), (1, .int a1), (2, .int a2), (3, .long a3), (5, .int (a5 + 1))]) rfl ?_
        exact hk54 a1 a2 a3 (a5 + 1) T12 h
      · refine r_iconst (v := 1) C dX12_nearest_98 (by decide) ?_
        refine r_goto (tgt := 103) C dX12_nearest_99 (by decide) ?_
        refine r_zast (n := 17) C dX12_nearest_103 kq_164 lq_164 (by decide) h (fun j13 T15 hj14 h => ?_)
        refine r_iinc (q := 4) (v := (a5 + 1)) (lv' := [(5, .int (a5 + 1)), (0, .ref (ad 133)), (1, .int a1), (2, .int a2), (3, .long a3)]) C dX12_nearest_104 rfl (by rw [show Int32.ofInt (1) = 1 by decide]) (by rw [hn9]; decide) rfl ?_
        refine r_goto (tgt := 54) C dX12_nearest_107 (by decide) ?_
        refine Jr.sub [1, 2, 3, 4, 0] (lv' := [(0, .ref (ad 133)), (1, .int a1), (2, .int a2), (3, .long a3), (5, .int (a5 + 1))]) rfl ?_
        exact hk54 a1 a2 a3 (a5 + 1) T15 h
noncomputable def f_X12_nearest_l54 (n : Nat) : Int32 → Int32 → Int64 → Int32 → Mm → Option (Unit × Mm) := Nat.rec (fun _ _ _ _ _ => none) (fun _ ih => f_X12_nearest_b54 ih) n
theorem s_X12_nearest_l54 {x : JX} {ad : Nat → Nat} {U : Mm} {S0 : Hp} {q : Unit × Mm}  (hn9 : x_n x = 6) (C : CB x RX12 cX12_nearest) (M : CMr x 2 none S0 ad false U eV q) : ∀ (n : Nat), ∀ (a1 : Int32) (a2 : Int32) (a3 : Int64) (a5 : Int32) (T : Mm), f_X12_nearest_l54  n a1 a2 a3 a5 T = some q → Jr x ad false U T [(0, .ref (ad 133)), (1, .int a1), (2, .int a2), (3, .long a3), (5, .int a5)] 54 [] := by
  intro n
  induction n with
  | zero => intro a1 a2 a3 a5 T  h; exact absurd h (by intro h; cases h)
  | succ n ih => exact fun a1 a2 a3 a5 T  h => s_X12_nearest_b54 hn9 C M (ih) a1 a2 a3 a5 T  h
noncomputable def f_X12_nearest_b7 (k7 : Int32 → Int32 → Int64 → Int32 → Mm → Option (Unit × Mm)) (a1 : Int32) (a2 : Int32) (a3 : Int64) (a5 : Int32) (T : Mm) : Option (Unit × Mm) :=
  if 17 ≤ a5 then (f_X12_nearest_l54 FU a1 a2 a3 0 T)
  else (ix a5 17 fun j1 =>
  if (gA T 164 j1) = 0 then (k7 a1 a2 a3 (a5 + 1) T)
  else (ix (((7 : Int32) * a5) + a1) 119 fun j3 =>
  bd (f_X12_far (gA T 138 j3) a2 T) fun v5 T6 =>
  bd (f_X12_smaller a3 v5 T6) fun v7 T8 =>
  k7 a1 a2 v7 (a5 + 1) T8))
set_option maxRecDepth 100000 in
set_option maxHeartbeats 4000000 in
theorem s_X12_nearest_b7 {x : JX} {ad : Nat → Nat} {U : Mm} {S0 : Hp} {q : Unit × Mm}  {k7 : Int32 → Int32 → Int64 → Int32 → Mm → Option (Unit × Mm)} (hn9 : x_n x = 6) (C : CB x RX12 cX12_nearest) (M : CMr x 2 none S0 ad false U eV q) (hk7 : ∀ (a1 : Int32) (a2 : Int32) (a3 : Int64) (a5 : Int32) (T : Mm), k7 a1 a2 a3 a5 T = some q → Jr x ad false U T [(0, .ref (ad 133)), (1, .int a1), (2, .int a2), (3, .long a3), (5, .int a5)] 7 []) (a1 : Int32) (a2 : Int32) (a3 : Int64) (a5 : Int32) (T : Mm) (h : f_X12_nearest_b7 k7 a1 a2 a3 a5 T = some q) : Jr x ad false U T [(0, .ref (ad 133)), (1, .int a1), (2, .int a2), (3, .long a3), (5, .int a5)] 7 [] := by
  unfold f_X12_nearest_b7 at h
  refine r_iload C dX12_nearest_7 4 rfl ?_
  refine r_bipush (v := 17) C dX12_nearest_9 (by decide) ?_
  refine r_ic_ge (tgt := 51) C dX12_nearest_11 (by decide) h (fun h => ?_) (fun h => ?_)
  · refine r_iconst (v := 0) C dX12_nearest_51 (by decide) ?_
    refine r_istore (lv' := [(5, .int 0), (0, .ref (ad 133)), (1, .int a1), (2, .int a2), (3, .long a3)]) C dX12_nearest_52 (by rw [hn9]; decide) rfl ?_
    refine Jr.sub [1, 2, 3, 4, 0] (lv' := [(0, .ref (ad 133)), (1, .int a1), (2, .int a2), (3, .long a3), (5, .int 0)]) rfl ?_
    exact s_X12_nearest_l54 hn9 C M  FU a1 a2 a3 0 T h
  · refine r_aload_n C dX12_nearest_14 rfl 0 rfl ?_
    refine r_getp (f := 1250) (j := 164) C flX12_105 dX12_nearest_15 kq_133 (by decide) rfl (fun W => pt_1250 kq_133 W) ?_
    refine r_iload C dX12_nearest_18 4 rfl ?_
    refine r_zald (n := 17) C dX12_nearest_20 kq_164 lq_164 h (fun j1 hj2 h => ?_)
    refine r_if_eq (tgt := 45) C dX12_nearest_21 (by decide) h (fun h => ?_) (fun h => ?_)
    · refine r_iinc (q := 4) (v := (a5 + 1)) (lv' := [(5, .int (a5 + 1)), (0, .ref (ad 133)), (1, .int a1), (2, .int a2), (3, .long a3)]) C dX12_nearest_45 rfl (by rw [show Int32.ofInt (1) = 1 by decide]) (by rw [hn9]; decide) rfl ?_
      refine r_goto (tgt := 7) C dX12_nearest_48 (by decide) ?_
      refine Jr.sub [1, 2, 3, 4, 0] (lv' := [(0, .ref (ad 133)), (1, .int a1), (2, .int a2), (3, .long a3), (5, .int (a5 + 1))]) rfl ?_
      exact hk7 a1 a2 a3 (a5 + 1) T h
    · refine r_lload_n C dX12_nearest_24 rfl 3 rfl ?_
      refine r_aload_n C dX12_nearest_25 rfl 0 rfl ?_
      refine r_getp (f := 1204) (j := 138) C flX12_23 dX12_nearest_26 kq_133 (by decide) rfl (fun W => pt_1204 kq_133 W) ?_
      refine r_bipush (v := 7) C dX12_nearest_29 (by decide) ?_
      refine r_iload C dX12_nearest_31 4 rfl ?_
      show Jr _ _ _ _ _ _ 33 _
      refine r_imul C dX12_nearest_33 rfl ?_
      refine r_iload_n C dX12_nearest_34 rfl 1 rfl ?_
      refine r_iadd C dX12_nearest_35 rfl ?_
      refine r_iald (n := 119) C dX12_nearest_36 kq_138 lq_138 h (fun j3 hj4 h => ?_)
      refine r_iload_n C dX12_nearest_37 rfl 2 rfl ?_
      refine r_callSJ C M h [.int (gA T 138 j3), .int a2] [.long a3] mlX12_346 mcX12_far (fun q9 e9 => s_X12_far (gA T 138 j3) a2  e9) (by decide) (by decide) rfl rfl (Nat.le_of_ble_eq_true rfl) dX12_nearest_38 (fun v5 T6 h => ?_)
      show Jr _ _ _ _ _ _ 41 _
      refine r_callSJ C M h [.long a3, .long v5] [] mlX12_350 mcX12_smaller (fun q9 e9 => s_X12_smaller a3 v5  e9) (by decide) (by decide) rfl rfl (Nat.le_of_ble_eq_true rfl) dX12_nearest_41 (fun v7 T8 h => ?_)
      refine r_lstore_n (lv' := [(3, .long v7), (0, .ref (ad 133)), (1, .int a1), (2, .int a2), (5, .int a5)]) C dX12_nearest_44 rfl (by rw [hn9]; decide) rfl ?_
      refine r_iinc (q := 4) (v := (a5 + 1)) (lv' := [(5, .int (a5 + 1)), (3, .long v7), (0, .ref (ad 133)), (1, .int a1), (2, .int a2)]) C dX12_nearest_45 rfl (by rw [show Int32.ofInt (1) = 1 by decide]) (by rw [hn9]; decide) rfl ?_
      refine r_goto (tgt := 7) C dX12_nearest_48 (by decide) ?_
      refine Jr.sub [2, 3, 4, 1, 0] (lv' := [(0, .ref (ad 133)), (1, .int a1), (2, .int a2), (3, .long v7), (5, .int (a5 + 1))]) rfl ?_
      exact hk7 a1 a2 v7 (a5 + 1) T8 h
noncomputable def f_X12_nearest_l7 (n : Nat) : Int32 → Int32 → Int64 → Int32 → Mm → Option (Unit × Mm) := Nat.rec (fun _ _ _ _ _ => none) (fun _ ih => f_X12_nearest_b7 ih) n
theorem s_X12_nearest_l7 {x : JX} {ad : Nat → Nat} {U : Mm} {S0 : Hp} {q : Unit × Mm}  (hn9 : x_n x = 6) (C : CB x RX12 cX12_nearest) (M : CMr x 2 none S0 ad false U eV q) : ∀ (n : Nat), ∀ (a1 : Int32) (a2 : Int32) (a3 : Int64) (a5 : Int32) (T : Mm), f_X12_nearest_l7  n a1 a2 a3 a5 T = some q → Jr x ad false U T [(0, .ref (ad 133)), (1, .int a1), (2, .int a2), (3, .long a3), (5, .int a5)] 7 [] := by
  intro n
  induction n with
  | zero => intro a1 a2 a3 a5 T  h; exact absurd h (by intro h; cases h)
  | succ n ih => exact fun a1 a2 a3 a5 T  h => s_X12_nearest_b7 hn9 C M (ih) a1 a2 a3 a5 T  h
noncomputable def f_X12_nearest (p1 : Int32) (p2 : Int32) (T : Mm) : Option (Unit × Mm) :=
  f_X12_nearest_l7 FU p1 p2 9223372036854775807 0 T
set_option maxRecDepth 100000 in
set_option maxHeartbeats 4000000 in
theorem s_X12_nearest {ad : Nat → Nat} {U T : Mm} {q : Unit × Mm}  (p1 : Int32) (p2 : Int32) (h : f_X12_nearest p1 p2 T = some q) : Cr 2 yX12_nearest cX12_nearest 6 none [.ref (ad 133), .int p1, .int p2] ad false U T eV q := by
  refine cr_of (by decide) (Nat.le_of_ble_eq_true rfl) fun x S0 hn9 C M => ?_
  have C : CB x RX12 cX12_nearest := C
  refine Jr.eq (lv' := [(0, .ref (ad 133)), (1, .int p1), (2, .int p2)]) (st' := []) rfl rfl ?_
  unfold f_X12_nearest at h
  refine r_ldc2 (v := 9223372036854775807) C dX12_nearest_0 kcX12_344 ?_
  refine r_lstore_n (lv' := [(3, .long 9223372036854775807), (0, .ref (ad 133)), (1, .int p1), (2, .int p2)]) C dX12_nearest_3 rfl (by rw [hn9]; decide) rfl ?_
  refine r_iconst (v := 0) C dX12_nearest_4 (by decide) ?_
  refine r_istore (lv' := [(5, .int 0), (3, .long 9223372036854775807), (0, .ref (ad 133)), (1, .int p1), (2, .int p2)]) C dX12_nearest_5 (by rw [hn9]; decide) rfl ?_
  refine Jr.sub [2, 3, 4, 1, 0] (lv' := [(0, .ref (ad 133)), (1, .int p1), (2, .int p2), (3, .long 9223372036854775807), (5, .int 0)]) rfl ?_
  exact s_X12_nearest_l7 hn9 C M  FU p1 p2 9223372036854775807 0 T h
theorem dX12_fontInUse_0 : decode cX12_fontInUse 0 = .ok (.aload_n 0, 1) := by decide +kernel
theorem dX12_fontInUse_1 : decode cX12_fontInUse 1 = .ok (.bipush 7, 2) := by decide +kernel
theorem dX12_fontInUse_3 : decode cX12_fontInUse 3 = .ok (.invokevirtual 333, 3) := by decide +kernel
theorem dX12_fontInUse_6 : decode cX12_fontInUse 6 = .ok (.istore_n 1, 1) := by decide +kernel
theorem dX12_fontInUse_7 : decode cX12_fontInUse 7 = .ok (.iload_n 1, 1) := by decide +kernel
theorem dX12_fontInUse_8 : decode cX12_fontInUse 8 = .ok (.iconst (-1), 1) := by decide +kernel
theorem dX12_fontInUse_9 : decode cX12_fontInUse 9 = .ok (.if_icmp .eq 14, 3) := by decide +kernel
theorem dX12_fontInUse_12 : decode cX12_fontInUse 12 = .ok (.aload_n 0, 1) := by decide +kernel
theorem dX12_fontInUse_13 : decode cX12_fontInUse 13 = .ok (.getfield 16, 3) := by decide +kernel
theorem dX12_fontInUse_16 : decode cX12_fontInUse 16 = .ok (.iload_n 1, 1) := by decide +kernel
theorem dX12_fontInUse_17 : decode cX12_fontInUse 17 = .ok (.baload, 1) := by decide +kernel
theorem dX12_fontInUse_18 : decode cX12_fontInUse 18 = .ok (.ifCond .eq 5, 3) := by decide +kernel
theorem dX12_fontInUse_21 : decode cX12_fontInUse 21 = .ok (.iload_n 1, 1) := by decide +kernel
theorem dX12_fontInUse_22 : decode cX12_fontInUse 22 = .ok (.ireturn, 1) := by decide +kernel
theorem dX12_fontInUse_23 : decode cX12_fontInUse 23 = .ok (.iconst 0, 1) := by decide +kernel
theorem dX12_fontInUse_24 : decode cX12_fontInUse 24 = .ok (.istore_n 2, 1) := by decide +kernel
theorem dX12_fontInUse_25 : decode cX12_fontInUse 25 = .ok (.iload_n 2, 1) := by decide +kernel
theorem dX12_fontInUse_26 : decode cX12_fontInUse 26 = .ok (.bipush 17, 2) := by decide +kernel
theorem dX12_fontInUse_28 : decode cX12_fontInUse 28 = .ok (.if_icmp .ge 21, 3) := by decide +kernel
theorem dX12_fontInUse_31 : decode cX12_fontInUse 31 = .ok (.aload_n 0, 1) := by decide +kernel
theorem dX12_fontInUse_32 : decode cX12_fontInUse 32 = .ok (.getfield 105, 3) := by decide +kernel
theorem dX12_fontInUse_35 : decode cX12_fontInUse 35 = .ok (.iload_n 2, 1) := by decide +kernel
theorem dX12_fontInUse_36 : decode cX12_fontInUse 36 = .ok (.aload_n 0, 1) := by decide +kernel
theorem dX12_fontInUse_37 : decode cX12_fontInUse 37 = .ok (.getfield 16, 3) := by decide +kernel
theorem dX12_fontInUse_40 : decode cX12_fontInUse 40 = .ok (.iload_n 2, 1) := by decide +kernel
theorem dX12_fontInUse_41 : decode cX12_fontInUse 41 = .ok (.baload, 1) := by decide +kernel
theorem dX12_fontInUse_42 : decode cX12_fontInUse 42 = .ok (.bastore, 1) := by decide +kernel
theorem dX12_fontInUse_43 : decode cX12_fontInUse 43 = .ok (.iinc 2 1, 3) := by decide +kernel
theorem dX12_fontInUse_46 : decode cX12_fontInUse 46 = .ok (.goto (-21), 3) := by decide +kernel
theorem dX12_fontInUse_49 : decode cX12_fontInUse 49 = .ok (.aload_n 0, 1) := by decide +kernel
theorem dX12_fontInUse_50 : decode cX12_fontInUse 50 = .ok (.bipush 6, 2) := by decide +kernel
theorem dX12_fontInUse_52 : decode cX12_fontInUse 52 = .ok (.aload_n 0, 1) := by decide +kernel
theorem dX12_fontInUse_53 : decode cX12_fontInUse 53 = .ok (.bipush 6, 2) := by decide +kernel
theorem dX12_fontInUse_55 : decode cX12_fontInUse 55 = .ok (.invokevirtual 333, 3) := by decide +kernel
theorem dX12_fontInUse_58 : decode cX12_fontInUse 58 = .ok (.invokevirtual 336, 3) := by decide +kernel
theorem dX12_fontInUse_61 : decode cX12_fontInUse 61 = .ok (.aload_n 0, 1) := by decide +kernel
theorem dX12_fontInUse_62 : decode cX12_fontInUse 62 = .ok (.iconst 0, 1) := by decide +kernel
theorem dX12_fontInUse_63 : decode cX12_fontInUse 63 = .ok (.aload_n 0, 1) := by decide +kernel
theorem dX12_fontInUse_64 : decode cX12_fontInUse 64 = .ok (.iconst 0, 1) := by decide +kernel
theorem dX12_fontInUse_65 : decode cX12_fontInUse 65 = .ok (.invokevirtual 333, 3) := by decide +kernel
theorem dX12_fontInUse_68 : decode cX12_fontInUse 68 = .ok (.invokevirtual 336, 3) := by decide +kernel
theorem dX12_fontInUse_71 : decode cX12_fontInUse 71 = .ok (.aload_n 0, 1) := by decide +kernel
theorem dX12_fontInUse_72 : decode cX12_fontInUse 72 = .ok (.iconst 0, 1) := by decide +kernel
theorem dX12_fontInUse_73 : decode cX12_fontInUse 73 = .ok (.invokevirtual 333, 3) := by decide +kernel
theorem dX12_fontInUse_76 : decode cX12_fontInUse 76 = .ok (.ifCond .ne 13, 3) := by decide +kernel
theorem dX12_fontInUse_79 : decode cX12_fontInUse 79 = .ok (.aload_n 0, 1) := by decide +kernel
theorem dX12_fontInUse_80 : decode cX12_fontInUse 80 = .ok (.iconst 1, 1) := by decide +kernel
theorem dX12_fontInUse_81 : decode cX12_fontInUse 81 = .ok (.aload_n 0, 1) := by decide +kernel
theorem dX12_fontInUse_82 : decode cX12_fontInUse 82 = .ok (.iconst 1, 1) := by decide +kernel
theorem dX12_fontInUse_83 : decode cX12_fontInUse 83 = .ok (.invokevirtual 333, 3) := by decide +kernel
theorem dX12_fontInUse_86 : decode cX12_fontInUse 86 = .ok (.invokevirtual 339, 3) := by decide +kernel
theorem dX12_fontInUse_89 : decode cX12_fontInUse 89 = .ok (.aload_n 0, 1) := by decide +kernel
theorem dX12_fontInUse_90 : decode cX12_fontInUse 90 = .ok (.iconst 2, 1) := by decide +kernel
theorem dX12_fontInUse_91 : decode cX12_fontInUse 91 = .ok (.aload_n 0, 1) := by decide +kernel
theorem dX12_fontInUse_92 : decode cX12_fontInUse 92 = .ok (.iconst 2, 1) := by decide +kernel
theorem dX12_fontInUse_93 : decode cX12_fontInUse 93 = .ok (.invokevirtual 333, 3) := by decide +kernel
theorem dX12_fontInUse_96 : decode cX12_fontInUse 96 = .ok (.invokevirtual 339, 3) := by decide +kernel
theorem dX12_fontInUse_99 : decode cX12_fontInUse 99 = .ok (.aload_n 0, 1) := by decide +kernel
theorem dX12_fontInUse_100 : decode cX12_fontInUse 100 = .ok (.iconst 3, 1) := by decide +kernel
theorem dX12_fontInUse_101 : decode cX12_fontInUse 101 = .ok (.aload_n 0, 1) := by decide +kernel
theorem dX12_fontInUse_102 : decode cX12_fontInUse 102 = .ok (.iconst 3, 1) := by decide +kernel
theorem dX12_fontInUse_103 : decode cX12_fontInUse 103 = .ok (.invokevirtual 333, 3) := by decide +kernel
theorem dX12_fontInUse_106 : decode cX12_fontInUse 106 = .ok (.invokevirtual 336, 3) := by decide +kernel
theorem dX12_fontInUse_109 : decode cX12_fontInUse 109 = .ok (.aload_n 0, 1) := by decide +kernel
theorem dX12_fontInUse_110 : decode cX12_fontInUse 110 = .ok (.iconst 4, 1) := by decide +kernel
theorem dX12_fontInUse_111 : decode cX12_fontInUse 111 = .ok (.aload_n 0, 1) := by decide +kernel
theorem dX12_fontInUse_112 : decode cX12_fontInUse 112 = .ok (.iconst 4, 1) := by decide +kernel
theorem dX12_fontInUse_113 : decode cX12_fontInUse 113 = .ok (.invokevirtual 333, 3) := by decide +kernel
theorem dX12_fontInUse_116 : decode cX12_fontInUse 116 = .ok (.invokevirtual 339, 3) := by decide +kernel
theorem dX12_fontInUse_119 : decode cX12_fontInUse 119 = .ok (.aload_n 0, 1) := by decide +kernel
theorem dX12_fontInUse_120 : decode cX12_fontInUse 120 = .ok (.iconst 5, 1) := by decide +kernel
theorem dX12_fontInUse_121 : decode cX12_fontInUse 121 = .ok (.aload_n 0, 1) := by decide +kernel
theorem dX12_fontInUse_122 : decode cX12_fontInUse 122 = .ok (.iconst 5, 1) := by decide +kernel
theorem dX12_fontInUse_123 : decode cX12_fontInUse 123 = .ok (.invokevirtual 333, 3) := by decide +kernel
theorem dX12_fontInUse_126 : decode cX12_fontInUse 126 = .ok (.invokevirtual 336, 3) := by decide +kernel
theorem dX12_fontInUse_129 : decode cX12_fontInUse 129 = .ok (.iconst 0, 1) := by decide +kernel
theorem dX12_fontInUse_130 : decode cX12_fontInUse 130 = .ok (.istore_n 2, 1) := by decide +kernel
theorem dX12_fontInUse_131 : decode cX12_fontInUse 131 = .ok (.aload_n 0, 1) := by decide +kernel
theorem dX12_fontInUse_132 : decode cX12_fontInUse 132 = .ok (.getfield 105, 3) := by decide +kernel
theorem dX12_fontInUse_135 : decode cX12_fontInUse 135 = .ok (.iload_n 2, 1) := by decide +kernel
theorem dX12_fontInUse_136 : decode cX12_fontInUse 136 = .ok (.baload, 1) := by decide +kernel
theorem dX12_fontInUse_137 : decode cX12_fontInUse 137 = .ok (.ifCond .ne 9, 3) := by decide +kernel
theorem dX12_fontInUse_140 : decode cX12_fontInUse 140 = .ok (.iinc 2 1, 3) := by decide +kernel
theorem dX12_fontInUse_143 : decode cX12_fontInUse 143 = .ok (.goto (-12), 3) := by decide +kernel
theorem dX12_fontInUse_146 : decode cX12_fontInUse 146 = .ok (.iload_n 2, 1) := by decide +kernel
theorem dX12_fontInUse_147 : decode cX12_fontInUse 147 = .ok (.ireturn, 1) := by decide +kernel
noncomputable def f_X12_fontInUse_b131 (k131 : Int32 → Mm → Option (Int32 × Mm)) (a2 : Int32) (T : Mm) : Option (Int32 × Mm) :=
  ix a2 17 fun j1 =>
  if (gA T 164 j1) = 0 then (k131 (a2 + 1) T)
  else (some (a2, T))
set_option maxRecDepth 100000 in
set_option maxHeartbeats 4000000 in
theorem s_X12_fontInUse_b131 {x : JX} {ad : Nat → Nat} {U : Mm} {S0 : Hp} {q : Int32 × Mm}  {k131 : Int32 → Mm → Option (Int32 × Mm)} (hn9 : x_n x = 3) (C : CB x RX12 cX12_fontInUse) (M : CMr x 3 (some .int) S0 ad false U eI q) (hk131 : ∀ (a2 : Int32) (T : Mm), k131 a2 T = some q → Jr x ad false U T [(0, .ref (ad 133)), (2, .int a2)] 131 []) (a2 : Int32) (T : Mm) (h : f_X12_fontInUse_b131 k131 a2 T = some q) : Jr x ad false U T [(0, .ref (ad 133)), (2, .int a2)] 131 [] := by
  unfold f_X12_fontInUse_b131 at h
  refine r_aload_n C dX12_fontInUse_131 rfl 0 rfl ?_
  refine r_getp (f := 1250) (j := 164) C flX12_105 dX12_fontInUse_132 kq_133 (by decide) rfl (fun W => pt_1250 kq_133 W) ?_
  refine r_iload_n C dX12_fontInUse_135 rfl 1 rfl ?_
  refine r_zald (n := 17) C dX12_fontInUse_136 kq_164 lq_164 h (fun j1 hj2 h => ?_)
  refine r_if_ne (tgt := 146) C dX12_fontInUse_137 (by decide) h (fun h => ?_) (fun h => ?_)
  · refine r_iload_n C dX12_fontInUse_146 rfl 1 rfl ?_
    exact r_iret C M dX12_fontInUse_147 h
  · refine r_iinc (q := 1) (v := (a2 + 1)) (lv' := [(2, .int (a2 + 1)), (0, .ref (ad 133))]) C dX12_fontInUse_140 rfl (by rw [show Int32.ofInt (1) = 1 by decide]) (by rw [hn9]; decide) rfl ?_
    refine r_goto (tgt := 131) C dX12_fontInUse_143 (by decide) ?_
    refine Jr.sub [1, 0] (lv' := [(0, .ref (ad 133)), (2, .int (a2 + 1))]) rfl ?_
    exact hk131 (a2 + 1) T h
noncomputable def f_X12_fontInUse_l131 (n : Nat) : Int32 → Mm → Option (Int32 × Mm) := Nat.rec (fun _ _ => none) (fun _ ih => f_X12_fontInUse_b131 ih) n
theorem s_X12_fontInUse_l131 {x : JX} {ad : Nat → Nat} {U : Mm} {S0 : Hp} {q : Int32 × Mm}  (hn9 : x_n x = 3) (C : CB x RX12 cX12_fontInUse) (M : CMr x 3 (some .int) S0 ad false U eI q) : ∀ (n : Nat), ∀ (a2 : Int32) (T : Mm), f_X12_fontInUse_l131  n a2 T = some q → Jr x ad false U T [(0, .ref (ad 133)), (2, .int a2)] 131 [] := by
  intro n
  induction n with
  | zero => intro a2 T  h; exact absurd h (by intro h; cases h)
  | succ n ih => exact fun a2 T  h => s_X12_fontInUse_b131 hn9 C M (ih) a2 T  h
noncomputable def f_X12_fontInUse_89 (T : Mm) : Option (Int32 × Mm) :=
  bd (f_X12_wish 2 T) fun v1 T2 =>
  bd (f_X12_nearest 2 v1 T2) fun _ T3 =>
  bd (f_X12_wish 3 T3) fun v4 T5 =>
  bd (f_X12_keep 3 v4 T5) fun _ T6 =>
  bd (f_X12_wish 4 T6) fun v7 T8 =>
  bd (f_X12_nearest 4 v7 T8) fun _ T9 =>
  bd (f_X12_wish 5 T9) fun v10 T11 =>
  bd (f_X12_keep 5 v10 T11) fun _ T12 =>
  f_X12_fontInUse_l131 FU 0 T12
set_option maxRecDepth 100000 in
set_option maxHeartbeats 4000000 in
theorem s_X12_fontInUse_89 {x : JX} {ad : Nat → Nat} {U : Mm} {S0 : Hp} {q : Int32 × Mm}  (hn9 : x_n x = 3) (C : CB x RX12 cX12_fontInUse) (M : CMr x 3 (some .int) S0 ad false U eI q) (T : Mm) (h : f_X12_fontInUse_89   T = some q) : Jr x ad false U T [(0, .ref (ad 133))] 89 [] := by
  unfold f_X12_fontInUse_89 at h
  refine r_aload_n C dX12_fontInUse_89 rfl 0 rfl ?_
  refine r_iconst (v := 2) C dX12_fontInUse_90 (by decide) ?_
  refine r_aload_n C dX12_fontInUse_91 rfl 0 rfl ?_
  refine r_iconst (v := 2) C dX12_fontInUse_92 (by decide) ?_
  refine r_callVI C M h [.int 2] [.int 2, .ref (ad 133)] mlX12_333 mcX12_wish (fun q9 e9 => s_X12_wish 2  e9) kq_133 rfl (by decide) (by decide) rfl rfl (Nat.le_of_ble_eq_true rfl) dX12_fontInUse_93 (fun v1 T2 h => ?_)
  show Jr _ _ _ _ _ _ 96 _
  refine r_callVN C M h [.int 2, .int v1] [] mlX12_339 mcX12_nearest (fun q9 e9 => s_X12_nearest 2 v1  e9) kq_133 rfl (by decide) (by decide) rfl rfl (Nat.le_of_ble_eq_true rfl) dX12_fontInUse_96 (fun _ T3 h => ?_)
  refine r_aload_n C dX12_fontInUse_99 rfl 0 rfl ?_
  refine r_iconst (v := 3) C dX12_fontInUse_100 (by decide) ?_
  refine r_aload_n C dX12_fontInUse_101 rfl 0 rfl ?_
  refine r_iconst (v := 3) C dX12_fontInUse_102 (by decide) ?_
  refine r_callVI C M h [.int 3] [.int 3, .ref (ad 133)] mlX12_333 mcX12_wish (fun q9 e9 => s_X12_wish 3  e9) kq_133 rfl (by decide) (by decide) rfl rfl (Nat.le_of_ble_eq_true rfl) dX12_fontInUse_103 (fun v4 T5 h => ?_)
  show Jr _ _ _ _ _ _ 106 _
  refine r_callVN C M h [.int 3, .int v4] [] mlX12_336 mcX12_keep (fun q9 e9 => s_X12_keep 3 v4  e9) kq_133 rfl (by decide) (by decide) rfl rfl (Nat.le_of_ble_eq_true rfl) dX12_fontInUse_106 (fun _ T6 h => ?_)
  refine r_aload_n C dX12_fontInUse_109 rfl 0 rfl ?_
  refine r_iconst (v := 4) C dX12_fontInUse_110 (by decide) ?_
  refine r_aload_n C dX12_fontInUse_111 rfl 0 rfl ?_
  refine r_iconst (v := 4) C dX12_fontInUse_112 (by decide) ?_
  refine r_callVI C M h [.int 4] [.int 4, .ref (ad 133)] mlX12_333 mcX12_wish (fun q9 e9 => s_X12_wish 4  e9) kq_133 rfl (by decide) (by decide) rfl rfl (Nat.le_of_ble_eq_true rfl) dX12_fontInUse_113 (fun v7 T8 h => ?_)
  show Jr _ _ _ _ _ _ 116 _
  refine r_callVN C M h [.int 4, .int v7] [] mlX12_339 mcX12_nearest (fun q9 e9 => s_X12_nearest 4 v7  e9) kq_133 rfl (by decide) (by decide) rfl rfl (Nat.le_of_ble_eq_true rfl) dX12_fontInUse_116 (fun _ T9 h => ?_)
  refine r_aload_n C dX12_fontInUse_119 rfl 0 rfl ?_
  refine r_iconst (v := 5) C dX12_fontInUse_120 (by decide) ?_
  refine r_aload_n C dX12_fontInUse_121 rfl 0 rfl ?_
  refine r_iconst (v := 5) C dX12_fontInUse_122 (by decide) ?_
  refine r_callVI C M h [.int 5] [.int 5, .ref (ad 133)] mlX12_333 mcX12_wish (fun q9 e9 => s_X12_wish 5  e9) kq_133 rfl (by decide) (by decide) rfl rfl (Nat.le_of_ble_eq_true rfl) dX12_fontInUse_123 (fun v10 T11 h => ?_)
  show Jr _ _ _ _ _ _ 126 _
  refine r_callVN C M h [.int 5, .int v10] [] mlX12_336 mcX12_keep (fun q9 e9 => s_X12_keep 5 v10  e9) kq_133 rfl (by decide) (by decide) rfl rfl (Nat.le_of_ble_eq_true rfl) dX12_fontInUse_126 (fun _ T12 h => ?_)
  refine r_iconst (v := 0) C dX12_fontInUse_129 (by decide) ?_
  refine r_istore_n (lv' := [(2, .int 0), (0, .ref (ad 133))]) C dX12_fontInUse_130 rfl (by rw [hn9]; decide) rfl ?_
  refine Jr.sub [1, 0] (lv' := [(0, .ref (ad 133)), (2, .int 0)]) rfl ?_
  exact s_X12_fontInUse_l131 hn9 C M  FU 0 T12 h
noncomputable def f_X12_fontInUse_b25 (k25 : Int32 → Mm → Option (Int32 × Mm)) (a2 : Int32) (T : Mm) : Option (Int32 × Mm) :=
  if 17 ≤ a2 then (bd (f_X12_wish 6 T) fun v1 T2 =>
  bd (f_X12_keep 6 v1 T2) fun _ T3 =>
  bd (f_X12_wish 0 T3) fun v4 T5 =>
  bd (f_X12_keep 0 v4 T5) fun _ T6 =>
  bd (f_X12_wish 0 T6) fun v7 T8 =>
  if v7 = 0 then (bd (f_X12_wish 1 T8) fun v9 T10 =>
  bd (f_X12_nearest 1 v9 T10) fun _ T11 =>
  f_X12_fontInUse_89 T11)
  else (f_X12_fontInUse_89 T8))
  else (ix a2 17 fun j12 =>
  gd ((gA T 136 j12) = 0 ∨ (gA T 136 j12) = 1) <|
  ix a2 17 fun j15 => lb (uA T 164 j15 ((gA T 136 j12))) fun T17 =>
  k25 (a2 + 1) T17)
set_option maxRecDepth 100000 in
set_option maxHeartbeats 4000000 in
theorem s_X12_fontInUse_b25 {x : JX} {ad : Nat → Nat} {U : Mm} {S0 : Hp} {q : Int32 × Mm}  {k25 : Int32 → Mm → Option (Int32 × Mm)} (hn9 : x_n x = 3) (C : CB x RX12 cX12_fontInUse) (M : CMr x 3 (some .int) S0 ad false U eI q) (hk25 : ∀ (a2 : Int32) (T : Mm), k25 a2 T = some q → Jr x ad false U T [(0, .ref (ad 133)), (2, .int a2)] 25 []) (a2 : Int32) (T : Mm) (h : f_X12_fontInUse_b25 k25 a2 T = some q) : Jr x ad false U T [(0, .ref (ad 133)), (2, .int a2)] 25 [] := by
  unfold f_X12_fontInUse_b25 at h
  refine r_iload_n C dX12_fontInUse_25 rfl 1 rfl ?_
  refine r_bipush (v := 17) C dX12_fontInUse_26 (by decide) ?_
  refine r_ic_ge (tgt := 49) C dX12_fontInUse_28 (by decide) h (fun h => ?_) (fun h => ?_)
  · refine r_aload_n C dX12_fontInUse_49 rfl 0 rfl ?_
    refine r_bipush (v := 6) C dX12_fontInUse_50 (by decide) ?_
    refine r_aload_n C dX12_fontInUse_52 rfl 0 rfl ?_
    refine r_bipush (v := 6) C dX12_fontInUse_53 (by decide) ?_
    refine r_callVI C M h [.int 6] [.int 6, .ref (ad 133)] mlX12_333 mcX12_wish (fun q9 e9 => s_X12_wish 6  e9) kq_133 rfl (by decide) (by decide) rfl rfl (Nat.le_of_ble_eq_true rfl) dX12_fontInUse_55 (fun v1 T2 h => ?_)
    show Jr _ _ _ _ _ _ 58 _
    refine r_callVN C M h [.int 6, .int v1] [] mlX12_336 mcX12_keep (fun q9 e9 => s_X12_keep 6 v1  e9) kq_133 rfl (by decide) (by decide) rfl rfl (Nat.le_of_ble_eq_true rfl) dX12_fontInUse_58 (fun _ T3 h => ?_)
    refine r_aload_n C dX12_fontInUse_61 rfl 0 rfl ?_
    refine r_iconst (v := 0) C dX12_fontInUse_62 (by decide) ?_
    refine r_aload_n C dX12_fontInUse_63 rfl 0 rfl ?_
    refine r_iconst (v := 0) C dX12_fontInUse_64 (by decide) ?_
    refine r_callVI C M h [.int 0] [.int 0, .ref (ad 133)] mlX12_333 mcX12_wish (fun q9 e9 => s_X12_wish 0  e9) kq_133 rfl (by decide) (by decide) rfl rfl (Nat.le_of_ble_eq_true rfl) dX12_fontInUse_65 (fun v4 T5 h => ?_)
    show Jr _ _ _ _ _ _ 68 _
    refine r_callVN C M h [.int 0, .int v4] [] mlX12_336 mcX12_keep (fun q9 e9 => s_X12_keep 0 v4  e9) kq_133 rfl (by decide) (by decide) rfl rfl (Nat.le_of_ble_eq_true rfl) dX12_fontInUse_68 (fun _ T6 h => ?_)
    refine r_aload_n C dX12_fontInUse_71 rfl 0 rfl ?_
    refine r_iconst (v := 0) C dX12_fontInUse_72 (by decide) ?_
    refine r_callVI C M h [.int 0] [] mlX12_333 mcX12_wish (fun q9 e9 => s_X12_wish 0  e9) kq_133 rfl (by decide) (by decide) rfl rfl (Nat.le_of_ble_eq_true rfl) dX12_fontInUse_73 (fun v7 T8 h => ?_)
    refine r_if_ne (tgt := 89) C dX12_fontInUse_76 (by decide) h (fun h => ?_) (fun h => ?_)
    · refine Jr.sub [0] (lv' := [(0, .ref (ad 133))]) rfl ?_
      exact s_X12_fontInUse_89 hn9 C M  T8 h
    · refine r_aload_n C dX12_fontInUse_79 rfl 0 rfl ?_
      refine r_iconst (v := 1) C dX12_fontInUse_80 (by decide) ?_
      refine r_aload_n C dX12_fontInUse_81 rfl 0 rfl ?_
      refine r_iconst (v := 1) C dX12_fontInUse_82 (by decide) ?_
      refine r_callVI C M h [.int 1] [.int 1, .ref (ad 133)] mlX12_333 mcX12_wish (fun q9 e9 => s_X12_wish 1  e9) kq_133 rfl (by decide) (by decide) rfl rfl (Nat.le_of_ble_eq_true rfl) dX12_fontInUse_83 (fun v9 T10 h => ?_)
      show Jr _ _ _ _ _ _ 86 _
      refine r_callVN C M h [.int 1, .int v9] [] mlX12_339 mcX12_nearest (fun q9 e9 => s_X12_nearest 1 v9  e9) kq_133 rfl (by decide) (by decide) rfl rfl (Nat.le_of_ble_eq_true rfl) dX12_fontInUse_86 (fun _ T11 h => ?_)
      refine Jr.sub [0] (lv' := [(0, .ref (ad 133))]) rfl ?_
      exact s_X12_fontInUse_89 hn9 C M  T11 h
  · refine r_aload_n C dX12_fontInUse_31 rfl 0 rfl ?_
    refine r_getp (f := 1250) (j := 164) C flX12_105 dX12_fontInUse_32 kq_133 (by decide) rfl (fun W => pt_1250 kq_133 W) ?_
    refine r_iload_n C dX12_fontInUse_35 rfl 1 rfl ?_
    refine r_aload_n C dX12_fontInUse_36 rfl 0 rfl ?_
    refine r_getp (f := 1202) (j := 136) C flX12_16 dX12_fontInUse_37 kq_133 (by decide) rfl (fun W => pt_1202 kq_133 W) ?_
    show Jr _ _ _ _ _ _ 40 _
    refine r_iload_n C dX12_fontInUse_40 rfl 1 rfl ?_
    refine r_zald (n := 17) C dX12_fontInUse_41 kq_136 lq_136 h (fun j12 hj13 h => ?_)
    refine r_gd h (fun hz14 h => ?_)
    refine r_zast (n := 17) C dX12_fontInUse_42 kq_164 lq_164 (by rcases hz14 with e9 | e9 <;> rw [e9] <;> rfl) h (fun j15 T17 hj16 h => ?_)
    refine r_iinc (q := 1) (v := (a2 + 1)) (lv' := [(2, .int (a2 + 1)), (0, .ref (ad 133))]) C dX12_fontInUse_43 rfl (by rw [show Int32.ofInt (1) = 1 by decide]) (by rw [hn9]; decide) rfl ?_
    refine r_goto (tgt := 25) C dX12_fontInUse_46 (by decide) ?_
    refine Jr.sub [1, 0] (lv' := [(0, .ref (ad 133)), (2, .int (a2 + 1))]) rfl ?_
    exact hk25 (a2 + 1) T17 h
noncomputable def f_X12_fontInUse_l25 (n : Nat) : Int32 → Mm → Option (Int32 × Mm) := Nat.rec (fun _ _ => none) (fun _ ih => f_X12_fontInUse_b25 ih) n
theorem s_X12_fontInUse_l25 {x : JX} {ad : Nat → Nat} {U : Mm} {S0 : Hp} {q : Int32 × Mm}  (hn9 : x_n x = 3) (C : CB x RX12 cX12_fontInUse) (M : CMr x 3 (some .int) S0 ad false U eI q) : ∀ (n : Nat), ∀ (a2 : Int32) (T : Mm), f_X12_fontInUse_l25  n a2 T = some q → Jr x ad false U T [(0, .ref (ad 133)), (2, .int a2)] 25 [] := by
  intro n
  induction n with
  | zero => intro a2 T  h; exact absurd h (by intro h; cases h)
  | succ n ih => exact fun a2 T  h => s_X12_fontInUse_b25 hn9 C M (ih) a2 T  h
noncomputable def f_X12_fontInUse (T : Mm) : Option (Int32 × Mm) :=
  bd (f_X12_wish 7 T) fun v1 T2 =>
  if v1 = (-1) then (f_X12_fontInUse_l25 FU 0 T2)
  else (ix v1 17 fun j3 =>
  if (gA T2 136 j3) = 0 then (f_X12_fontInUse_l25 FU 0 T2)
  else (some (v1, T2)))
set_option maxRecDepth 100000 in
set_option maxHeartbeats 4000000 in
theorem s_X12_fontInUse {ad : Nat → Nat} {U T : Mm} {q : Int32 × Mm}  (h : f_X12_fontInUse  T = some q) : Cr 3 yX12_fontInUse cX12_fontInUse 3 (some .int) [.ref (ad 133)] ad false U T eI q := by
  refine cr_of (by decide) (Nat.le_of_ble_eq_true rfl) fun x S0 hn9 C M => ?_
  have C : CB x RX12 cX12_fontInUse := C
  refine Jr.eq (lv' := [(0, .ref (ad 133))]) (st' := []) rfl rfl ?_
  unfold f_X12_fontInUse at h
  refine r_aload_n C dX12_fontInUse_0 rfl 0 rfl ?_
  refine r_bipush (v := 7) C dX12_fontInUse_1 (by decide) ?_
  refine r_callVI C M h [.int 7] [] mlX12_333 mcX12_wish (fun q9 e9 => s_X12_wish 7  e9) kq_133 rfl (by decide) (by decide) rfl rfl (Nat.le_of_ble_eq_true rfl) dX12_fontInUse_3 (fun v1 T2 h => ?_)
  refine r_istore_n (lv' := [(1, .int v1), (0, .ref (ad 133))]) C dX12_fontInUse_6 rfl (by rw [hn9]; decide) rfl ?_
  refine r_iload_n C dX12_fontInUse_7 rfl 0 rfl ?_
  show Jr _ _ _ _ _ _ 8 _
  refine r_iconst (v := (-1)) C dX12_fontInUse_8 (by decide) ?_
  refine r_ic_eq (tgt := 23) C dX12_fontInUse_9 (by decide) h (fun h => ?_) (fun h => ?_)
  · refine r_iconst (v := 0) C dX12_fontInUse_23 (by decide) ?_
    refine r_istore_n (lv' := [(2, .int 0), (1, .int v1), (0, .ref (ad 133))]) C dX12_fontInUse_24 rfl (by rw [hn9]; decide) rfl ?_
    refine Jr.sub [2, 0] (lv' := [(0, .ref (ad 133)), (2, .int 0)]) rfl ?_
    exact s_X12_fontInUse_l25 hn9 C M  FU 0 T2 h
  · refine r_aload_n C dX12_fontInUse_12 rfl 1 rfl ?_
    refine r_getp (f := 1202) (j := 136) C flX12_16 dX12_fontInUse_13 kq_133 (by decide) rfl (fun W => pt_1202 kq_133 W) ?_
    refine r_iload_n C dX12_fontInUse_16 rfl 0 rfl ?_
    refine r_zald (n := 17) C dX12_fontInUse_17 kq_136 lq_136 h (fun j3 hj4 h => ?_)
    refine r_if_eq (tgt := 23) C dX12_fontInUse_18 (by decide) h (fun h => ?_) (fun h => ?_)
    · refine r_iconst (v := 0) C dX12_fontInUse_23 (by decide) ?_
      refine r_istore_n (lv' := [(2, .int 0), (1, .int v1), (0, .ref (ad 133))]) C dX12_fontInUse_24 rfl (by rw [hn9]; decide) rfl ?_
      refine Jr.sub [2, 0] (lv' := [(0, .ref (ad 133)), (2, .int 0)]) rfl ?_
      exact s_X12_fontInUse_l25 hn9 C M  FU 0 T2 h
    · refine r_iload_n C dX12_fontInUse_21 rfl 0 rfl ?_
      exact r_iret C M dX12_fontInUse_22 h
theorem dX12_mark_0 : decode cX12_mark 0 = .ok (.lload_n 1, 1) := by decide +kernel
theorem dX12_mark_1 : decode cX12_mark 1 = .ok (.lload 5, 2) := by decide +kernel
theorem dX12_mark_3 : decode cX12_mark 3 = .ok (.ladd, 1) := by decide +kernel
theorem dX12_mark_4 : decode cX12_mark 4 = .ok (.aload_n 0, 1) := by decide +kernel
theorem dX12_mark_5 : decode cX12_mark 5 = .ok (.invokevirtual 172, 3) := by decide +kernel
theorem dX12_mark_8 : decode cX12_mark 8 = .ok (.i2l, 1) := by decide +kernel
theorem dX12_mark_9 : decode cX12_mark 9 = .ok (.lcmp, 1) := by decide +kernel
theorem dX12_mark_10 : decode cX12_mark 10 = .ok (.ifCond .ge 10, 3) := by decide +kernel
theorem dX12_mark_13 : decode cX12_mark 13 = .ok (.lload_n 1, 1) := by decide +kernel
theorem dX12_mark_14 : decode cX12_mark 14 = .ok (.lload 5, 2) := by decide +kernel
theorem dX12_mark_16 : decode cX12_mark 16 = .ok (.ladd, 1) := by decide +kernel
theorem dX12_mark_17 : decode cX12_mark 17 = .ok (.goto 8, 3) := by decide +kernel
theorem dX12_mark_20 : decode cX12_mark 20 = .ok (.aload_n 0, 1) := by decide +kernel
theorem dX12_mark_21 : decode cX12_mark 21 = .ok (.invokevirtual 172, 3) := by decide +kernel
theorem dX12_mark_24 : decode cX12_mark 24 = .ok (.i2l, 1) := by decide +kernel
theorem dX12_mark_25 : decode cX12_mark 25 = .ok (.lstore 9, 2) := by decide +kernel
theorem dX12_mark_27 : decode cX12_mark 27 = .ok (.lload_n 3, 1) := by decide +kernel
theorem dX12_mark_28 : decode cX12_mark 28 = .ok (.lload 7, 2) := by decide +kernel
theorem dX12_mark_30 : decode cX12_mark 30 = .ok (.ladd, 1) := by decide +kernel
theorem dX12_mark_31 : decode cX12_mark 31 = .ok (.aload_n 0, 1) := by decide +kernel
theorem dX12_mark_32 : decode cX12_mark 32 = .ok (.invokevirtual 176, 3) := by decide +kernel
theorem dX12_mark_35 : decode cX12_mark 35 = .ok (.i2l, 1) := by decide +kernel
theorem dX12_mark_36 : decode cX12_mark 36 = .ok (.lcmp, 1) := by decide +kernel
theorem dX12_mark_37 : decode cX12_mark 37 = .ok (.ifCond .ge 10, 3) := by decide +kernel
theorem dX12_mark_40 : decode cX12_mark 40 = .ok (.lload_n 3, 1) := by decide +kernel
theorem dX12_mark_41 : decode cX12_mark 41 = .ok (.lload 7, 2) := by decide +kernel
theorem dX12_mark_43 : decode cX12_mark 43 = .ok (.ladd, 1) := by decide +kernel
theorem dX12_mark_44 : decode cX12_mark 44 = .ok (.goto 8, 3) := by decide +kernel
theorem dX12_mark_47 : decode cX12_mark 47 = .ok (.aload_n 0, 1) := by decide +kernel
theorem dX12_mark_48 : decode cX12_mark 48 = .ok (.invokevirtual 176, 3) := by decide +kernel
theorem dX12_mark_51 : decode cX12_mark 51 = .ok (.i2l, 1) := by decide +kernel
theorem dX12_mark_52 : decode cX12_mark 52 = .ok (.lstore 11, 2) := by decide +kernel
theorem dX12_mark_54 : decode cX12_mark 54 = .ok (.lload 9, 2) := by decide +kernel
theorem dX12_mark_56 : decode cX12_mark 56 = .ok (.lload_n 1, 1) := by decide +kernel
theorem dX12_mark_57 : decode cX12_mark 57 = .ok (.lconst 0, 1) := by decide +kernel
theorem dX12_mark_58 : decode cX12_mark 58 = .ok (.lcmp, 1) := by decide +kernel
theorem dX12_mark_59 : decode cX12_mark 59 = .ok (.ifCond .le 7, 3) := by decide +kernel
theorem dX12_mark_62 : decode cX12_mark 62 = .ok (.lload_n 1, 1) := by decide +kernel
theorem dX12_mark_63 : decode cX12_mark 63 = .ok (.goto 4, 3) := by decide +kernel
theorem dX12_mark_66 : decode cX12_mark 66 = .ok (.lconst 0, 1) := by decide +kernel
theorem dX12_mark_67 : decode cX12_mark 67 = .ok (.lsub, 1) := by decide +kernel
theorem dX12_mark_68 : decode cX12_mark 68 = .ok (.lstore 13, 2) := by decide +kernel
theorem dX12_mark_70 : decode cX12_mark 70 = .ok (.lload 11, 2) := by decide +kernel
theorem dX12_mark_72 : decode cX12_mark 72 = .ok (.lload_n 3, 1) := by decide +kernel
theorem dX12_mark_73 : decode cX12_mark 73 = .ok (.lconst 0, 1) := by decide +kernel
theorem dX12_mark_74 : decode cX12_mark 74 = .ok (.lcmp, 1) := by decide +kernel
theorem dX12_mark_75 : decode cX12_mark 75 = .ok (.ifCond .le 7, 3) := by decide +kernel
theorem dX12_mark_78 : decode cX12_mark 78 = .ok (.lload_n 3, 1) := by decide +kernel
theorem dX12_mark_79 : decode cX12_mark 79 = .ok (.goto 4, 3) := by decide +kernel
theorem dX12_mark_82 : decode cX12_mark 82 = .ok (.lconst 0, 1) := by decide +kernel
theorem dX12_mark_83 : decode cX12_mark 83 = .ok (.lsub, 1) := by decide +kernel
theorem dX12_mark_84 : decode cX12_mark 84 = .ok (.lstore 15, 2) := by decide +kernel
theorem dX12_mark_86 : decode cX12_mark 86 = .ok (.lload 13, 2) := by decide +kernel
theorem dX12_mark_88 : decode cX12_mark 88 = .ok (.lconst 0, 1) := by decide +kernel
theorem dX12_mark_89 : decode cX12_mark 89 = .ok (.lcmp, 1) := by decide +kernel
theorem dX12_mark_90 : decode cX12_mark 90 = .ok (.ifCond .le 18, 3) := by decide +kernel
theorem dX12_mark_93 : decode cX12_mark 93 = .ok (.lload 15, 2) := by decide +kernel
theorem dX12_mark_95 : decode cX12_mark 95 = .ok (.lconst 0, 1) := by decide +kernel
theorem dX12_mark_96 : decode cX12_mark 96 = .ok (.lcmp, 1) := by decide +kernel
theorem dX12_mark_97 : decode cX12_mark 97 = .ok (.ifCond .le 11, 3) := by decide +kernel
theorem dX12_mark_100 : decode cX12_mark 100 = .ok (.lload 13, 2) := by decide +kernel
theorem dX12_mark_102 : decode cX12_mark 102 = .ok (.lload 15, 2) := by decide +kernel
theorem dX12_mark_104 : decode cX12_mark 104 = .ok (.lmul, 1) := by decide +kernel
theorem dX12_mark_105 : decode cX12_mark 105 = .ok (.goto 4, 3) := by decide +kernel
theorem dX12_mark_108 : decode cX12_mark 108 = .ok (.lconst 0, 1) := by decide +kernel
theorem dX12_mark_109 : decode cX12_mark 109 = .ok (.lstore 17, 2) := by decide +kernel
theorem dX12_mark_111 : decode cX12_mark 111 = .ok (.aload_n 0, 1) := by decide +kernel
theorem dX12_mark_112 : decode cX12_mark 112 = .ok (.getfield 182, 3) := by decide +kernel
theorem dX12_mark_115 : decode cX12_mark 115 = .ok (.sipush 2000, 3) := by decide +kernel
theorem dX12_mark_118 : decode cX12_mark 118 = .ok (.if_icmp .eq 17, 3) := by decide +kernel
theorem dX12_mark_121 : decode cX12_mark 121 = .ok (.aload_n 0, 1) := by decide +kernel
theorem dX12_mark_122 : decode cX12_mark 122 = .ok (.getfield 185, 3) := by decide +kernel
theorem dX12_mark_125 : decode cX12_mark 125 = .ok (.lload 17, 2) := by decide +kernel
theorem dX12_mark_127 : decode cX12_mark 127 = .ok (.ladd, 1) := by decide +kernel
theorem dX12_mark_128 : decode cX12_mark 128 = .ok (.ldc2_w 189, 3) := by decide +kernel
theorem dX12_mark_131 : decode cX12_mark 131 = .ok (.lcmp, 1) := by decide +kernel
theorem dX12_mark_132 : decode cX12_mark 132 = .ok (.ifCond .le 10, 3) := by decide +kernel
theorem dX12_mark_135 : decode cX12_mark 135 = .ok (.aload_n 0, 1) := by decide +kernel
theorem dX12_mark_136 : decode cX12_mark 136 = .ok (.iconst 1, 1) := by decide +kernel
theorem dX12_mark_137 : decode cX12_mark 137 = .ok (.putfield 191, 3) := by decide +kernel
theorem dX12_mark_140 : decode cX12_mark 140 = .ok (.iconst 0, 1) := by decide +kernel
theorem dX12_mark_141 : decode cX12_mark 141 = .ok (.ireturn, 1) := by decide +kernel
theorem dX12_mark_142 : decode cX12_mark 142 = .ok (.aload_n 0, 1) := by decide +kernel
theorem dX12_mark_143 : decode cX12_mark 143 = .ok (.dup, 1) := by decide +kernel
theorem dX12_mark_144 : decode cX12_mark 144 = .ok (.getfield 185, 3) := by decide +kernel
theorem dX12_mark_147 : decode cX12_mark 147 = .ok (.lload 17, 2) := by decide +kernel
theorem dX12_mark_149 : decode cX12_mark 149 = .ok (.ladd, 1) := by decide +kernel
theorem dX12_mark_150 : decode cX12_mark 150 = .ok (.putfield 185, 3) := by decide +kernel
theorem dX12_mark_153 : decode cX12_mark 153 = .ok (.aload_n 0, 1) := by decide +kernel
theorem dX12_mark_154 : decode cX12_mark 154 = .ok (.dup, 1) := by decide +kernel
theorem dX12_mark_155 : decode cX12_mark 155 = .ok (.getfield 182, 3) := by decide +kernel
theorem dX12_mark_158 : decode cX12_mark 158 = .ok (.iconst 1, 1) := by decide +kernel
theorem dX12_mark_159 : decode cX12_mark 159 = .ok (.iadd, 1) := by decide +kernel
theorem dX12_mark_160 : decode cX12_mark 160 = .ok (.putfield 182, 3) := by decide +kernel
theorem dX12_mark_163 : decode cX12_mark 163 = .ok (.aload_n 0, 1) := by decide +kernel
theorem dX12_mark_164 : decode cX12_mark 164 = .ok (.dup, 1) := by decide +kernel
theorem dX12_mark_165 : decode cX12_mark 165 = .ok (.getfield 195, 3) := by decide +kernel
theorem dX12_mark_168 : decode cX12_mark 168 = .ok (.iconst 1, 1) := by decide +kernel
theorem dX12_mark_169 : decode cX12_mark 169 = .ok (.iadd, 1) := by decide +kernel
theorem dX12_mark_170 : decode cX12_mark 170 = .ok (.putfield 195, 3) := by decide +kernel
theorem dX12_mark_173 : decode cX12_mark 173 = .ok (.iconst 1, 1) := by decide +kernel
theorem dX12_mark_174 : decode cX12_mark 174 = .ok (.ireturn, 1) := by decide +kernel
noncomputable def f_X12_mark_109 (b0 : Int64) (T : Mm) : Option (Int32 × Mm) :=
  if (gI T 1235 133) = 2000 then (lb (uI T 1233 133 1) fun T1 =>
  some (0, T1))
  else (if (lg_cmp ((gJ T 1249 133) + b0) 5000000) ≤ 0 then (lb (uJ T 1249 133 ((gJ T 1249 133) + b0)) fun T2 =>
  lb (uI T2 1235 133 ((gI T2 1235 133) + 1)) fun T3 =>
  lb (uI T3 1236 133 ((gI T3 1236 133) + 1)) fun T4 =>
  some (1, T4))
  else (lb (uI T 1233 133 1) fun T5 =>
  some (0, T5)))
set_option maxRecDepth 100000 in
set_option maxHeartbeats 4000000 in
theorem s_X12_mark_109 {x : JX} {ad : Nat → Nat} {U : Mm} {S0 : Hp} {q : Int32 × Mm}  (hn9 : x_n x = 19) (C : CB x RX12 cX12_mark) (M : CMr x 3 (some .boolean) S0 ad false U eI q) (b0 : Int64) (T : Mm) (h : f_X12_mark_109  b0 T = some q) : Jr x ad false U T [(0, .ref (ad 133))] 109 [.long b0] := by
  unfold f_X12_mark_109 at h
  refine r_lstore (lv' := [(17, .long b0), (0, .ref (ad 133))]) C dX12_mark_109 (by rw [hn9]; decide) rfl ?_
  refine r_aload_n C dX12_mark_111 rfl 1 rfl ?_
  refine r_geti (f := 1235) C flX12_182 dX12_mark_112 kq_133 (by decide) (by decide) rfl ?_
  refine r_sipush (v := 2000) C dX12_mark_115 (by decide) ?_
  refine r_ic_eq (tgt := 135) C dX12_mark_118 (by decide) h (fun h => ?_) (fun h => ?_)
  · refine r_aload_n C dX12_mark_135 rfl 1 rfl ?_
    refine r_iconst (v := 1) C dX12_mark_136 (by decide) ?_
    refine r_putz (f := 1233) C flX12_191 (by decide) rfl rfl (by decide) dX12_mark_137 kq_133 rfl h (fun T1 h => ?_)
    refine r_iconst (v := 0) C dX12_mark_140 (by decide) ?_
    exact r_zret C M dX12_mark_141 (by decide) h
  · refine r_aload_n C dX12_mark_121 rfl 1 rfl ?_
    refine r_getl (f := 1249) C flX12_185 dX12_mark_122 kq_133 (by decide) rfl ?_
    refine r_lload C dX12_mark_125 0 rfl ?_
    refine r_ladd C dX12_mark_127 rfl ?_
    refine r_ldc2 (v := 5000000) C dX12_mark_128 kcX12_189 ?_
    show Jr _ _ _ _ _ _ 131 _
    refine r_lcmp C dX12_mark_131 ?_
    refine r_if_le (tgt := 142) C dX12_mark_132 (by decide) h (fun h => ?_) (fun h => ?_)
    · refine r_aload_n C dX12_mark_142 rfl 1 rfl ?_
      refine r_dup C dX12_mark_143 rfl ?_
      refine r_getl (f := 1249) C flX12_185 dX12_mark_144 kq_133 (by decide) rfl ?_
      refine r_lload C dX12_mark_147 0 rfl ?_
      refine r_ladd C dX12_mark_149 rfl ?_
      show Jr _ _ _ _ _ _ 150 _
      refine r_putl (f := 1249) C flX12_185 (by decide) rfl rfl dX12_mark_150 kq_133 rfl h (fun T2 h => ?_)
      refine r_aload_n C dX12_mark_153 rfl 1 rfl ?_
      refine r_dup C dX12_mark_154 rfl ?_
      refine r_geti (f := 1235) C flX12_182 dX12_mark_155 kq_133 (by decide) (by decide) rfl ?_
      refine r_iconst (v := 1) C dX12_mark_158 (by decide) ?_
      refine r_iadd C dX12_mark_159 rfl ?_
      show Jr _ _ _ _ _ _ 160 _
      refine r_puti (f := 1235) C flX12_182 (by decide) rfl rfl dX12_mark_160 kq_133 rfl h (fun T3 h => ?_)
      refine r_aload_n C dX12_mark_163 rfl 1 rfl ?_
      refine r_dup C dX12_mark_164 rfl ?_
      refine r_geti (f := 1236) C flX12_195 dX12_mark_165 kq_133 (by decide) (by decide) rfl ?_
      refine r_iconst (v := 1) C dX12_mark_168 (by decide) ?_
      refine r_iadd C dX12_mark_169 rfl ?_
      show Jr _ _ _ _ _ _ 170 _
      refine r_puti (f := 1236) C flX12_195 (by decide) rfl rfl dX12_mark_170 kq_133 rfl h (fun T4 h => ?_)
      refine r_iconst (v := 1) C dX12_mark_173 (by decide) ?_
      exact r_zret C M dX12_mark_174 (by decide) h
    · refine r_aload_n C dX12_mark_135 rfl 1 rfl ?_
      refine r_iconst (v := 1) C dX12_mark_136 (by decide) ?_
      refine r_putz (f := 1233) C flX12_191 (by decide) rfl rfl (by decide) dX12_mark_137 kq_133 rfl h (fun T5 h => ?_)
      refine r_iconst (v := 0) C dX12_mark_140 (by decide) ?_
      exact r_zret C M dX12_mark_141 (by decide) h
noncomputable def f_X12_mark_83 (a13 : Int64) (b0 : Int64) (b1 : Int64) (T : Mm) : Option (Int32 × Mm) :=
  lb ((b1 - b0)) fun v1 =>
  if (lg_cmp a13 0) ≤ 0 then (f_X12_mark_109 0 T)
  else (if (lg_cmp v1 0) ≤ 0 then (f_X12_mark_109 0 T)
  else (f_X12_mark_109 (a13 * v1) T))
set_option maxRecDepth 100000 in
set_option maxHeartbeats 4000000 in
theorem s_X12_mark_83 {x : JX} {ad : Nat → Nat} {U : Mm} {S0 : Hp} {q : Int32 × Mm}  (hn9 : x_n x = 19) (C : CB x RX12 cX12_mark) (M : CMr x 3 (some .boolean) S0 ad false U eI q) (a13 : Int64) (b0 : Int64) (b1 : Int64) (T : Mm) (h : f_X12_mark_83  a13 b0 b1 T = some q) : Jr x ad false U T [(0, .ref (ad 133)), (13, .long a13)] 83 [.long b0, .long b1] := by
  unfold f_X12_mark_83 at h
  refine r_lsub C dX12_mark_83 rfl ?_
  refine r_lbJ h (fun v1 h => ?_)
  refine r_lstore (lv' := [(15, .long v1), (0, .ref (ad 133)), (13, .long a13)]) C dX12_mark_84 (by rw [hn9]; decide) rfl ?_
  refine r_lload C dX12_mark_86 2 rfl ?_
  refine r_lconst (v := 0) C dX12_mark_88 (by decide) ?_
  refine r_lcmp C dX12_mark_89 ?_
  show Jr _ _ _ _ _ _ 90 _
  refine r_if_le (tgt := 108) C dX12_mark_90 (by decide) h (fun h => ?_) (fun h => ?_)
  · refine r_lconst (v := 0) C dX12_mark_108 (by decide) ?_
    refine Jr.sub [1] (lv' := [(0, .ref (ad 133))]) rfl ?_
    exact s_X12_mark_109 hn9 C M  0 T h
  · refine r_lload C dX12_mark_93 0 rfl ?_
    refine r_lconst (v := 0) C dX12_mark_95 (by decide) ?_
    refine r_lcmp C dX12_mark_96 ?_
    refine r_if_le (tgt := 108) C dX12_mark_97 (by decide) h (fun h => ?_) (fun h => ?_)
    · refine r_lconst (v := 0) C dX12_mark_108 (by decide) ?_
      refine Jr.sub [1] (lv' := [(0, .ref (ad 133))]) rfl ?_
      exact s_X12_mark_109 hn9 C M  0 T h
    · refine r_lload C dX12_mark_100 2 rfl ?_
      refine r_lload C dX12_mark_102 0 rfl ?_
      refine r_lmul C dX12_mark_104 rfl ?_
      refine r_goto (tgt := 109) C dX12_mark_105 (by decide) ?_
      refine Jr.sub [1] (lv' := [(0, .ref (ad 133))]) rfl ?_
      exact s_X12_mark_109 hn9 C M  (a13 * v1) T h
noncomputable def f_X12_mark_67 (a3 : Int64) (a11 : Int64) (b0 : Int64) (b1 : Int64) (T : Mm) : Option (Int32 × Mm) :=
  lb ((b1 - b0)) fun v1 =>
  if (lg_cmp a3 0) ≤ 0 then (f_X12_mark_83 v1 0 a11 T)
  else (f_X12_mark_83 v1 a3 a11 T)
set_option maxRecDepth 100000 in
set_option maxHeartbeats 4000000 in
theorem s_X12_mark_67 {x : JX} {ad : Nat → Nat} {U : Mm} {S0 : Hp} {q : Int32 × Mm}  (hn9 : x_n x = 19) (C : CB x RX12 cX12_mark) (M : CMr x 3 (some .boolean) S0 ad false U eI q) (a3 : Int64) (a11 : Int64) (b0 : Int64) (b1 : Int64) (T : Mm) (h : f_X12_mark_67  a3 a11 b0 b1 T = some q) : Jr x ad false U T [(0, .ref (ad 133)), (3, .long a3), (11, .long a11)] 67 [.long b0, .long b1] := by
  unfold f_X12_mark_67 at h
  refine r_lsub C dX12_mark_67 rfl ?_
  refine r_lbJ h (fun v1 h => ?_)
  refine r_lstore (lv' := [(13, .long v1), (0, .ref (ad 133)), (3, .long a3), (11, .long a11)]) C dX12_mark_68 (by rw [hn9]; decide) rfl ?_
  refine r_lload C dX12_mark_70 3 rfl ?_
  refine r_lload_n C dX12_mark_72 rfl 2 rfl ?_
  refine r_lconst (v := 0) C dX12_mark_73 (by decide) ?_
  show Jr _ _ _ _ _ _ 74 _
  refine r_lcmp C dX12_mark_74 ?_
  refine r_if_le (tgt := 82) C dX12_mark_75 (by decide) h (fun h => ?_) (fun h => ?_)
  · refine r_lconst (v := 0) C dX12_mark_82 (by decide) ?_
    refine Jr.sub [1, 0] (lv' := [(0, .ref (ad 133)), (13, .long v1)]) rfl ?_
    exact s_X12_mark_83 hn9 C M  v1 0 a11 T h
  · refine r_lload_n C dX12_mark_78 rfl 2 rfl ?_
    refine r_goto (tgt := 83) C dX12_mark_79 (by decide) ?_
    refine Jr.sub [1, 0] (lv' := [(0, .ref (ad 133)), (13, .long v1)]) rfl ?_
    exact s_X12_mark_83 hn9 C M  v1 a3 a11 T h
noncomputable def f_X12_mark_52 (a1 : Int64) (a3 : Int64) (a9 : Int64) (b0 : Int64) (T : Mm) : Option (Int32 × Mm) :=
  if (lg_cmp a1 0) ≤ 0 then (f_X12_mark_67 a3 b0 0 a9 T)
  else (f_X12_mark_67 a3 b0 a1 a9 T)
set_option maxRecDepth 100000 in
set_option maxHeartbeats 4000000 in
theorem s_X12_mark_52 {x : JX} {ad : Nat → Nat} {U : Mm} {S0 : Hp} {q : Int32 × Mm}  (hn9 : x_n x = 19) (C : CB x RX12 cX12_mark) (M : CMr x 3 (some .boolean) S0 ad false U eI q) (a1 : Int64) (a3 : Int64) (a9 : Int64) (b0 : Int64) (T : Mm) (h : f_X12_mark_52  a1 a3 a9 b0 T = some q) : Jr x ad false U T [(0, .ref (ad 133)), (1, .long a1), (3, .long a3), (9, .long a9)] 52 [.long b0] := by
  unfold f_X12_mark_52 at h
  refine r_lstore (lv' := [(11, .long b0), (0, .ref (ad 133)), (1, .long a1), (3, .long a3), (9, .long a9)]) C dX12_mark_52 (by rw [hn9]; decide) rfl ?_
  refine r_lload C dX12_mark_54 4 rfl ?_
  refine r_lload_n C dX12_mark_56 rfl 2 rfl ?_
  refine r_lconst (v := 0) C dX12_mark_57 (by decide) ?_
  refine r_lcmp C dX12_mark_58 ?_
  show Jr _ _ _ _ _ _ 59 _
  refine r_if_le (tgt := 66) C dX12_mark_59 (by decide) h (fun h => ?_) (fun h => ?_)
  · refine r_lconst (v := 0) C dX12_mark_66 (by decide) ?_
    refine Jr.sub [1, 3, 0] (lv' := [(0, .ref (ad 133)), (3, .long a3), (11, .long b0)]) rfl ?_
    exact s_X12_mark_67 hn9 C M  a3 b0 0 a9 T h
  · refine r_lload_n C dX12_mark_62 rfl 2 rfl ?_
    refine r_goto (tgt := 67) C dX12_mark_63 (by decide) ?_
    refine Jr.sub [1, 3, 0] (lv' := [(0, .ref (ad 133)), (3, .long a3), (11, .long b0)]) rfl ?_
    exact s_X12_mark_67 hn9 C M  a3 b0 a1 a9 T h
noncomputable def f_X12_mark_25 (a1 : Int64) (a3 : Int64) (a7 : Int64) (b0 : Int64) (T : Mm) : Option (Int32 × Mm) :=
  bd (f_X12_high T) fun v1 T2 =>
  if 0 ≤ (lg_cmp (a3 + a7) ((v1).toInt64)) then (bd (f_X12_high T2) fun v3 T4 =>
  f_X12_mark_52 a1 a3 b0 ((v3).toInt64) T4)
  else (f_X12_mark_52 a1 a3 b0 (a3 + a7) T2)
set_option maxRecDepth 100000 in
set_option maxHeartbeats 4000000 in
theorem s_X12_mark_25 {x : JX} {ad : Nat → Nat} {U : Mm} {S0 : Hp} {q : Int32 × Mm}  (hn9 : x_n x = 19) (C : CB x RX12 cX12_mark) (M : CMr x 3 (some .boolean) S0 ad false U eI q) (a1 : Int64) (a3 : Int64) (a7 : Int64) (b0 : Int64) (T : Mm) (h : f_X12_mark_25  a1 a3 a7 b0 T = some q) : Jr x ad false U T [(0, .ref (ad 133)), (1, .long a1), (3, .long a3), (7, .long a7)] 25 [.long b0] := by
  unfold f_X12_mark_25 at h
  refine r_lstore (lv' := [(9, .long b0), (0, .ref (ad 133)), (1, .long a1), (3, .long a3), (7, .long a7)]) C dX12_mark_25 (by rw [hn9]; decide) rfl ?_
  refine r_lload_n C dX12_mark_27 rfl 3 rfl ?_
  refine r_lload C dX12_mark_28 4 rfl ?_
  refine r_ladd C dX12_mark_30 rfl ?_
  refine r_aload_n C dX12_mark_31 rfl 1 rfl ?_
  show Jr _ _ _ _ _ _ 32 _
  refine r_callVI C M h [] [.long (a3 + a7)] mlX12_176 mcX12_high (fun q9 e9 => s_X12_high   e9) kq_133 rfl (by decide) (by decide) rfl rfl (Nat.le_of_ble_eq_true rfl) dX12_mark_32 (fun v1 T2 h => ?_)
  refine r_i2l C dX12_mark_35 rfl ?_
  refine r_lcmp C dX12_mark_36 ?_
  refine r_if_ge (tgt := 47) C dX12_mark_37 (by decide) h (fun h => ?_) (fun h => ?_)
  · refine r_aload_n C dX12_mark_47 rfl 1 rfl ?_
    refine r_callVI C M h [] [] mlX12_176 mcX12_high (fun q9 e9 => s_X12_high   e9) kq_133 rfl (by decide) (by decide) rfl rfl (Nat.le_of_ble_eq_true rfl) dX12_mark_48 (fun v3 T4 h => ?_)
    refine r_i2l C dX12_mark_51 rfl ?_
    refine Jr.sub [1, 2, 3, 0] (lv' := [(0, .ref (ad 133)), (1, .long a1), (3, .long a3), (9, .long b0)]) rfl ?_
    exact s_X12_mark_52 hn9 C M  a1 a3 b0 ((v3).toInt64) T4 h
  · refine r_lload_n C dX12_mark_40 rfl 3 rfl ?_
    refine r_lload C dX12_mark_41 4 rfl ?_
    refine r_ladd C dX12_mark_43 rfl ?_
    refine r_goto (tgt := 52) C dX12_mark_44 (by decide) ?_
    refine Jr.sub [1, 2, 3, 0] (lv' := [(0, .ref (ad 133)), (1, .long a1), (3, .long a3), (9, .long b0)]) rfl ?_
    exact s_X12_mark_52 hn9 C M  a1 a3 b0 (a3 + a7) T2 h
noncomputable def f_X12_mark (p1 : Int64) (p3 : Int64) (p5 : Int64) (p7 : Int64) (T : Mm) : Option (Int32 × Mm) :=
  bd (f_X12_wide T) fun v1 T2 =>
  if 0 ≤ (lg_cmp (p1 + p5) ((v1).toInt64)) then (bd (f_X12_wide T2) fun v3 T4 =>
  f_X12_mark_25 p1 p3 p7 ((v3).toInt64) T4)
  else (f_X12_mark_25 p1 p3 p7 (p1 + p5) T2)
set_option maxRecDepth 100000 in
set_option maxHeartbeats 4000000 in
theorem s_X12_mark {ad : Nat → Nat} {U T : Mm} {q : Int32 × Mm}  (p1 : Int64) (p3 : Int64) (p5 : Int64) (p7 : Int64) (h : f_X12_mark p1 p3 p5 p7 T = some q) : Cr 3 yX12_mark cX12_mark 19 (some .boolean) [.ref (ad 133), .long p1, .long p3, .long p5, .long p7] ad false U T eI q := by
  refine cr_of (by decide) (Nat.le_of_ble_eq_true rfl) fun x S0 hn9 C M => ?_
  have C : CB x RX12 cX12_mark := C
  refine Jr.eq (lv' := [(0, .ref (ad 133)), (1, .long p1), (3, .long p3), (5, .long p5), (7, .long p7)]) (st' := []) rfl rfl ?_
  unfold f_X12_mark at h
  refine r_lload_n C dX12_mark_0 rfl 1 rfl ?_
  refine r_lload C dX12_mark_1 3 rfl ?_
  refine r_ladd C dX12_mark_3 rfl ?_
  refine r_aload_n C dX12_mark_4 rfl 0 rfl ?_
  refine r_callVI C M h [] [.long (p1 + p5)] mlX12_172 mcX12_wide (fun q9 e9 => s_X12_wide   e9) kq_133 rfl (by decide) (by decide) rfl rfl (Nat.le_of_ble_eq_true rfl) dX12_mark_5 (fun v1 T2 h => ?_)
  show Jr _ _ _ _ _ _ 8 _
  refine r_i2l C dX12_mark_8 rfl ?_
  refine r_lcmp C dX12_mark_9 ?_
  refine r_if_ge (tgt := 20) C dX12_mark_10 (by decide) h (fun h => ?_) (fun h => ?_)
  · refine r_aload_n C dX12_mark_20 rfl 0 rfl ?_
    refine r_callVI C M h [] [] mlX12_172 mcX12_wide (fun q9 e9 => s_X12_wide   e9) kq_133 rfl (by decide) (by decide) rfl rfl (Nat.le_of_ble_eq_true rfl) dX12_mark_21 (fun v3 T4 h => ?_)
    refine r_i2l C dX12_mark_24 rfl ?_
    refine Jr.sub [0, 1, 2, 4] (lv' := [(0, .ref (ad 133)), (1, .long p1), (3, .long p3), (7, .long p7)]) rfl ?_
    exact s_X12_mark_25 hn9 C M  p1 p3 p7 ((v3).toInt64) T4 h
  · refine r_lload_n C dX12_mark_13 rfl 1 rfl ?_
    refine r_lload C dX12_mark_14 3 rfl ?_
    refine r_ladd C dX12_mark_16 rfl ?_
    refine r_goto (tgt := 25) C dX12_mark_17 (by decide) ?_
    refine Jr.sub [0, 1, 2, 4] (lv' := [(0, .ref (ad 133)), (1, .long p1), (3, .long p3), (7, .long p7)]) rfl ?_
    exact s_X12_mark_25 hn9 C M  p1 p3 p7 (p1 + p5) T2 h
theorem dX12_useAtHand_0 : decode cX12_useAtHand 0 = .ok (.iconst 0, 1) := by decide +kernel
theorem dX12_useAtHand_1 : decode cX12_useAtHand 1 = .ok (.istore_n 1, 1) := by decide +kernel
theorem dX12_useAtHand_2 : decode cX12_useAtHand 2 = .ok (.iload_n 1, 1) := by decide +kernel
theorem dX12_useAtHand_3 : decode cX12_useAtHand 3 = .ok (.bipush 20, 2) := by decide +kernel
theorem dX12_useAtHand_5 : decode cX12_useAtHand 5 = .ok (.if_icmp .ge 24, 3) := by decide +kernel
theorem dX12_useAtHand_8 : decode cX12_useAtHand 8 = .ok (.aload_n 0, 1) := by decide +kernel
theorem dX12_useAtHand_9 : decode cX12_useAtHand 9 = .ok (.getfield 102, 3) := by decide +kernel
theorem dX12_useAtHand_12 : decode cX12_useAtHand 12 = .ok (.iload_n 1, 1) := by decide +kernel
theorem dX12_useAtHand_13 : decode cX12_useAtHand 13 = .ok (.aload_n 0, 1) := by decide +kernel
theorem dX12_useAtHand_14 : decode cX12_useAtHand 14 = .ok (.getfield 9, 3) := by decide +kernel
theorem dX12_useAtHand_17 : decode cX12_useAtHand 17 = .ok (.bipush 29, 2) := by decide +kernel
theorem dX12_useAtHand_19 : decode cX12_useAtHand 19 = .ok (.iload_n 1, 1) := by decide +kernel
theorem dX12_useAtHand_20 : decode cX12_useAtHand 20 = .ok (.iadd, 1) := by decide +kernel
theorem dX12_useAtHand_21 : decode cX12_useAtHand 21 = .ok (.iaload, 1) := by decide +kernel
theorem dX12_useAtHand_22 : decode cX12_useAtHand 22 = .ok (.iastore, 1) := by decide +kernel
theorem dX12_useAtHand_23 : decode cX12_useAtHand 23 = .ok (.iinc 1 1, 3) := by decide +kernel
theorem dX12_useAtHand_26 : decode cX12_useAtHand 26 = .ok (.goto (-24), 3) := by decide +kernel
theorem dX12_useAtHand_29 : decode cX12_useAtHand 29 = .ok (.return_, 1) := by decide +kernel
noncomputable def f_X12_useAtHand_b2 (k2 : Int32 → Mm → Option (Unit × Mm)) (a1 : Int32) (T : Mm) : Option (Unit × Mm) :=
  if 20 ≤ a1 then (some ((), T))
  else (ix ((29 : Int32) + a1) 192 fun j1 =>
  ix a1 20 fun j3 => lb (uA T 163 j3 ((gA T 134 j1))) fun T5 =>
  k2 (a1 + 1) T5)
set_option maxRecDepth 100000 in
set_option maxHeartbeats 4000000 in
theorem s_X12_useAtHand_b2 {x : JX} {ad : Nat → Nat} {U : Mm} {S0 : Hp} {q : Unit × Mm}  {k2 : Int32 → Mm → Option (Unit × Mm)} (hn9 : x_n x = 2) (C : CB x RX12 cX12_useAtHand) (M : CMr x 1 none S0 ad false U eV q) (hk2 : ∀ (a1 : Int32) (T : Mm), k2 a1 T = some q → Jr x ad false U T [(0, .ref (ad 133)), (1, .int a1)] 2 []) (a1 : Int32) (T : Mm) (h : f_X12_useAtHand_b2 k2 a1 T = some q) : Jr x ad false U T [(0, .ref (ad 133)), (1, .int a1)] 2 [] := by
  unfold f_X12_useAtHand_b2 at h
  refine r_iload_n C dX12_useAtHand_2 rfl 1 rfl ?_
  refine r_bipush (v := 20) C dX12_useAtHand_3 (by decide) ?_
  refine r_ic_ge (tgt := 29) C dX12_useAtHand_5 (by decide) h (fun h => ?_) (fun h => ?_)
  · exact r_vret C M dX12_useAtHand_29 h
  · refine r_aload_n C dX12_useAtHand_8 rfl 0 rfl ?_
    refine r_getp (f := 1248) (j := 163) C flX12_102 dX12_useAtHand_9 kq_133 (by decide) rfl (fun W => pt_1248 kq_133 W) ?_
    refine r_iload_n C dX12_useAtHand_12 rfl 1 rfl ?_
    refine r_aload_n C dX12_useAtHand_13 rfl 0 rfl ?_
    refine r_getp (f := 1200) (j := 134) C flX12_9 dX12_useAtHand_14 kq_133 (by decide) rfl (fun W => pt_1200 kq_133 W) ?_
    show Jr _ _ _ _ _ _ 17 _
    refine r_bipush (v := 29) C dX12_useAtHand_17 (by decide) ?_
    refine r_iload_n C dX12_useAtHand_19 rfl 1 rfl ?_
    refine r_iadd C dX12_useAtHand_20 rfl ?_
    refine r_iald (n := 192) C dX12_useAtHand_21 kq_134 lq_134 h (fun j1 hj2 h => ?_)
    refine r_iast (n := 20) C dX12_useAtHand_22 kq_163 lq_163 h (fun j3 T5 hj4 h => ?_)
    refine r_iinc (q := 1) (v := (a1 + 1)) (lv' := [(1, .int (a1 + 1)), (0, .ref (ad 133))]) C dX12_useAtHand_23 rfl (by rw [show Int32.ofInt (1) = 1 by decide]) (by rw [hn9]; decide) rfl ?_
    show Jr _ _ _ _ _ _ 26 _
    refine r_goto (tgt := 2) C dX12_useAtHand_26 (by decide) ?_
    refine Jr.sub [1, 0] (lv' := [(0, .ref (ad 133)), (1, .int (a1 + 1))]) rfl ?_
    exact hk2 (a1 + 1) T5 h
noncomputable def f_X12_useAtHand_l2 (n : Nat) : Int32 → Mm → Option (Unit × Mm) := Nat.rec (fun _ _ => none) (fun _ ih => f_X12_useAtHand_b2 ih) n
theorem s_X12_useAtHand_l2 {x : JX} {ad : Nat → Nat} {U : Mm} {S0 : Hp} {q : Unit × Mm}  (hn9 : x_n x = 2) (C : CB x RX12 cX12_useAtHand) (M : CMr x 1 none S0 ad false U eV q) : ∀ (n : Nat), ∀ (a1 : Int32) (T : Mm), f_X12_useAtHand_l2  n a1 T = some q → Jr x ad false U T [(0, .ref (ad 133)), (1, .int a1)] 2 [] := by
  intro n
  induction n with
  | zero => intro a1 T  h; exact absurd h (by intro h; cases h)
  | succ n ih => exact fun a1 T  h => s_X12_useAtHand_b2 hn9 C M (ih) a1 T  h
noncomputable def f_X12_useAtHand (T : Mm) : Option (Unit × Mm) :=
  f_X12_useAtHand_l2 FU 0 T
set_option maxRecDepth 100000 in
set_option maxHeartbeats 4000000 in
theorem s_X12_useAtHand {ad : Nat → Nat} {U T : Mm} {q : Unit × Mm}  (h : f_X12_useAtHand  T = some q) : Cr 1 yX12_useAtHand cX12_useAtHand 2 none [.ref (ad 133)] ad false U T eV q := by
  refine cr_of (by decide) (Nat.le_of_ble_eq_true rfl) fun x S0 hn9 C M => ?_
  have C : CB x RX12 cX12_useAtHand := C
  refine Jr.eq (lv' := [(0, .ref (ad 133))]) (st' := []) rfl rfl ?_
  unfold f_X12_useAtHand at h
  refine r_iconst (v := 0) C dX12_useAtHand_0 (by decide) ?_
  refine r_istore_n (lv' := [(1, .int 0), (0, .ref (ad 133))]) C dX12_useAtHand_1 rfl (by rw [hn9]; decide) rfl ?_
  refine Jr.sub [1, 0] (lv' := [(0, .ref (ad 133)), (1, .int 0)]) rfl ?_
  exact s_X12_useAtHand_l2 hn9 C M  FU 0 T h
theorem dX12_modulo_0 : decode cX12_modulo 0 = .ok (.iload_n 0, 1) := by decide +kernel
theorem dX12_modulo_1 : decode cX12_modulo 1 = .ok (.iload_n 1, 1) := by decide +kernel
theorem dX12_modulo_2 : decode cX12_modulo 2 = .ok (.irem, 1) := by decide +kernel
theorem dX12_modulo_3 : decode cX12_modulo 3 = .ok (.istore_n 2, 1) := by decide +kernel
theorem dX12_modulo_4 : decode cX12_modulo 4 = .ok (.iload_n 2, 1) := by decide +kernel
theorem dX12_modulo_5 : decode cX12_modulo 5 = .ok (.ifCond .ge 9, 3) := by decide +kernel
theorem dX12_modulo_8 : decode cX12_modulo 8 = .ok (.iload_n 2, 1) := by decide +kernel
theorem dX12_modulo_9 : decode cX12_modulo 9 = .ok (.iload_n 1, 1) := by decide +kernel
theorem dX12_modulo_10 : decode cX12_modulo 10 = .ok (.iadd, 1) := by decide +kernel
theorem dX12_modulo_11 : decode cX12_modulo 11 = .ok (.goto 4, 3) := by decide +kernel
theorem dX12_modulo_14 : decode cX12_modulo 14 = .ok (.iload_n 2, 1) := by decide +kernel
theorem dX12_modulo_15 : decode cX12_modulo 15 = .ok (.ireturn, 1) := by decide +kernel
noncomputable def f_X12_modulo (p0 : Int32) (p1 : Int32) (T : Mm) : Option (Int32 × Mm) :=
  gd (¬ p1 = 0) <|
  lb ((p0 - p0 / p1 * p1)) fun v2 =>
  if 0 ≤ v2 then (some (v2, T))
  else (some ((v2 + p1), T))
set_option maxRecDepth 100000 in
set_option maxHeartbeats 4000000 in
theorem s_X12_modulo {ad : Nat → Nat} {U T : Mm} {q : Int32 × Mm}  (p0 : Int32) (p1 : Int32) (h : f_X12_modulo p0 p1 T = some q) : Cr 1 yX12_modulo cX12_modulo 3 (some .int) [.int p0, .int p1] ad false U T eI q := by
  refine cr_of (by decide) (Nat.le_of_ble_eq_true rfl) fun x S0 hn9 C M => ?_
  have C : CB x RX12 cX12_modulo := C
  refine Jr.eq (lv' := [(0, .int p0), (1, .int p1)]) (st' := []) rfl rfl ?_
  unfold f_X12_modulo at h
  refine r_iload_n C dX12_modulo_0 rfl 0 rfl ?_
  refine r_iload_n C dX12_modulo_1 rfl 1 rfl ?_
  refine r_gd h (fun hz1 h => ?_)
  refine r_irem C dX12_modulo_2 hz1 rfl ?_
  refine r_lbI h (fun v2 h => ?_)
  refine r_istore_n (lv' := [(2, .int v2), (0, .int p0), (1, .int p1)]) C dX12_modulo_3 rfl (by rw [hn9]; decide) rfl ?_
  refine r_iload_n C dX12_modulo_4 rfl 0 rfl ?_
  show Jr _ _ _ _ _ _ 5 _
  refine r_if_ge (tgt := 14) C dX12_modulo_5 (by decide) h (fun h => ?_) (fun h => ?_)
  · refine r_iload_n C dX12_modulo_14 rfl 0 rfl ?_
    exact r_iret C M dX12_modulo_15 h
  · refine r_iload_n C dX12_modulo_8 rfl 0 rfl ?_
    refine r_iload_n C dX12_modulo_9 rfl 2 rfl ?_
    refine r_iadd C dX12_modulo_10 rfl ?_
    refine r_goto (tgt := 15) C dX12_modulo_11 (by decide) ?_
    exact r_iret C M dX12_modulo_15 h
theorem dX12_shadeOf_0 : decode cX12_shadeOf 0 = .ok (.iconst 4, 1) := by decide +kernel
theorem dX12_shadeOf_1 : decode cX12_shadeOf 1 = .ok (.iload_n 1, 1) := by decide +kernel
theorem dX12_shadeOf_2 : decode cX12_shadeOf 2 = .ok (.imul, 1) := by decide +kernel
theorem dX12_shadeOf_3 : decode cX12_shadeOf 3 = .ok (.iload_n 0, 1) := by decide +kernel
theorem dX12_shadeOf_4 : decode cX12_shadeOf 4 = .ok (.iadd, 1) := by decide +kernel
theorem dX12_shadeOf_5 : decode cX12_shadeOf 5 = .ok (.istore_n 2, 1) := by decide +kernel
theorem dX12_shadeOf_6 : decode cX12_shadeOf 6 = .ok (.ldc2_w 163, 3) := by decide +kernel
theorem dX12_shadeOf_9 : decode cX12_shadeOf 9 = .ok (.lstore_n 3, 1) := by decide +kernel
theorem dX12_shadeOf_10 : decode cX12_shadeOf 10 = .ok (.lload_n 3, 1) := by decide +kernel
theorem dX12_shadeOf_11 : decode cX12_shadeOf 11 = .ok (.bipush 60, 2) := by decide +kernel
theorem dX12_shadeOf_13 : decode cX12_shadeOf 13 = .ok (.iconst 4, 1) := by decide +kernel
theorem dX12_shadeOf_14 : decode cX12_shadeOf 14 = .ok (.iload_n 2, 1) := by decide +kernel
theorem dX12_shadeOf_15 : decode cX12_shadeOf 15 = .ok (.imul, 1) := by decide +kernel
theorem dX12_shadeOf_16 : decode cX12_shadeOf 16 = .ok (.isub, 1) := by decide +kernel
theorem dX12_shadeOf_17 : decode cX12_shadeOf 17 = .ok (.lshr, 1) := by decide +kernel
theorem dX12_shadeOf_18 : decode cX12_shadeOf 18 = .ok (.l2i, 1) := by decide +kernel
theorem dX12_shadeOf_19 : decode cX12_shadeOf 19 = .ok (.bipush 15, 2) := by decide +kernel
theorem dX12_shadeOf_21 : decode cX12_shadeOf 21 = .ok (.iand, 1) := by decide +kernel
theorem dX12_shadeOf_22 : decode cX12_shadeOf 22 = .ok (.ireturn, 1) := by decide +kernel
noncomputable def f_X12_shadeOf (p0 : Int32) (p1 : Int32) (T : Mm) : Option (Int32 × Mm) :=
  lb ((((4 : Int32) * p1) + p0)) fun v1 =>
  some ((((((588499194438350805 : Int64) >>> ((((60 : Int32) - ((4 : Int32) * v1)) : Int32).toInt64 &&& 63))).toInt32) &&& 15), T)
set_option maxRecDepth 100000 in
set_option maxHeartbeats 4000000 in
theorem s_X12_shadeOf {ad : Nat → Nat} {U T : Mm} {q : Int32 × Mm}  (p0 : Int32) (p1 : Int32) (h : f_X12_shadeOf p0 p1 T = some q) : Cr 1 yX12_shadeOf cX12_shadeOf 5 (some .int) [.int p0, .int p1] ad false U T eI q := by
  refine cr_of (by decide) (Nat.le_of_ble_eq_true rfl) fun x S0 hn9 C M => ?_
  have C : CB x RX12 cX12_shadeOf := C
  refine Jr.eq (lv' := [(0, .int p0), (1, .int p1)]) (st' := []) rfl rfl ?_
  unfold f_X12_shadeOf at h
  refine r_iconst (v := 4) C dX12_shadeOf_0 (by decide) ?_
  refine r_iload_n C dX12_shadeOf_1 rfl 1 rfl ?_
  refine r_imul C dX12_shadeOf_2 rfl ?_
  refine r_iload_n C dX12_shadeOf_3 rfl 0 rfl ?_
  refine r_iadd C dX12_shadeOf_4 rfl ?_
  show Jr _ _ _ _ _ _ 5 _
  refine r_lbI h (fun v1 h => ?_)
  refine r_istore_n (lv' := [(2, .int v1), (0, .int p0), (1, .int p1)]) C dX12_shadeOf_5 rfl (by rw [hn9]; decide) rfl ?_
  refine r_ldc2 (v := 588499194438350805) C dX12_shadeOf_6 kcX12_163 ?_
  refine r_lstore_n (lv' := [(3, .long 588499194438350805), (2, .int v1), (0, .int p0), (1, .int p1)]) C dX12_shadeOf_9 rfl (by rw [hn9]; decide) rfl ?_
  refine r_lload_n C dX12_shadeOf_10 rfl 0 rfl ?_
  refine r_bipush (v := 60) C dX12_shadeOf_11 (by decide) ?_
  refine r_iconst (v := 4) C dX12_shadeOf_13 (by decide) ?_
  show Jr _ _ _ _ _ _ 14 _
  refine r_iload_n C dX12_shadeOf_14 rfl 1 rfl ?_
  refine r_imul C dX12_shadeOf_15 rfl ?_
  refine r_isub C dX12_shadeOf_16 rfl ?_
  refine r_lshr C dX12_shadeOf_17 rfl ?_
  refine r_l2i C dX12_shadeOf_18 rfl ?_
  refine r_bipush (v := 15) C dX12_shadeOf_19 (by decide) ?_
  show Jr _ _ _ _ _ _ 21 _
  refine r_iand C dX12_shadeOf_21 rfl ?_
  exact r_iret C M dX12_shadeOf_22 h
theorem dX12_patternAt_0 : decode cX12_patternAt 0 = .ok (.iload_n 1, 1) := by decide +kernel
theorem dX12_patternAt_1 : decode cX12_patternAt 1 = .ok (.aload_n 0, 1) := by decide +kernel
theorem dX12_patternAt_2 : decode cX12_patternAt 2 = .ok (.getfield 9, 3) := by decide +kernel
theorem dX12_patternAt_5 : decode cX12_patternAt 5 = .ok (.bipush 51, 2) := by decide +kernel
theorem dX12_patternAt_7 : decode cX12_patternAt 7 = .ok (.iaload, 1) := by decide +kernel
theorem dX12_patternAt_8 : decode cX12_patternAt 8 = .ok (.isub, 1) := by decide +kernel
theorem dX12_patternAt_9 : decode cX12_patternAt 9 = .ok (.istore_n 3, 1) := by decide +kernel
theorem dX12_patternAt_10 : decode cX12_patternAt 10 = .ok (.iload_n 2, 1) := by decide +kernel
theorem dX12_patternAt_11 : decode cX12_patternAt 11 = .ok (.aload_n 0, 1) := by decide +kernel
theorem dX12_patternAt_12 : decode cX12_patternAt 12 = .ok (.getfield 9, 3) := by decide +kernel
theorem dX12_patternAt_15 : decode cX12_patternAt 15 = .ok (.bipush 52, 2) := by decide +kernel
theorem dX12_patternAt_17 : decode cX12_patternAt 17 = .ok (.iaload, 1) := by decide +kernel
theorem dX12_patternAt_18 : decode cX12_patternAt 18 = .ok (.isub, 1) := by decide +kernel
theorem dX12_patternAt_19 : decode cX12_patternAt 19 = .ok (.istore 4, 2) := by decide +kernel
theorem dX12_patternAt_21 : decode cX12_patternAt 21 = .ok (.aload_n 0, 1) := by decide +kernel
theorem dX12_patternAt_22 : decode cX12_patternAt 22 = .ok (.getfield 102, 3) := by decide +kernel
theorem dX12_patternAt_25 : decode cX12_patternAt 25 = .ok (.iconst 0, 1) := by decide +kernel
theorem dX12_patternAt_26 : decode cX12_patternAt 26 = .ok (.iaload, 1) := by decide +kernel
theorem dX12_patternAt_27 : decode cX12_patternAt 27 = .ok (.ifCond .ne 5, 3) := by decide +kernel
theorem dX12_patternAt_30 : decode cX12_patternAt 30 = .ok (.iconst 1, 1) := by decide +kernel
theorem dX12_patternAt_31 : decode cX12_patternAt 31 = .ok (.ireturn, 1) := by decide +kernel
theorem dX12_patternAt_32 : decode cX12_patternAt 32 = .ok (.aload_n 0, 1) := by decide +kernel
theorem dX12_patternAt_33 : decode cX12_patternAt 33 = .ok (.getfield 102, 3) := by decide +kernel
theorem dX12_patternAt_36 : decode cX12_patternAt 36 = .ok (.iconst 0, 1) := by decide +kernel
theorem dX12_patternAt_37 : decode cX12_patternAt 37 = .ok (.iaload, 1) := by decide +kernel
theorem dX12_patternAt_38 : decode cX12_patternAt 38 = .ok (.iconst 1, 1) := by decide +kernel
theorem dX12_patternAt_39 : decode cX12_patternAt 39 = .ok (.if_icmp .ne 5, 3) := by decide +kernel
theorem dX12_patternAt_42 : decode cX12_patternAt 42 = .ok (.iconst 0, 1) := by decide +kernel
theorem dX12_patternAt_43 : decode cX12_patternAt 43 = .ok (.ireturn, 1) := by decide +kernel
theorem dX12_patternAt_44 : decode cX12_patternAt 44 = .ok (.aload_n 0, 1) := by decide +kernel
theorem dX12_patternAt_45 : decode cX12_patternAt 45 = .ok (.getfield 102, 3) := by decide +kernel
theorem dX12_patternAt_48 : decode cX12_patternAt 48 = .ok (.iconst 0, 1) := by decide +kernel
theorem dX12_patternAt_49 : decode cX12_patternAt 49 = .ok (.iaload, 1) := by decide +kernel
theorem dX12_patternAt_50 : decode cX12_patternAt 50 = .ok (.iconst 2, 1) := by decide +kernel
theorem dX12_patternAt_51 : decode cX12_patternAt 51 = .ok (.if_icmp .ne 38, 3) := by decide +kernel
theorem dX12_patternAt_54 : decode cX12_patternAt 54 = .ok (.bipush 100, 2) := by decide +kernel
theorem dX12_patternAt_56 : decode cX12_patternAt 56 = .ok (.iload_n 3, 1) := by decide +kernel
theorem dX12_patternAt_57 : decode cX12_patternAt 57 = .ok (.iconst 4, 1) := by decide +kernel
theorem dX12_patternAt_58 : decode cX12_patternAt 58 = .ok (.invokestatic 165, 3) := by decide +kernel
theorem dX12_patternAt_61 : decode cX12_patternAt 61 = .ok (.iload 4, 2) := by decide +kernel
theorem dX12_patternAt_63 : decode cX12_patternAt 63 = .ok (.iconst 4, 1) := by decide +kernel
theorem dX12_patternAt_64 : decode cX12_patternAt 64 = .ok (.invokestatic 165, 3) := by decide +kernel
theorem dX12_patternAt_67 : decode cX12_patternAt 67 = .ok (.invokestatic 169, 3) := by decide +kernel
theorem dX12_patternAt_70 : decode cX12_patternAt 70 = .ok (.imul, 1) := by decide +kernel
theorem dX12_patternAt_71 : decode cX12_patternAt 71 = .ok (.bipush 16, 2) := by decide +kernel
theorem dX12_patternAt_73 : decode cX12_patternAt 73 = .ok (.aload_n 0, 1) := by decide +kernel
theorem dX12_patternAt_74 : decode cX12_patternAt 74 = .ok (.getfield 102, 3) := by decide +kernel
theorem dX12_patternAt_77 : decode cX12_patternAt 77 = .ok (.iconst 1, 1) := by decide +kernel
theorem dX12_patternAt_78 : decode cX12_patternAt 78 = .ok (.iaload, 1) := by decide +kernel
theorem dX12_patternAt_79 : decode cX12_patternAt 79 = .ok (.imul, 1) := by decide +kernel
theorem dX12_patternAt_80 : decode cX12_patternAt 80 = .ok (.if_icmp .ge 7, 3) := by decide +kernel
theorem dX12_patternAt_83 : decode cX12_patternAt 83 = .ok (.iconst 1, 1) := by decide +kernel
theorem dX12_patternAt_84 : decode cX12_patternAt 84 = .ok (.goto 4, 3) := by decide +kernel
theorem dX12_patternAt_87 : decode cX12_patternAt 87 = .ok (.iconst 0, 1) := by decide +kernel
theorem dX12_patternAt_88 : decode cX12_patternAt 88 = .ok (.ireturn, 1) := by decide +kernel
theorem dX12_patternAt_89 : decode cX12_patternAt 89 = .ok (.aload_n 0, 1) := by decide +kernel
theorem dX12_patternAt_90 : decode cX12_patternAt 90 = .ok (.getfield 102, 3) := by decide +kernel
theorem dX12_patternAt_93 : decode cX12_patternAt 93 = .ok (.iconst 0, 1) := by decide +kernel
theorem dX12_patternAt_94 : decode cX12_patternAt 94 = .ok (.iaload, 1) := by decide +kernel
theorem dX12_patternAt_95 : decode cX12_patternAt 95 = .ok (.iconst 3, 1) := by decide +kernel
theorem dX12_patternAt_96 : decode cX12_patternAt 96 = .ok (.if_icmp .ne 178, 3) := by decide +kernel
theorem dX12_patternAt_99 : decode cX12_patternAt 99 = .ok (.iload 4, 2) := by decide +kernel
theorem dX12_patternAt_101 : decode cX12_patternAt 101 = .ok (.bipush 8, 2) := by decide +kernel
theorem dX12_patternAt_103 : decode cX12_patternAt 103 = .ok (.invokestatic 165, 3) := by decide +kernel
theorem dX12_patternAt_106 : decode cX12_patternAt 106 = .ok (.ifCond .ne 7, 3) := by decide +kernel
theorem dX12_patternAt_109 : decode cX12_patternAt 109 = .ok (.iconst 1, 1) := by decide +kernel
theorem dX12_patternAt_110 : decode cX12_patternAt 110 = .ok (.goto 4, 3) := by decide +kernel
theorem dX12_patternAt_113 : decode cX12_patternAt 113 = .ok (.iconst 0, 1) := by decide +kernel
theorem dX12_patternAt_114 : decode cX12_patternAt 114 = .ok (.istore 5, 2) := by decide +kernel
theorem dX12_patternAt_116 : decode cX12_patternAt 116 = .ok (.iload_n 3, 1) := by decide +kernel
theorem dX12_patternAt_117 : decode cX12_patternAt 117 = .ok (.bipush 8, 2) := by decide +kernel
theorem dX12_patternAt_119 : decode cX12_patternAt 119 = .ok (.invokestatic 165, 3) := by decide +kernel
theorem dX12_patternAt_122 : decode cX12_patternAt 122 = .ok (.ifCond .ne 7, 3) := by decide +kernel
theorem dX12_patternAt_125 : decode cX12_patternAt 125 = .ok (.iconst 1, 1) := by decide +kernel
theorem dX12_patternAt_126 : decode cX12_patternAt 126 = .ok (.goto 4, 3) := by decide +kernel
theorem dX12_patternAt_129 : decode cX12_patternAt 129 = .ok (.iconst 0, 1) := by decide +kernel
theorem dX12_patternAt_130 : decode cX12_patternAt 130 = .ok (.istore 6, 2) := by decide +kernel
theorem dX12_patternAt_132 : decode cX12_patternAt 132 = .ok (.iload_n 3, 1) := by decide +kernel
theorem dX12_patternAt_133 : decode cX12_patternAt 133 = .ok (.iload 4, 2) := by decide +kernel
theorem dX12_patternAt_135 : decode cX12_patternAt 135 = .ok (.iadd, 1) := by decide +kernel
theorem dX12_patternAt_136 : decode cX12_patternAt 136 = .ok (.bipush 8, 2) := by decide +kernel
theorem dX12_patternAt_138 : decode cX12_patternAt 138 = .ok (.invokestatic 165, 3) := by decide +kernel
theorem dX12_patternAt_141 : decode cX12_patternAt 141 = .ok (.ifCond .ne 7, 3) := by decide +kernel
theorem dX12_patternAt_144 : decode cX12_patternAt 144 = .ok (.iconst 1, 1) := by decide +kernel
theorem dX12_patternAt_145 : decode cX12_patternAt 145 = .ok (.goto 4, 3) := by decide +kernel
theorem dX12_patternAt_148 : decode cX12_patternAt 148 = .ok (.iconst 0, 1) := by decide +kernel
theorem dX12_patternAt_149 : decode cX12_patternAt 149 = .ok (.istore 7, 2) := by decide +kernel
theorem dX12_patternAt_151 : decode cX12_patternAt 151 = .ok (.iload_n 3, 1) := by decide +kernel
theorem dX12_patternAt_152 : decode cX12_patternAt 152 = .ok (.iload 4, 2) := by decide +kernel
theorem dX12_patternAt_154 : decode cX12_patternAt 154 = .ok (.isub, 1) := by decide +kernel
theorem dX12_patternAt_155 : decode cX12_patternAt 155 = .ok (.bipush 8, 2) := by decide +kernel
theorem dX12_patternAt_157 : decode cX12_patternAt 157 = .ok (.invokestatic 165, 3) := by decide +kernel
theorem dX12_patternAt_160 : decode cX12_patternAt 160 = .ok (.ifCond .ne 7, 3) := by decide +kernel
theorem dX12_patternAt_163 : decode cX12_patternAt 163 = .ok (.iconst 1, 1) := by decide +kernel
theorem dX12_patternAt_164 : decode cX12_patternAt 164 = .ok (.goto 4, 3) := by decide +kernel
theorem dX12_patternAt_167 : decode cX12_patternAt 167 = .ok (.iconst 0, 1) := by decide +kernel
theorem dX12_patternAt_168 : decode cX12_patternAt 168 = .ok (.istore 8, 2) := by decide +kernel
theorem dX12_patternAt_170 : decode cX12_patternAt 170 = .ok (.aload_n 0, 1) := by decide +kernel
theorem dX12_patternAt_171 : decode cX12_patternAt 171 = .ok (.getfield 102, 3) := by decide +kernel
theorem dX12_patternAt_174 : decode cX12_patternAt 174 = .ok (.iconst 1, 1) := by decide +kernel
theorem dX12_patternAt_175 : decode cX12_patternAt 175 = .ok (.iaload, 1) := by decide +kernel
theorem dX12_patternAt_176 : decode cX12_patternAt 176 = .ok (.istore 9, 2) := by decide +kernel
theorem dX12_patternAt_178 : decode cX12_patternAt 178 = .ok (.iload 9, 2) := by decide +kernel
theorem dX12_patternAt_180 : decode cX12_patternAt 180 = .ok (.iconst 1, 1) := by decide +kernel
theorem dX12_patternAt_181 : decode cX12_patternAt 181 = .ok (.if_icmp .ne 8, 3) := by decide +kernel
theorem dX12_patternAt_184 : decode cX12_patternAt 184 = .ok (.iload 5, 2) := by decide +kernel
theorem dX12_patternAt_186 : decode cX12_patternAt 186 = .ok (.goto 75, 3) := by decide +kernel
theorem dX12_patternAt_189 : decode cX12_patternAt 189 = .ok (.iload 9, 2) := by decide +kernel
theorem dX12_patternAt_191 : decode cX12_patternAt 191 = .ok (.iconst 2, 1) := by decide +kernel
theorem dX12_patternAt_192 : decode cX12_patternAt 192 = .ok (.if_icmp .ne 8, 3) := by decide +kernel
theorem dX12_patternAt_195 : decode cX12_patternAt 195 = .ok (.iload 6, 2) := by decide +kernel
theorem dX12_patternAt_197 : decode cX12_patternAt 197 = .ok (.goto 64, 3) := by decide +kernel
theorem dX12_patternAt_200 : decode cX12_patternAt 200 = .ok (.iload 9, 2) := by decide +kernel
theorem dX12_patternAt_202 : decode cX12_patternAt 202 = .ok (.iconst 3, 1) := by decide +kernel
theorem dX12_patternAt_203 : decode cX12_patternAt 203 = .ok (.if_icmp .ne 8, 3) := by decide +kernel
theorem dX12_patternAt_206 : decode cX12_patternAt 206 = .ok (.iload 7, 2) := by decide +kernel
theorem dX12_patternAt_208 : decode cX12_patternAt 208 = .ok (.goto 53, 3) := by decide +kernel
theorem dX12_patternAt_211 : decode cX12_patternAt 211 = .ok (.iload 9, 2) := by decide +kernel
theorem dX12_patternAt_213 : decode cX12_patternAt 213 = .ok (.iconst 4, 1) := by decide +kernel
theorem dX12_patternAt_214 : decode cX12_patternAt 214 = .ok (.if_icmp .ne 8, 3) := by decide +kernel
theorem dX12_patternAt_217 : decode cX12_patternAt 217 = .ok (.iload 8, 2) := by decide +kernel
theorem dX12_patternAt_219 : decode cX12_patternAt 219 = .ok (.goto 42, 3) := by decide +kernel
theorem dX12_patternAt_222 : decode cX12_patternAt 222 = .ok (.iload 9, 2) := by decide +kernel
theorem dX12_patternAt_224 : decode cX12_patternAt 224 = .ok (.iconst 5, 1) := by decide +kernel
theorem dX12_patternAt_225 : decode cX12_patternAt 225 = .ok (.if_icmp .ne 21, 3) := by decide +kernel
theorem dX12_patternAt_228 : decode cX12_patternAt 228 = .ok (.iload 6, 2) := by decide +kernel
theorem dX12_patternAt_230 : decode cX12_patternAt 230 = .ok (.ifCond .ne 8, 3) := by decide +kernel
theorem dX12_patternAt_233 : decode cX12_patternAt 233 = .ok (.iload 5, 2) := by decide +kernel
theorem dX12_patternAt_235 : decode cX12_patternAt 235 = .ok (.ifCond .eq 7, 3) := by decide +kernel
theorem dX12_patternAt_238 : decode cX12_patternAt 238 = .ok (.iconst 1, 1) := by decide +kernel
theorem dX12_patternAt_239 : decode cX12_patternAt 239 = .ok (.goto 22, 3) := by decide +kernel
theorem dX12_patternAt_242 : decode cX12_patternAt 242 = .ok (.iconst 0, 1) := by decide +kernel
theorem dX12_patternAt_243 : decode cX12_patternAt 243 = .ok (.goto 18, 3) := by decide +kernel
theorem dX12_patternAt_246 : decode cX12_patternAt 246 = .ok (.iload 7, 2) := by decide +kernel
theorem dX12_patternAt_248 : decode cX12_patternAt 248 = .ok (.ifCond .ne 8, 3) := by decide +kernel
theorem dX12_patternAt_251 : decode cX12_patternAt 251 = .ok (.iload 8, 2) := by decide +kernel
theorem dX12_patternAt_253 : decode cX12_patternAt 253 = .ok (.ifCond .eq 7, 3) := by decide +kernel
theorem dX12_patternAt_256 : decode cX12_patternAt 256 = .ok (.iconst 1, 1) := by decide +kernel
theorem dX12_patternAt_257 : decode cX12_patternAt 257 = .ok (.goto 4, 3) := by decide +kernel
theorem dX12_patternAt_260 : decode cX12_patternAt 260 = .ok (.iconst 0, 1) := by decide +kernel
theorem dX12_patternAt_261 : decode cX12_patternAt 261 = .ok (.istore 10, 2) := by decide +kernel
theorem dX12_patternAt_263 : decode cX12_patternAt 263 = .ok (.iload 10, 2) := by decide +kernel
theorem dX12_patternAt_265 : decode cX12_patternAt 265 = .ok (.ifCond .eq 7, 3) := by decide +kernel
theorem dX12_patternAt_268 : decode cX12_patternAt 268 = .ok (.iconst 1, 1) := by decide +kernel
theorem dX12_patternAt_269 : decode cX12_patternAt 269 = .ok (.goto 4, 3) := by decide +kernel
theorem dX12_patternAt_272 : decode cX12_patternAt 272 = .ok (.iconst 0, 1) := by decide +kernel
theorem dX12_patternAt_273 : decode cX12_patternAt 273 = .ok (.ireturn, 1) := by decide +kernel
theorem dX12_patternAt_274 : decode cX12_patternAt 274 = .ok (.aload_n 0, 1) := by decide +kernel
theorem dX12_patternAt_275 : decode cX12_patternAt 275 = .ok (.getfield 102, 3) := by decide +kernel
theorem dX12_patternAt_278 : decode cX12_patternAt 278 = .ok (.iconst 4, 1) := by decide +kernel
theorem dX12_patternAt_279 : decode cX12_patternAt 279 = .ok (.iload 4, 2) := by decide +kernel
theorem dX12_patternAt_281 : decode cX12_patternAt 281 = .ok (.aload_n 0, 1) := by decide +kernel
theorem dX12_patternAt_282 : decode cX12_patternAt 282 = .ok (.getfield 102, 3) := by decide +kernel
theorem dX12_patternAt_285 : decode cX12_patternAt 285 = .ok (.iconst 3, 1) := by decide +kernel
theorem dX12_patternAt_286 : decode cX12_patternAt 286 = .ok (.iaload, 1) := by decide +kernel
theorem dX12_patternAt_287 : decode cX12_patternAt 287 = .ok (.invokestatic 165, 3) := by decide +kernel
theorem dX12_patternAt_290 : decode cX12_patternAt 290 = .ok (.iadd, 1) := by decide +kernel
theorem dX12_patternAt_291 : decode cX12_patternAt 291 = .ok (.iaload, 1) := by decide +kernel
theorem dX12_patternAt_292 : decode cX12_patternAt 292 = .ok (.istore 5, 2) := by decide +kernel
theorem dX12_patternAt_294 : decode cX12_patternAt 294 = .ok (.iload 5, 2) := by decide +kernel
theorem dX12_patternAt_296 : decode cX12_patternAt 296 = .ok (.aload_n 0, 1) := by decide +kernel
theorem dX12_patternAt_297 : decode cX12_patternAt 297 = .ok (.getfield 102, 3) := by decide +kernel
theorem dX12_patternAt_300 : decode cX12_patternAt 300 = .ok (.iconst 2, 1) := by decide +kernel
theorem dX12_patternAt_301 : decode cX12_patternAt 301 = .ok (.iaload, 1) := by decide +kernel
theorem dX12_patternAt_302 : decode cX12_patternAt 302 = .ok (.iconst 1, 1) := by decide +kernel
theorem dX12_patternAt_303 : decode cX12_patternAt 303 = .ok (.isub, 1) := by decide +kernel
theorem dX12_patternAt_304 : decode cX12_patternAt 304 = .ok (.iload_n 3, 1) := by decide +kernel
theorem dX12_patternAt_305 : decode cX12_patternAt 305 = .ok (.aload_n 0, 1) := by decide +kernel
theorem dX12_patternAt_306 : decode cX12_patternAt 306 = .ok (.getfield 102, 3) := by decide +kernel
theorem dX12_patternAt_309 : decode cX12_patternAt 309 = .ok (.iconst 2, 1) := by decide +kernel
theorem dX12_patternAt_310 : decode cX12_patternAt 310 = .ok (.iaload, 1) := by decide +kernel
theorem dX12_patternAt_311 : decode cX12_patternAt 311 = .ok (.invokestatic 165, 3) := by decide +kernel
theorem dX12_patternAt_314 : decode cX12_patternAt 314 = .ok (.isub, 1) := by decide +kernel
theorem dX12_patternAt_315 : decode cX12_patternAt 315 = .ok (.ishr, 1) := by decide +kernel
theorem dX12_patternAt_316 : decode cX12_patternAt 316 = .ok (.iconst 1, 1) := by decide +kernel
theorem dX12_patternAt_317 : decode cX12_patternAt 317 = .ok (.iand, 1) := by decide +kernel
theorem dX12_patternAt_318 : decode cX12_patternAt 318 = .ok (.ireturn, 1) := by decide +kernel
noncomputable def f_X12_patternAt_261 (b0 : Int32) (T : Mm) : Option (Int32 × Mm) :=
  if b0 = 0 then (some (0, T))
  else (some (1, T))
set_option maxRecDepth 100000 in
set_option maxHeartbeats 4000000 in
theorem s_X12_patternAt_261 {x : JX} {ad : Nat → Nat} {U : Mm} {S0 : Hp} {q : Int32 × Mm}  (hn9 : x_n x = 11) (C : CB x RX12 cX12_patternAt) (M : CMr x 2 (some .int) S0 ad false U eI q) (b0 : Int32) (T : Mm) (h : f_X12_patternAt_261  b0 T = some q) : Jr x ad false U T [] 261 [.int b0] := by
  unfold f_X12_patternAt_261 at h
  refine r_istore (lv' := [(10, .int b0)]) C dX12_patternAt_261 (by rw [hn9]; decide) rfl ?_
  refine r_iload C dX12_patternAt_263 0 rfl ?_
  refine r_if_eq (tgt := 272) C dX12_patternAt_265 (by decide) h (fun h => ?_) (fun h => ?_)
  · refine r_iconst (v := 0) C dX12_patternAt_272 (by decide) ?_
    exact r_iret C M dX12_patternAt_273 h
  · refine r_iconst (v := 1) C dX12_patternAt_268 (by decide) ?_
    refine r_goto (tgt := 273) C dX12_patternAt_269 (by decide) ?_
    exact r_iret C M dX12_patternAt_273 h
noncomputable def f_X12_patternAt_168 (a5 : Int32) (a6 : Int32) (a7 : Int32) (b0 : Int32) (T : Mm) : Option (Int32 × Mm) :=
  lb ((gA T 163 1)) fun v1 =>
  if v1 = 1 then (f_X12_patternAt_261 a5 T)
  else (if v1 = 2 then (f_X12_patternAt_261 a6 T)
  else (if v1 = 3 then (f_X12_patternAt_261 a7 T)
  else (if v1 = 4 then (f_X12_patternAt_261 b0 T)
  else (if v1 = 5 then (if a6 = 0 then (if a5 = 0 then (f_X12_patternAt_261 0 T)
  else (f_X12_patternAt_261 1 T))
  else (f_X12_patternAt_261 1 T))
  else (if a7 = 0 then (if b0 = 0 then (f_X12_patternAt_261 0 T)
  else (f_X12_patternAt_261 1 T))
  else (f_X12_patternAt_261 1 T))))))
set_option maxRecDepth 100000 in
set_option maxHeartbeats 4000000 in
theorem s_X12_patternAt_168 {x : JX} {ad : Nat → Nat} {U : Mm} {S0 : Hp} {q : Int32 × Mm}  (hn9 : x_n x = 11) (C : CB x RX12 cX12_patternAt) (M : CMr x 2 (some .int) S0 ad false U eI q) (a5 : Int32) (a6 : Int32) (a7 : Int32) (b0 : Int32) (T : Mm) (h : f_X12_patternAt_168  a5 a6 a7 b0 T = some q) : Jr x ad false U T [(0, .ref (ad 133)), (5, .int a5), (6, .int a6), (7, .int a7)] 168 [.int b0] := by
  unfold f_X12_patternAt_168 at h
  refine r_istore (lv' := [(8, .int b0), (0, .ref (ad 133)), (5, .int a5), (6, .int a6), (7, .int a7)]) C dX12_patternAt_168 (by rw [hn9]; decide) rfl ?_
  refine r_aload_n C dX12_patternAt_170 rfl 1 rfl ?_
  refine r_getp (f := 1248) (j := 163) C flX12_102 dX12_patternAt_171 kq_133 (by decide) rfl (fun W => pt_1248 kq_133 W) ?_
  refine r_iconst (v := 1) C dX12_patternAt_174 (by decide) ?_
  refine r_ialdc (n := 20) C 1 dX12_patternAt_175 kq_163 lq_163 (vp_lit (by decide)) (by decide) ?_
  show Jr _ _ _ _ _ _ 176 _
  refine r_lbI h (fun v1 h => ?_)
  refine r_istore (lv' := [(9, .int v1), (8, .int b0), (0, .ref (ad 133)), (5, .int a5), (6, .int a6), (7, .int a7)]) C dX12_patternAt_176 (by rw [hn9]; decide) rfl ?_
  refine r_iload C dX12_patternAt_178 0 rfl ?_
  refine r_iconst (v := 1) C dX12_patternAt_180 (by decide) ?_
  refine r_ic_ne (tgt := 189) C dX12_patternAt_181 (by decide) h (fun h => ?_) (fun h => ?_)
  · refine r_iload C dX12_patternAt_189 0 rfl ?_
    refine r_iconst (v := 2) C dX12_patternAt_191 (by decide) ?_
    refine r_ic_ne (tgt := 200) C dX12_patternAt_192 (by decide) h (fun h => ?_) (fun h => ?_)
    · refine r_iload C dX12_patternAt_200 0 rfl ?_
      refine r_iconst (v := 3) C dX12_patternAt_202 (by decide) ?_
      refine r_ic_ne (tgt := 211) C dX12_patternAt_203 (by decide) h (fun h => ?_) (fun h => ?_)
      · refine r_iload C dX12_patternAt_211 0 rfl ?_
        refine r_iconst (v := 4) C dX12_patternAt_213 (by decide) ?_
        refine r_ic_ne (tgt := 222) C dX12_patternAt_214 (by decide) h (fun h => ?_) (fun h => ?_)
        · refine r_iload C dX12_patternAt_222 0 rfl ?_
          refine r_iconst (v := 5) C dX12_patternAt_224 (by decide) ?_
          refine r_ic_ne (tgt := 246) C dX12_patternAt_225 (by decide) h (fun h => ?_) (fun h => ?_)
          · refine r_iload C dX12_patternAt_246 5 rfl ?_
            refine r_if_ne (tgt := 256) C dX12_patternAt_248 (by decide) h (fun h => ?_) (fun h => ?_)
            · refine r_iconst (v := 1) C dX12_patternAt_256 (by decide) ?_
              refine r_goto (tgt := 261) C dX12_patternAt_257 (by decide) ?_
              refine Jr.sub [] (lv' := []) rfl ?_
              exact s_X12_patternAt_261 hn9 C M  1 T h
            · refine r_iload C dX12_patternAt_251 1 rfl ?_
              refine r_if_eq (tgt := 260) C dX12_patternAt_253 (by decide) h (fun h => ?_) (fun h => ?_)
              · refine r_iconst (v := 0) C dX12_patternAt_260 (by decide) ?_
                refine Jr.sub [] (lv' := []) rfl ?_
                exact s_X12_patternAt_261 hn9 C M  0 T h
              · refine r_iconst (v := 1) C dX12_patternAt_256 (by decide) ?_
                refine r_goto (tgt := 261) C dX12_patternAt_257 (by decide) ?_
                refine Jr.sub [] (lv' := []) rfl ?_
                exact s_X12_patternAt_261 hn9 C M  1 T h
          · refine r_iload C dX12_patternAt_228 4 rfl ?_
            refine r_if_ne (tgt := 238) C dX12_patternAt_230 (by decide) h (fun h => ?_) (fun h => ?_)
            · refine r_iconst (v := 1) C dX12_patternAt_238 (by decide) ?_
              refine r_goto (tgt := 261) C dX12_patternAt_239 (by decide) ?_
              refine Jr.sub [] (lv' := []) rfl ?_
              exact s_X12_patternAt_261 hn9 C M  1 T h
            · refine r_iload C dX12_patternAt_233 3 rfl ?_
              refine r_if_eq (tgt := 242) C dX12_patternAt_235 (by decide) h (fun h => ?_) (fun h => ?_)
              · refine r_iconst (v := 0) C dX12_patternAt_242 (by decide) ?_
                refine r_goto (tgt := 261) C dX12_patternAt_243 (by decide) ?_
                refine Jr.sub [] (lv' := []) rfl ?_
                exact s_X12_patternAt_261 hn9 C M  0 T h
              · refine r_iconst (v := 1) C dX12_patternAt_238 (by decide) ?_
                refine r_goto (tgt := 261) C dX12_patternAt_239 (by decide) ?_
                refine Jr.sub [] (lv' := []) rfl ?_
                exact s_X12_patternAt_261 hn9 C M  1 T h
        · refine r_iload C dX12_patternAt_217 1 rfl ?_
          refine r_goto (tgt := 261) C dX12_patternAt_219 (by decide) ?_
          refine Jr.sub [] (lv' := []) rfl ?_
          exact s_X12_patternAt_261 hn9 C M  b0 T h
      · refine r_iload C dX12_patternAt_206 5 rfl ?_
        refine r_goto (tgt := 261) C dX12_patternAt_208 (by decide) ?_
        refine Jr.sub [] (lv' := []) rfl ?_
        exact s_X12_patternAt_261 hn9 C M  a7 T h
    · refine r_iload C dX12_patternAt_195 4 rfl ?_
      refine r_goto (tgt := 261) C dX12_patternAt_197 (by decide) ?_
      refine Jr.sub [] (lv' := []) rfl ?_
      exact s_X12_patternAt_261 hn9 C M  a6 T h
  · refine r_iload C dX12_patternAt_184 3 rfl ?_
    refine r_goto (tgt := 261) C dX12_patternAt_186 (by decide) ?_
    refine Jr.sub [] (lv' := []) rfl ?_
    exact s_X12_patternAt_261 hn9 C M  a5 T h
noncomputable def f_X12_patternAt_149 (a3 : Int32) (a4 : Int32) (a5 : Int32) (a6 : Int32) (b0 : Int32) (T : Mm) : Option (Int32 × Mm) :=
  bd (f_X12_modulo (a3 - a4) 8 T) fun v1 T2 =>
  if v1 = 0 then (f_X12_patternAt_168 a5 a6 b0 1 T2)
  else (f_X12_patternAt_168 a5 a6 b0 0 T2)
set_option maxRecDepth 100000 in
set_option maxHeartbeats 4000000 in
theorem s_X12_patternAt_149 {x : JX} {ad : Nat → Nat} {U : Mm} {S0 : Hp} {q : Int32 × Mm}  (hn9 : x_n x = 11) (C : CB x RX12 cX12_patternAt) (M : CMr x 2 (some .int) S0 ad false U eI q) (a3 : Int32) (a4 : Int32) (a5 : Int32) (a6 : Int32) (b0 : Int32) (T : Mm) (h : f_X12_patternAt_149  a3 a4 a5 a6 b0 T = some q) : Jr x ad false U T [(0, .ref (ad 133)), (3, .int a3), (4, .int a4), (5, .int a5), (6, .int a6)] 149 [.int b0] := by
  unfold f_X12_patternAt_149 at h
  refine r_istore (lv' := [(7, .int b0), (0, .ref (ad 133)), (3, .int a3), (4, .int a4), (5, .int a5), (6, .int a6)]) C dX12_patternAt_149 (by rw [hn9]; decide) rfl ?_
  refine r_iload_n C dX12_patternAt_151 rfl 2 rfl ?_
  refine r_iload C dX12_patternAt_152 3 rfl ?_
  refine r_isub C dX12_patternAt_154 rfl ?_
  refine r_bipush (v := 8) C dX12_patternAt_155 (by decide) ?_
  show Jr _ _ _ _ _ _ 157 _
  refine r_callSI C M h [.int (a3 - a4), .int 8] [] mlX12_165 mcX12_modulo (fun q9 e9 => s_X12_modulo (a3 - a4) 8  e9) (by decide) (by decide) rfl rfl (Nat.le_of_ble_eq_true rfl) dX12_patternAt_157 (fun v1 T2 h => ?_)
  refine r_if_ne (tgt := 167) C dX12_patternAt_160 (by decide) h (fun h => ?_) (fun h => ?_)
  · refine r_iconst (v := 0) C dX12_patternAt_167 (by decide) ?_
    refine Jr.sub [1, 4, 5, 0] (lv' := [(0, .ref (ad 133)), (5, .int a5), (6, .int a6), (7, .int b0)]) rfl ?_
    exact s_X12_patternAt_168 hn9 C M  a5 a6 b0 0 T2 h
  · refine r_iconst (v := 1) C dX12_patternAt_163 (by decide) ?_
    refine r_goto (tgt := 168) C dX12_patternAt_164 (by decide) ?_
    refine Jr.sub [1, 4, 5, 0] (lv' := [(0, .ref (ad 133)), (5, .int a5), (6, .int a6), (7, .int b0)]) rfl ?_
    exact s_X12_patternAt_168 hn9 C M  a5 a6 b0 1 T2 h
noncomputable def f_X12_patternAt_130 (a3 : Int32) (a4 : Int32) (a5 : Int32) (b0 : Int32) (T : Mm) : Option (Int32 × Mm) :=
  bd (f_X12_modulo (a3 + a4) 8 T) fun v1 T2 =>
  if v1 = 0 then (f_X12_patternAt_149 a3 a4 a5 b0 1 T2)
  else (f_X12_patternAt_149 a3 a4 a5 b0 0 T2)
set_option maxRecDepth 100000 in
set_option maxHeartbeats 4000000 in
theorem s_X12_patternAt_130 {x : JX} {ad : Nat → Nat} {U : Mm} {S0 : Hp} {q : Int32 × Mm}  (hn9 : x_n x = 11) (C : CB x RX12 cX12_patternAt) (M : CMr x 2 (some .int) S0 ad false U eI q) (a3 : Int32) (a4 : Int32) (a5 : Int32) (b0 : Int32) (T : Mm) (h : f_X12_patternAt_130  a3 a4 a5 b0 T = some q) : Jr x ad false U T [(0, .ref (ad 133)), (3, .int a3), (4, .int a4), (5, .int a5)] 130 [.int b0] := by
  unfold f_X12_patternAt_130 at h
  refine r_istore (lv' := [(6, .int b0), (0, .ref (ad 133)), (3, .int a3), (4, .int a4), (5, .int a5)]) C dX12_patternAt_130 (by rw [hn9]; decide) rfl ?_
  refine r_iload_n C dX12_patternAt_132 rfl 2 rfl ?_
  refine r_iload C dX12_patternAt_133 3 rfl ?_
  refine r_iadd C dX12_patternAt_135 rfl ?_
  refine r_bipush (v := 8) C dX12_patternAt_136 (by decide) ?_
  show Jr _ _ _ _ _ _ 138 _
  refine r_callSI C M h [.int (a3 + a4), .int 8] [] mlX12_165 mcX12_modulo (fun q9 e9 => s_X12_modulo (a3 + a4) 8  e9) (by decide) (by decide) rfl rfl (Nat.le_of_ble_eq_true rfl) dX12_patternAt_138 (fun v1 T2 h => ?_)
  refine r_if_ne (tgt := 148) C dX12_patternAt_141 (by decide) h (fun h => ?_) (fun h => ?_)
  · refine r_iconst (v := 0) C dX12_patternAt_148 (by decide) ?_
    refine Jr.sub [1, 2, 3, 4, 0] (lv' := [(0, .ref (ad 133)), (3, .int a3), (4, .int a4), (5, .int a5), (6, .int b0)]) rfl ?_
    exact s_X12_patternAt_149 hn9 C M  a3 a4 a5 b0 0 T2 h
  · refine r_iconst (v := 1) C dX12_patternAt_144 (by decide) ?_
    refine r_goto (tgt := 149) C dX12_patternAt_145 (by decide) ?_
    refine Jr.sub [1, 2, 3, 4, 0] (lv' := [(0, .ref (ad 133)), (3, .int a3), (4, .int a4), (5, .int a5), (6, .int b0)]) rfl ?_
    exact s_X12_patternAt_149 hn9 C M  a3 a4 a5 b0 1 T2 h
noncomputable def f_X12_patternAt_114 (a3 : Int32) (a4 : Int32) (b0 : Int32) (T : Mm) : Option (Int32 × Mm) :=
  bd (f_X12_modulo a3 8 T) fun v1 T2 =>
  if v1 = 0 then (f_X12_patternAt_130 a3 a4 b0 1 T2)
  else (f_X12_patternAt_130 a3 a4 b0 0 T2)
set_option maxRecDepth 100000 in
set_option maxHeartbeats 4000000 in
theorem s_X12_patternAt_114 {x : JX} {ad : Nat → Nat} {U : Mm} {S0 : Hp} {q : Int32 × Mm}  (hn9 : x_n x = 11) (C : CB x RX12 cX12_patternAt) (M : CMr x 2 (some .int) S0 ad false U eI q) (a3 : Int32) (a4 : Int32) (b0 : Int32) (T : Mm) (h : f_X12_patternAt_114  a3 a4 b0 T = some q) : Jr x ad false U T [(0, .ref (ad 133)), (3, .int a3), (4, .int a4)] 114 [.int b0] := by
  unfold f_X12_patternAt_114 at h
  refine r_istore (lv' := [(5, .int b0), (0, .ref (ad 133)), (3, .int a3), (4, .int a4)]) C dX12_patternAt_114 (by rw [hn9]; decide) rfl ?_
  refine r_iload_n C dX12_patternAt_116 rfl 2 rfl ?_
  refine r_bipush (v := 8) C dX12_patternAt_117 (by decide) ?_
  refine r_callSI C M h [.int a3, .int 8] [] mlX12_165 mcX12_modulo (fun q9 e9 => s_X12_modulo a3 8  e9) (by decide) (by decide) rfl rfl (Nat.le_of_ble_eq_true rfl) dX12_patternAt_119 (fun v1 T2 h => ?_)
  refine r_if_ne (tgt := 129) C dX12_patternAt_122 (by decide) h (fun h => ?_) (fun h => ?_)
  · refine r_iconst (v := 0) C dX12_patternAt_129 (by decide) ?_
    refine Jr.sub [1, 2, 3, 0] (lv' := [(0, .ref (ad 133)), (3, .int a3), (4, .int a4), (5, .int b0)]) rfl ?_
    exact s_X12_patternAt_130 hn9 C M  a3 a4 b0 0 T2 h
  · refine r_iconst (v := 1) C dX12_patternAt_125 (by decide) ?_
    refine r_goto (tgt := 130) C dX12_patternAt_126 (by decide) ?_
    refine Jr.sub [1, 2, 3, 0] (lv' := [(0, .ref (ad 133)), (3, .int a3), (4, .int a4), (5, .int b0)]) rfl ?_
    exact s_X12_patternAt_130 hn9 C M  a3 a4 b0 1 T2 h
noncomputable def f_X12_patternAt (p1 : Int32) (p2 : Int32) (T : Mm) : Option (Int32 × Mm) :=
  lb ((p1 - (gA T 134 51))) fun v1 =>
  lb ((p2 - (gA T 134 52))) fun v2 =>
  if (gA T 163 0) = 0 then (some (1, T))
  else (if (gA T 163 0) = 1 then (some (0, T))
  else (if (gA T 163 0) = 2 then (bd (f_X12_modulo v1 4 T) fun v12 T13 =>
  bd (f_X12_modulo v2 4 T13) fun v14 T15 =>
  bd (f_X12_shadeOf v12 v14 T15) fun v16 T17 =>
  if ((16 : Int32) * (gA T17 163 1)) ≤ ((100 : Int32) * v16) then (some (0, T17))
  else (some (1, T17)))
  else (if (gA T 163 0) = 3 then (bd (f_X12_modulo v2 8 T) fun v10 T11 =>
  if v10 = 0 then (f_X12_patternAt_114 v1 v2 1 T11)
  else (f_X12_patternAt_114 v1 v2 0 T11))
  else (bd (f_X12_modulo v2 (gA T 163 3) T) fun v3 T4 =>
  ix ((4 : Int32) + v3) 20 fun j5 =>
  lb ((gA T4 163 j5)) fun v7 =>
  bd (f_X12_modulo v1 (gA T4 163 2) T4) fun v8 T9 =>
  some (((v7 >>> ((((gA T4 163 2) - 1) - v8) &&& 31)) &&& 1), T9)))))
set_option maxRecDepth 100000 in
set_option maxHeartbeats 4000000 in
theorem s_X12_patternAt {ad : Nat → Nat} {U T : Mm} {q : Int32 × Mm}  (p1 : Int32) (p2 : Int32) (h : f_X12_patternAt p1 p2 T = some q) : Cr 2 yX12_patternAt cX12_patternAt 11 (some .int) [.ref (ad 133), .int p1, .int p2] ad false U T eI q := by
  refine cr_of (by decide) (Nat.le_of_ble_eq_true rfl) fun x S0 hn9 C M => ?_
  have C : CB x RX12 cX12_patternAt := C
  refine Jr.eq (lv' := [(0, .ref (ad 133)), (1, .int p1), (2, .int p2)]) (st' := []) rfl rfl ?_
  unfold f_X12_patternAt at h
  refine r_iload_n C dX12_patternAt_0 rfl 1 rfl ?_
  refine r_aload_n C dX12_patternAt_1 rfl 0 rfl ?_
  refine r_getp (f := 1200) (j := 134) C flX12_9 dX12_patternAt_2 kq_133 (by decide) rfl (fun W => pt_1200 kq_133 W) ?_
  refine r_bipush (v := 51) C dX12_patternAt_5 (by decide) ?_
  refine r_ialdc (n := 192) C 51 dX12_patternAt_7 kq_134 lq_134 (vp_lit (by decide)) (by decide) ?_
  show Jr _ _ _ _ _ _ 8 _
  refine r_isub C dX12_patternAt_8 rfl ?_
  refine r_lbI h (fun v1 h => ?_)
  refine r_istore_n (lv' := [(3, .int v1), (0, .ref (ad 133)), (1, .int p1), (2, .int p2)]) C dX12_patternAt_9 rfl (by rw [hn9]; decide) rfl ?_
  refine r_iload_n C dX12_patternAt_10 rfl 3 rfl ?_
  refine r_aload_n C dX12_patternAt_11 rfl 1 rfl ?_
  refine r_getp (f := 1200) (j := 134) C flX12_9 dX12_patternAt_12 kq_133 (by decide) rfl (fun W => pt_1200 kq_133 W) ?_
  refine r_bipush (v := 52) C dX12_patternAt_15 (by decide) ?_
  show Jr _ _ _ _ _ _ 17 _
  refine r_ialdc (n := 192) C 52 dX12_patternAt_17 kq_134 lq_134 (vp_lit (by decide)) (by decide) ?_
  refine r_isub C dX12_patternAt_18 rfl ?_
  refine r_lbI h (fun v2 h => ?_)
  refine r_istore (lv' := [(4, .int v2), (3, .int v1), (0, .ref (ad 133)), (1, .int p1), (2, .int p2)]) C dX12_patternAt_19 (by rw [hn9]; decide) rfl ?_
  refine r_aload_n C dX12_patternAt_21 rfl 2 rfl ?_
  refine r_getp (f := 1248) (j := 163) C flX12_102 dX12_patternAt_22 kq_133 (by decide) rfl (fun W => pt_1248 kq_133 W) ?_
  refine r_iconst (v := 0) C dX12_patternAt_25 (by decide) ?_
  show Jr _ _ _ _ _ _ 26 _
  refine r_ialdc (n := 20) C 0 dX12_patternAt_26 kq_163 lq_163 (vp_lit (by decide)) (by decide) ?_
  refine r_if_ne (tgt := 32) C dX12_patternAt_27 (by decide) h (fun h => ?_) (fun h => ?_)
  · refine r_aload_n C dX12_patternAt_32 rfl 2 rfl ?_
    refine r_getp (f := 1248) (j := 163) C flX12_102 dX12_patternAt_33 kq_133 (by decide) rfl (fun W => pt_1248 kq_133 W) ?_
    refine r_iconst (v := 0) C dX12_patternAt_36 (by decide) ?_
    refine r_ialdc (n := 20) C 0 dX12_patternAt_37 kq_163 lq_163 (vp_lit (by decide)) (by decide) ?_
    refine r_iconst (v := 1) C dX12_patternAt_38 (by decide) ?_
    show Jr _ _ _ _ _ _ 39 _
    refine r_ic_ne (tgt := 44) C dX12_patternAt_39 (by decide) h (fun h => ?_) (fun h => ?_)
    · refine r_aload_n C dX12_patternAt_44 rfl 2 rfl ?_
      refine r_getp (f := 1248) (j := 163) C flX12_102 dX12_patternAt_45 kq_133 (by decide) rfl (fun W => pt_1248 kq_133 W) ?_
      refine r_iconst (v := 0) C dX12_patternAt_48 (by decide) ?_
      refine r_ialdc (n := 20) C 0 dX12_patternAt_49 kq_163 lq_163 (vp_lit (by decide)) (by decide) ?_
      refine r_iconst (v := 2) C dX12_patternAt_50 (by decide) ?_
      show Jr _ _ _ _ _ _ 51 _
      refine r_ic_ne (tgt := 89) C dX12_patternAt_51 (by decide) h (fun h => ?_) (fun h => ?_)
      · refine r_aload_n C dX12_patternAt_89 rfl 2 rfl ?_
        refine r_getp (f := 1248) (j := 163) C flX12_102 dX12_patternAt_90 kq_133 (by decide) rfl (fun W => pt_1248 kq_133 W) ?_
        refine r_iconst (v := 0) C dX12_patternAt_93 (by decide) ?_
        refine r_ialdc (n := 20) C 0 dX12_patternAt_94 kq_163 lq_163 (vp_lit (by decide)) (by decide) ?_
        refine r_iconst (v := 3) C dX12_patternAt_95 (by decide) ?_
        show Jr _ _ _ _ _ _ 96 _
        refine r_ic_ne (tgt := 274) C dX12_patternAt_96 (by decide) h (fun h => ?_) (fun h => ?_)
        · refine r_aload_n C dX12_patternAt_274 rfl 2 rfl ?_
          refine r_getp (f := 1248) (j := 163) C flX12_102 dX12_patternAt_275 kq_133 (by decide) rfl (fun W => pt_1248 kq_133 W) ?_
          refine r_iconst (v := 4) C dX12_patternAt_278 (by decide) ?_
          refine r_iload C dX12_patternAt_279 0 rfl ?_
          refine r_aload_n C dX12_patternAt_281 rfl 2 rfl ?_
          show Jr _ _ _ _ _ _ 282 _
          refine r_getp (f := 1248) (j := 163) C flX12_102 dX12_patternAt_282 kq_133 (by decide) rfl (fun W => pt_1248 kq_133 W) ?_
          refine r_iconst (v := 3) C dX12_patternAt_285 (by decide) ?_
          refine r_ialdc (n := 20) C 3 dX12_patternAt_286 kq_163 lq_163 (vp_lit (by decide)) (by decide) ?_
          refine r_callSI C M h [.int v2, .int (gA T 163 3)] [.int 4, .ref (ad 163)] mlX12_165 mcX12_modulo (fun q9 e9 => s_X12_modulo v2 (gA T 163 3)  e9) (by decide) (by decide) rfl rfl (Nat.le_of_ble_eq_true rfl) dX12_patternAt_287 (fun v3 T4 h => ?_)
          refine r_iadd C dX12_patternAt_290 rfl ?_
          refine r_iald (n := 20) C dX12_patternAt_291 kq_163 lq_163 h (fun j5 hj6 h => ?_)
          show Jr _ _ _ _ _ _ 292 _
          refine r_lbI h (fun v7 h => ?_)
          refine r_istore (lv' := [(5, .int v7), (4, .int v2), (3, .int v1), (0, .ref (ad 133)), (1, .int p1), (2, .int p2)]) C dX12_patternAt_292 (by rw [hn9]; decide) rfl ?_
          refine r_iload C dX12_patternAt_294 0 rfl ?_
          refine r_aload_n C dX12_patternAt_296 rfl 3 rfl ?_
          refine r_getp (f := 1248) (j := 163) C flX12_102 dX12_patternAt_297 kq_133 (by decide) rfl (fun W => pt_1248 kq_133 W) ?_
          refine r_iconst (v := 2) C dX12_patternAt_300 (by decide) ?_
          refine r_ialdc (n := 20) C 2 dX12_patternAt_301 kq_163 lq_163 (vp_lit (by decide)) (by decide) ?_
          show Jr _ _ _ _ _ _ 302 _
          refine r_iconst (v := 1) C dX12_patternAt_302 (by decide) ?_
          refine r_isub C dX12_patternAt_303 rfl ?_
          refine r_iload_n C dX12_patternAt_304 rfl 2 rfl ?_
          refine r_aload_n C dX12_patternAt_305 rfl 3 rfl ?_
          refine r_getp (f := 1248) (j := 163) C flX12_102 dX12_patternAt_306 kq_133 (by decide) rfl (fun W => pt_1248 kq_133 W) ?_
          refine r_iconst (v := 2) C dX12_patternAt_309 (by decide) ?_
          show Jr _ _ _ _ _ _ 310 _
          refine r_ialdc (n := 20) C 2 dX12_patternAt_310 kq_163 lq_163 (vp_lit (by decide)) (by decide) ?_
          refine r_callSI C M h [.int v1, .int (gA T4 163 2)] [.int ((gA T4 163 2) - 1), .int v7] mlX12_165 mcX12_modulo (fun q9 e9 => s_X12_modulo v1 (gA T4 163 2)  e9) (by decide) (by decide) rfl rfl (Nat.le_of_ble_eq_true rfl) dX12_patternAt_311 (fun v8 T9 h => ?_)
          refine r_isub C dX12_patternAt_314 rfl ?_
          refine r_ishr C dX12_patternAt_315 rfl ?_
          refine r_iconst (v := 1) C dX12_patternAt_316 (by decide) ?_
          refine r_iand C dX12_patternAt_317 rfl ?_
          show Jr _ _ _ _ _ _ 318 _
          exact r_iret C M dX12_patternAt_318 h
        · refine r_iload C dX12_patternAt_99 0 rfl ?_
          refine r_bipush (v := 8) C dX12_patternAt_101 (by decide) ?_
          refine r_callSI C M h [.int v2, .int 8] [] mlX12_165 mcX12_modulo (fun q9 e9 => s_X12_modulo v2 8  e9) (by decide) (by decide) rfl rfl (Nat.le_of_ble_eq_true rfl) dX12_patternAt_103 (fun v10 T11 h => ?_)
          refine r_if_ne (tgt := 113) C dX12_patternAt_106 (by decide) h (fun h => ?_) (fun h => ?_)
          · refine r_iconst (v := 0) C dX12_patternAt_113 (by decide) ?_
            refine Jr.sub [2, 1, 0] (lv' := [(0, .ref (ad 133)), (3, .int v1), (4, .int v2)]) rfl ?_
            exact s_X12_patternAt_114 hn9 C M  v1 v2 0 T11 h
          · refine r_iconst (v := 1) C dX12_patternAt_109 (by decide) ?_
            refine r_goto (tgt := 114) C dX12_patternAt_110 (by decide) ?_
            refine Jr.sub [2, 1, 0] (lv' := [(0, .ref (ad 133)), (3, .int v1), (4, .int v2)]) rfl ?_
            exact s_X12_patternAt_114 hn9 C M  v1 v2 1 T11 h
      · refine r_bipush (v := 100) C dX12_patternAt_54 (by decide) ?_
        refine r_iload_n C dX12_patternAt_56 rfl 1 rfl ?_
        refine r_iconst (v := 4) C dX12_patternAt_57 (by decide) ?_
        refine r_callSI C M h [.int v1, .int 4] [.int 100] mlX12_165 mcX12_modulo (fun q9 e9 => s_X12_modulo v1 4  e9) (by decide) (by decide) rfl rfl (Nat.le_of_ble_eq_true rfl) dX12_patternAt_58 (fun v12 T13 h => ?_)
        refine r_iload C dX12_patternAt_61 0 rfl ?_
        show Jr _ _ _ _ _ _ 63 _
        refine r_iconst (v := 4) C dX12_patternAt_63 (by decide) ?_
        refine r_callSI C M h [.int v2, .int 4] [.int v12, .int 100] mlX12_165 mcX12_modulo (fun q9 e9 => s_X12_modulo v2 4  e9) (by decide) (by decide) rfl rfl (Nat.le_of_ble_eq_true rfl) dX12_patternAt_64 (fun v14 T15 h => ?_)
        refine r_callSI C M h [.int v12, .int v14] [.int 100] mlX12_169 mcX12_shadeOf (fun q9 e9 => s_X12_shadeOf v12 v14  e9) (by decide) (by decide) rfl rfl (Nat.le_of_ble_eq_true rfl) dX12_patternAt_67 (fun v16 T17 h => ?_)
        refine r_imul C dX12_patternAt_70 rfl ?_
        refine r_bipush (v := 16) C dX12_patternAt_71 (by decide) ?_
        refine r_aload_n C dX12_patternAt_73 rfl 2 rfl ?_
        show Jr _ _ _ _ _ _ 74 _
        refine r_getp (f := 1248) (j := 163) C flX12_102 dX12_patternAt_74 kq_133 (by decide) rfl (fun W => pt_1248 kq_133 W) ?_
        refine r_iconst (v := 1) C dX12_patternAt_77 (by decide) ?_
        refine r_ialdc (n := 20) C 1 dX12_patternAt_78 kq_163 lq_163 (vp_lit (by decide)) (by decide) ?_
        refine r_imul C dX12_patternAt_79 rfl ?_
        refine r_ic_ge (tgt := 87) C dX12_patternAt_80 (by decide) h (fun h => ?_) (fun h => ?_)
        · refine r_iconst (v := 0) C dX12_patternAt_87 (by decide) ?_
          exact r_iret C M dX12_patternAt_88 h
        · refine r_iconst (v := 1) C dX12_patternAt_83 (by decide) ?_
          refine r_goto (tgt := 88) C dX12_patternAt_84 (by decide) ?_
          exact r_iret C M dX12_patternAt_88 h
    · refine r_iconst (v := 0) C dX12_patternAt_42 (by decide) ?_
      exact r_iret C M dX12_patternAt_43 h
  · refine r_iconst (v := 1) C dX12_patternAt_30 (by decide) ?_
    exact r_iret C M dX12_patternAt_31 h
theorem dX12_lay__0 : decode cX12_lay_ 0 = .ok (.aload_n 0, 1) := by decide +kernel
theorem dX12_lay__1 : decode cX12_lay_ 1 = .ok (.invokevirtual 172, 3) := by decide +kernel
theorem dX12_lay__4 : decode cX12_lay_ 4 = .ok (.istore 4, 2) := by decide +kernel
theorem dX12_lay__6 : decode cX12_lay_ 6 = .ok (.aload_n 0, 1) := by decide +kernel
theorem dX12_lay__7 : decode cX12_lay_ 7 = .ok (.invokevirtual 176, 3) := by decide +kernel
theorem dX12_lay__10 : decode cX12_lay_ 10 = .ok (.istore 5, 2) := by decide +kernel
theorem dX12_lay__12 : decode cX12_lay_ 12 = .ok (.iload_n 1, 1) := by decide +kernel
theorem dX12_lay__13 : decode cX12_lay_ 13 = .ok (.ifCond .lt 19, 3) := by decide +kernel
theorem dX12_lay__16 : decode cX12_lay_ 16 = .ok (.iload_n 2, 1) := by decide +kernel
theorem dX12_lay__17 : decode cX12_lay_ 17 = .ok (.ifCond .lt 15, 3) := by decide +kernel
theorem dX12_lay__20 : decode cX12_lay_ 20 = .ok (.iload_n 1, 1) := by decide +kernel
theorem dX12_lay__21 : decode cX12_lay_ 21 = .ok (.iload 4, 2) := by decide +kernel
theorem dX12_lay__23 : decode cX12_lay_ 23 = .ok (.if_icmp .ge 9, 3) := by decide +kernel
theorem dX12_lay__26 : decode cX12_lay_ 26 = .ok (.iload_n 2, 1) := by decide +kernel
theorem dX12_lay__27 : decode cX12_lay_ 27 = .ok (.iload 5, 2) := by decide +kernel
theorem dX12_lay__29 : decode cX12_lay_ 29 = .ok (.if_icmp .lt 4, 3) := by decide +kernel
theorem dX12_lay__32 : decode cX12_lay_ 32 = .ok (.return_, 1) := by decide +kernel
theorem dX12_lay__33 : decode cX12_lay_ 33 = .ok (.aload_n 0, 1) := by decide +kernel
theorem dX12_lay__34 : decode cX12_lay_ 34 = .ok (.getfield 9, 3) := by decide +kernel
theorem dX12_lay__37 : decode cX12_lay_ 37 = .ok (.iconst 1, 1) := by decide +kernel
theorem dX12_lay__38 : decode cX12_lay_ 38 = .ok (.iaload, 1) := by decide +kernel
theorem dX12_lay__39 : decode cX12_lay_ 39 = .ok (.ifCond .ne 7, 3) := by decide +kernel
theorem dX12_lay__42 : decode cX12_lay_ 42 = .ok (.iload_n 1, 1) := by decide +kernel
theorem dX12_lay__43 : decode cX12_lay_ 43 = .ok (.goto 4, 3) := by decide +kernel
theorem dX12_lay__46 : decode cX12_lay_ 46 = .ok (.iload_n 2, 1) := by decide +kernel
theorem dX12_lay__47 : decode cX12_lay_ 47 = .ok (.istore 6, 2) := by decide +kernel
theorem dX12_lay__49 : decode cX12_lay_ 49 = .ok (.aload_n 0, 1) := by decide +kernel
theorem dX12_lay__50 : decode cX12_lay_ 50 = .ok (.getfield 9, 3) := by decide +kernel
theorem dX12_lay__53 : decode cX12_lay_ 53 = .ok (.iconst 1, 1) := by decide +kernel
theorem dX12_lay__54 : decode cX12_lay_ 54 = .ok (.iaload, 1) := by decide +kernel
theorem dX12_lay__55 : decode cX12_lay_ 55 = .ok (.ifCond .ne 7, 3) := by decide +kernel
theorem dX12_lay__58 : decode cX12_lay_ 58 = .ok (.iload_n 2, 1) := by decide +kernel
theorem dX12_lay__59 : decode cX12_lay_ 59 = .ok (.goto 16, 3) := by decide +kernel
theorem dX12_lay__62 : decode cX12_lay_ 62 = .ok (.aload_n 0, 1) := by decide +kernel
theorem dX12_lay__63 : decode cX12_lay_ 63 = .ok (.getfield 9, 3) := by decide +kernel
theorem dX12_lay__66 : decode cX12_lay_ 66 = .ok (.iconst 0, 1) := by decide +kernel
theorem dX12_lay__67 : decode cX12_lay_ 67 = .ok (.iaload, 1) := by decide +kernel
theorem dX12_lay__68 : decode cX12_lay_ 68 = .ok (.invokestatic 160, 3) := by decide +kernel
theorem dX12_lay__71 : decode cX12_lay_ 71 = .ok (.iconst 1, 1) := by decide +kernel
theorem dX12_lay__72 : decode cX12_lay_ 72 = .ok (.isub, 1) := by decide +kernel
theorem dX12_lay__73 : decode cX12_lay_ 73 = .ok (.iload_n 1, 1) := by decide +kernel
theorem dX12_lay__74 : decode cX12_lay_ 74 = .ok (.isub, 1) := by decide +kernel
theorem dX12_lay__75 : decode cX12_lay_ 75 = .ok (.istore 7, 2) := by decide +kernel
theorem dX12_lay__77 : decode cX12_lay_ 77 = .ok (.iload 7, 2) := by decide +kernel
theorem dX12_lay__79 : decode cX12_lay_ 79 = .ok (.bipush 80, 2) := by decide +kernel
theorem dX12_lay__81 : decode cX12_lay_ 81 = .ok (.imul, 1) := by decide +kernel
theorem dX12_lay__82 : decode cX12_lay_ 82 = .ok (.iload 6, 2) := by decide +kernel
theorem dX12_lay__84 : decode cX12_lay_ 84 = .ok (.bipush 8, 2) := by decide +kernel
theorem dX12_lay__86 : decode cX12_lay_ 86 = .ok (.idiv, 1) := by decide +kernel
theorem dX12_lay__87 : decode cX12_lay_ 87 = .ok (.iadd, 1) := by decide +kernel
theorem dX12_lay__88 : decode cX12_lay_ 88 = .ok (.istore 8, 2) := by decide +kernel
theorem dX12_lay__90 : decode cX12_lay_ 90 = .ok (.sipush 128, 3) := by decide +kernel
theorem dX12_lay__93 : decode cX12_lay_ 93 = .ok (.iload 6, 2) := by decide +kernel
theorem dX12_lay__95 : decode cX12_lay_ 95 = .ok (.bipush 8, 2) := by decide +kernel
theorem dX12_lay__97 : decode cX12_lay_ 97 = .ok (.irem, 1) := by decide +kernel
theorem dX12_lay__98 : decode cX12_lay_ 98 = .ok (.ishr, 1) := by decide +kernel
theorem dX12_lay__99 : decode cX12_lay_ 99 = .ok (.istore 9, 2) := by decide +kernel
theorem dX12_lay__101 : decode cX12_lay_ 101 = .ok (.iload_n 3, 1) := by decide +kernel
theorem dX12_lay__102 : decode cX12_lay_ 102 = .ok (.ifCond .ne 35, 3) := by decide +kernel
theorem dX12_lay__105 : decode cX12_lay_ 105 = .ok (.aload_n 0, 1) := by decide +kernel
theorem dX12_lay__106 : decode cX12_lay_ 106 = .ok (.getfield 9, 3) := by decide +kernel
theorem dX12_lay__109 : decode cX12_lay_ 109 = .ok (.bipush 49, 2) := by decide +kernel
theorem dX12_lay__111 : decode cX12_lay_ 111 = .ok (.iaload, 1) := by decide +kernel
theorem dX12_lay__112 : decode cX12_lay_ 112 = .ok (.iconst 1, 1) := by decide +kernel
theorem dX12_lay__113 : decode cX12_lay_ 113 = .ok (.if_icmp .ne 23, 3) := by decide +kernel
theorem dX12_lay__116 : decode cX12_lay_ 116 = .ok (.aload_n 0, 1) := by decide +kernel
theorem dX12_lay__117 : decode cX12_lay_ 117 = .ok (.getfield 82, 3) := by decide +kernel
theorem dX12_lay__120 : decode cX12_lay_ 120 = .ok (.iload 8, 2) := by decide +kernel
theorem dX12_lay__122 : decode cX12_lay_ 122 = .ok (.aload_n 0, 1) := by decide +kernel
theorem dX12_lay__123 : decode cX12_lay_ 123 = .ok (.getfield 82, 3) := by decide +kernel
theorem dX12_lay__126 : decode cX12_lay_ 126 = .ok (.iload 8, 2) := by decide +kernel
theorem dX12_lay__128 : decode cX12_lay_ 128 = .ok (.baload, 1) := by decide +kernel
theorem dX12_lay__129 : decode cX12_lay_ 129 = .ok (.iload 9, 2) := by decide +kernel
theorem dX12_lay__131 : decode cX12_lay_ 131 = .ok (.iconst (-1), 1) := by decide +kernel
theorem dX12_lay__132 : decode cX12_lay_ 132 = .ok (.ixor, 1) := by decide +kernel
theorem dX12_lay__133 : decode cX12_lay_ 133 = .ok (.iand, 1) := by decide +kernel
theorem dX12_lay__134 : decode cX12_lay_ 134 = .ok (.i2b, 1) := by decide +kernel
theorem dX12_lay__135 : decode cX12_lay_ 135 = .ok (.bastore, 1) := by decide +kernel
theorem dX12_lay__136 : decode cX12_lay_ 136 = .ok (.return_, 1) := by decide +kernel
theorem dX12_lay__137 : decode cX12_lay_ 137 = .ok (.aload_n 0, 1) := by decide +kernel
theorem dX12_lay__138 : decode cX12_lay_ 138 = .ok (.iload_n 1, 1) := by decide +kernel
theorem dX12_lay__139 : decode cX12_lay_ 139 = .ok (.iload_n 2, 1) := by decide +kernel
theorem dX12_lay__140 : decode cX12_lay_ 140 = .ok (.invokevirtual 179, 3) := by decide +kernel
theorem dX12_lay__143 : decode cX12_lay_ 143 = .ok (.iconst 1, 1) := by decide +kernel
theorem dX12_lay__144 : decode cX12_lay_ 144 = .ok (.if_icmp .ne 24, 3) := by decide +kernel
theorem dX12_lay__147 : decode cX12_lay_ 147 = .ok (.aload_n 0, 1) := by decide +kernel
theorem dX12_lay__148 : decode cX12_lay_ 148 = .ok (.getfield 82, 3) := by decide +kernel
theorem dX12_lay__151 : decode cX12_lay_ 151 = .ok (.iload 8, 2) := by decide +kernel
theorem dX12_lay__153 : decode cX12_lay_ 153 = .ok (.aload_n 0, 1) := by decide +kernel
theorem dX12_lay__154 : decode cX12_lay_ 154 = .ok (.getfield 82, 3) := by decide +kernel
theorem dX12_lay__157 : decode cX12_lay_ 157 = .ok (.iload 8, 2) := by decide +kernel
theorem dX12_lay__159 : decode cX12_lay_ 159 = .ok (.baload, 1) := by decide +kernel
theorem dX12_lay__160 : decode cX12_lay_ 160 = .ok (.iload 9, 2) := by decide +kernel
theorem dX12_lay__162 : decode cX12_lay_ 162 = .ok (.ior, 1) := by decide +kernel
theorem dX12_lay__163 : decode cX12_lay_ 163 = .ok (.i2b, 1) := by decide +kernel
theorem dX12_lay__164 : decode cX12_lay_ 164 = .ok (.bastore, 1) := by decide +kernel
theorem dX12_lay__165 : decode cX12_lay_ 165 = .ok (.goto 44, 3) := by decide +kernel
theorem dX12_lay__168 : decode cX12_lay_ 168 = .ok (.aload_n 0, 1) := by decide +kernel
theorem dX12_lay__169 : decode cX12_lay_ 169 = .ok (.getfield 9, 3) := by decide +kernel
theorem dX12_lay__172 : decode cX12_lay_ 172 = .ok (.bipush 50, 2) := by decide +kernel
theorem dX12_lay__174 : decode cX12_lay_ 174 = .ok (.iaload, 1) := by decide +kernel
theorem dX12_lay__175 : decode cX12_lay_ 175 = .ok (.iconst 1, 1) := by decide +kernel
theorem dX12_lay__176 : decode cX12_lay_ 176 = .ok (.if_icmp .eq 13, 3) := by decide +kernel
theorem dX12_lay__179 : decode cX12_lay_ 179 = .ok (.aload_n 0, 1) := by decide +kernel
theorem dX12_lay__180 : decode cX12_lay_ 180 = .ok (.getfield 102, 3) := by decide +kernel
theorem dX12_lay__183 : decode cX12_lay_ 183 = .ok (.iconst 0, 1) := by decide +kernel
theorem dX12_lay__184 : decode cX12_lay_ 184 = .ok (.iaload, 1) := by decide +kernel
theorem dX12_lay__185 : decode cX12_lay_ 185 = .ok (.iconst 1, 1) := by decide +kernel
theorem dX12_lay__186 : decode cX12_lay_ 186 = .ok (.if_icmp .ne 23, 3) := by decide +kernel
theorem dX12_lay__189 : decode cX12_lay_ 189 = .ok (.aload_n 0, 1) := by decide +kernel
theorem dX12_lay__190 : decode cX12_lay_ 190 = .ok (.getfield 82, 3) := by decide +kernel
theorem dX12_lay__193 : decode cX12_lay_ 193 = .ok (.iload 8, 2) := by decide +kernel
theorem dX12_lay__195 : decode cX12_lay_ 195 = .ok (.aload_n 0, 1) := by decide +kernel
theorem dX12_lay__196 : decode cX12_lay_ 196 = .ok (.getfield 82, 3) := by decide +kernel
theorem dX12_lay__199 : decode cX12_lay_ 199 = .ok (.iload 8, 2) := by decide +kernel
theorem dX12_lay__201 : decode cX12_lay_ 201 = .ok (.baload, 1) := by decide +kernel
theorem dX12_lay__202 : decode cX12_lay_ 202 = .ok (.iload 9, 2) := by decide +kernel
theorem dX12_lay__204 : decode cX12_lay_ 204 = .ok (.iconst (-1), 1) := by decide +kernel
theorem dX12_lay__205 : decode cX12_lay_ 205 = .ok (.ixor, 1) := by decide +kernel
theorem dX12_lay__206 : decode cX12_lay_ 206 = .ok (.iand, 1) := by decide +kernel
theorem dX12_lay__207 : decode cX12_lay_ 207 = .ok (.i2b, 1) := by decide +kernel
theorem dX12_lay__208 : decode cX12_lay_ 208 = .ok (.bastore, 1) := by decide +kernel
theorem dX12_lay__209 : decode cX12_lay_ 209 = .ok (.return_, 1) := by decide +kernel
noncomputable def f_X12_lay__189 (a8 : Int32) (a9 : Int32) (T : Mm) : Option (Unit × Mm) :=
  ix a8 64000 fun j1 =>
  ix a8 64000 fun j3 => lb (uA T 157 j3 (((((gA T 157 j1) &&& (a9 ^^^ (-1)))).toInt8.toInt32).toInt8.toInt32)) fun T5 =>
  some ((), T5)
set_option maxRecDepth 100000 in
set_option maxHeartbeats 4000000 in
theorem s_X12_lay__189 {x : JX} {ad : Nat → Nat} {U : Mm} {S0 : Hp} {q : Unit × Mm}  (hn9 : x_n x = 10) (C : CB x RX12 cX12_lay_) (M : CMr x 3 none S0 ad false U eV q) (a8 : Int32) (a9 : Int32) (T : Mm) (h : f_X12_lay__189  a8 a9 T = some q) : Jr x ad false U T [(0, .ref (ad 133)), (8, .int a8), (9, .int a9)] 189 [] := by
  unfold f_X12_lay__189 at h
  refine r_aload_n C dX12_lay__189 rfl 0 rfl ?_
  refine r_getp (f := 1234) (j := 157) C flX12_82 dX12_lay__190 kq_133 (by decide) rfl (fun W => pt_1234 kq_133 W) ?_
  refine r_iload C dX12_lay__193 1 rfl ?_
  refine r_aload_n C dX12_lay__195 rfl 0 rfl ?_
  refine r_getp (f := 1234) (j := 157) C flX12_82 dX12_lay__196 kq_133 (by decide) rfl (fun W => pt_1234 kq_133 W) ?_
  show Jr _ _ _ _ _ _ 199 _
  refine r_iload C dX12_lay__199 1 rfl ?_
  refine r_bald (n := 64000) C dX12_lay__201 kq_157 lq_157 h (fun j1 hj2 h => ?_)
  refine r_iload C dX12_lay__202 2 rfl ?_
  refine r_iconst (v := (-1)) C dX12_lay__204 (by decide) ?_
  refine r_ixor C dX12_lay__205 rfl ?_
  refine r_iand C dX12_lay__206 rfl ?_
  show Jr _ _ _ _ _ _ 207 _
  refine r_i2b C dX12_lay__207 rfl ?_
  refine r_bast (n := 64000) C dX12_lay__208 kq_157 lq_157 h (fun j3 T5 hj4 h => ?_)
  exact r_vret C M dX12_lay__209 h
noncomputable def f_X12_lay__75 (a1 : Int32) (a2 : Int32) (a3 : Int32) (a6 : Int32) (b0 : Int32) (T : Mm) : Option (Unit × Mm) :=
  lb (((b0 * 80) + (a6 / 8))) fun v1 =>
  lb (((128 : Int32) >>> ((a6 - a6 / 8 * 8) &&& 31))) fun v2 =>
  if a3 = 0 then (if (gA T 134 49) = 1 then (ix v1 64000 fun j10 =>
  ix v1 64000 fun j12 => lb (uA T 157 j12 (((((gA T 157 j10) &&& (v2 ^^^ (-1)))).toInt8.toInt32).toInt8.toInt32)) fun T14 =>
  some ((), T14))
  else (some ((), T)))
  else (bd (f_X12_patternAt a1 a2 T) fun v3 T4 =>
  if v3 = 1 then (ix v1 64000 fun j5 =>
  ix v1 64000 fun j7 => lb (uA T4 157 j7 (((((gA T4 157 j5) ||| v2)).toInt8.toInt32).toInt8.toInt32)) fun T9 =>
  some ((), T9))
  else (if (gA T4 134 50) = 1 then (f_X12_lay__189 v1 v2 T4)
  else (if (gA T4 163 0) = 1 then (f_X12_lay__189 v1 v2 T4)
  else (some ((), T4)))))
set_option maxRecDepth 100000 in
set_option maxHeartbeats 4000000 in
theorem s_X12_lay__75 {x : JX} {ad : Nat → Nat} {U : Mm} {S0 : Hp} {q : Unit × Mm}  (hn9 : x_n x = 10) (C : CB x RX12 cX12_lay_) (M : CMr x 3 none S0 ad false U eV q) (a1 : Int32) (a2 : Int32) (a3 : Int32) (a6 : Int32) (b0 : Int32) (T : Mm) (h : f_X12_lay__75  a1 a2 a3 a6 b0 T = some q) : Jr x ad false U T [(0, .ref (ad 133)), (1, .int a1), (2, .int a2), (3, .int a3), (6, .int a6)] 75 [.int b0] := by
  unfold f_X12_lay__75 at h
  refine r_istore (lv' := [(7, .int b0), (0, .ref (ad 133)), (1, .int a1), (2, .int a2), (3, .int a3), (6, .int a6)]) C dX12_lay__75 (by rw [hn9]; decide) rfl ?_
  refine r_iload C dX12_lay__77 0 rfl ?_
  refine r_bipush (v := 80) C dX12_lay__79 (by decide) ?_
  refine r_imul C dX12_lay__81 rfl ?_
  refine r_iload C dX12_lay__82 5 rfl ?_
  show Jr _ _ _ _ _ _ 84 _
  refine r_bipush (v := 8) C dX12_lay__84 (by decide) ?_
  refine r_idiv C dX12_lay__86 (by decide) rfl ?_
  refine r_iadd C dX12_lay__87 rfl ?_
  refine r_lbI h (fun v1 h => ?_)
  refine r_istore (lv' := [(8, .int v1), (7, .int b0), (0, .ref (ad 133)), (1, .int a1), (2, .int a2), (3, .int a3), (6, .int a6)]) C dX12_lay__88 (by rw [hn9]; decide) rfl ?_
  refine r_sipush (v := 128) C dX12_lay__90 (by decide) ?_
  refine r_iload C dX12_lay__93 6 rfl ?_
  show Jr _ _ _ _ _ _ 95 _
  refine r_bipush (v := 8) C dX12_lay__95 (by decide) ?_
  refine r_irem C dX12_lay__97 (by decide) rfl ?_
  refine r_ishr C dX12_lay__98 rfl ?_
  refine r_lbI h (fun v2 h => ?_)
  refine r_istore (lv' := [(9, .int v2), (8, .int v1), (7, .int b0), (0, .ref (ad 133)), (1, .int a1), (2, .int a2), (3, .int a3), (6, .int a6)]) C dX12_lay__99 (by rw [hn9]; decide) rfl ?_
  refine r_iload_n C dX12_lay__101 rfl 6 rfl ?_
  refine r_if_ne (tgt := 137) C dX12_lay__102 (by decide) h (fun h => ?_) (fun h => ?_)
  · refine r_aload_n C dX12_lay__137 rfl 3 rfl ?_
    refine r_iload_n C dX12_lay__138 rfl 4 rfl ?_
    refine r_iload_n C dX12_lay__139 rfl 5 rfl ?_
    refine r_callVI C M h [.int a1, .int a2] [] mlX12_179 mcX12_patternAt (fun q9 e9 => s_X12_patternAt a1 a2  e9) kq_133 rfl (by decide) (by decide) rfl rfl (Nat.le_of_ble_eq_true rfl) dX12_lay__140 (fun v3 T4 h => ?_)
    refine r_iconst (v := 1) C dX12_lay__143 (by decide) ?_
    show Jr _ _ _ _ _ _ 144 _
    refine r_ic_ne (tgt := 168) C dX12_lay__144 (by decide) h (fun h => ?_) (fun h => ?_)
    · refine r_aload_n C dX12_lay__168 rfl 3 rfl ?_
      refine r_getp (f := 1200) (j := 134) C flX12_9 dX12_lay__169 kq_133 (by decide) rfl (fun W => pt_1200 kq_133 W) ?_
      refine r_bipush (v := 50) C dX12_lay__172 (by decide) ?_
      refine r_ialdc (n := 192) C 50 dX12_lay__174 kq_134 lq_134 (vp_lit (by decide)) (by decide) ?_
      refine r_iconst (v := 1) C dX12_lay__175 (by decide) ?_
      show Jr _ _ _ _ _ _ 176 _
      refine r_ic_eq (tgt := 189) C dX12_lay__176 (by decide) h (fun h => ?_) (fun h => ?_)
      · refine Jr.sub [3, 1, 0] (lv' := [(0, .ref (ad 133)), (8, .int v1), (9, .int v2)]) rfl ?_
        exact s_X12_lay__189 hn9 C M  v1 v2 T4 h
      · refine r_aload_n C dX12_lay__179 rfl 3 rfl ?_
        refine r_getp (f := 1248) (j := 163) C flX12_102 dX12_lay__180 kq_133 (by decide) rfl (fun W => pt_1248 kq_133 W) ?_
        refine r_iconst (v := 0) C dX12_lay__183 (by decide) ?_
        refine r_ialdc (n := 20) C 0 dX12_lay__184 kq_163 lq_163 (vp_lit (by decide)) (by decide) ?_
        refine r_iconst (v := 1) C dX12_lay__185 (by decide) ?_
        show Jr _ _ _ _ _ _ 186 _
        refine r_ic_ne (tgt := 209) C dX12_lay__186 (by decide) h (fun h => ?_) (fun h => ?_)
        · exact r_vret C M dX12_lay__209 h
        · refine Jr.sub [3, 1, 0] (lv' := [(0, .ref (ad 133)), (8, .int v1), (9, .int v2)]) rfl ?_
          exact s_X12_lay__189 hn9 C M  v1 v2 T4 h
    · refine r_aload_n C dX12_lay__147 rfl 3 rfl ?_
      refine r_getp (f := 1234) (j := 157) C flX12_82 dX12_lay__148 kq_133 (by decide) rfl (fun W => pt_1234 kq_133 W) ?_
      refine r_iload C dX12_lay__151 1 rfl ?_
      refine r_aload_n C dX12_lay__153 rfl 3 rfl ?_
      refine r_getp (f := 1234) (j := 157) C flX12_82 dX12_lay__154 kq_133 (by decide) rfl (fun W => pt_1234 kq_133 W) ?_
      show Jr _ _ _ _ _ _ 157 _
      refine r_iload C dX12_lay__157 1 rfl ?_
      refine r_bald (n := 64000) C dX12_lay__159 kq_157 lq_157 h (fun j5 hj6 h => ?_)
      refine r_iload C dX12_lay__160 0 rfl ?_
      refine r_ior C dX12_lay__162 rfl ?_
      refine r_i2b C dX12_lay__163 rfl ?_
      refine r_bast (n := 64000) C dX12_lay__164 kq_157 lq_157 h (fun j7 T9 hj8 h => ?_)
      show Jr _ _ _ _ _ _ 165 _
      refine r_goto (tgt := 209) C dX12_lay__165 (by decide) ?_
      exact r_vret C M dX12_lay__209 h
  · refine r_aload_n C dX12_lay__105 rfl 3 rfl ?_
    refine r_getp (f := 1200) (j := 134) C flX12_9 dX12_lay__106 kq_133 (by decide) rfl (fun W => pt_1200 kq_133 W) ?_
    refine r_bipush (v := 49) C dX12_lay__109 (by decide) ?_
    refine r_ialdc (n := 192) C 49 dX12_lay__111 kq_134 lq_134 (vp_lit (by decide)) (by decide) ?_
    refine r_iconst (v := 1) C dX12_lay__112 (by decide) ?_
    show Jr _ _ _ _ _ _ 113 _
    refine r_ic_ne (tgt := 136) C dX12_lay__113 (by decide) h (fun h => ?_) (fun h => ?_)
    · exact r_vret C M dX12_lay__136 h
    · refine r_aload_n C dX12_lay__116 rfl 3 rfl ?_
      refine r_getp (f := 1234) (j := 157) C flX12_82 dX12_lay__117 kq_133 (by decide) rfl (fun W => pt_1234 kq_133 W) ?_
      refine r_iload C dX12_lay__120 1 rfl ?_
      refine r_aload_n C dX12_lay__122 rfl 3 rfl ?_
      refine r_getp (f := 1234) (j := 157) C flX12_82 dX12_lay__123 kq_133 (by decide) rfl (fun W => pt_1234 kq_133 W) ?_
      show Jr _ _ _ _ _ _ 126 _
      refine r_iload C dX12_lay__126 1 rfl ?_
      refine r_bald (n := 64000) C dX12_lay__128 kq_157 lq_157 h (fun j10 hj11 h => ?_)
      refine r_iload C dX12_lay__129 0 rfl ?_
      refine r_iconst (v := (-1)) C dX12_lay__131 (by decide) ?_
      refine r_ixor C dX12_lay__132 rfl ?_
      refine r_iand C dX12_lay__133 rfl ?_
      show Jr _ _ _ _ _ _ 134 _
      refine r_i2b C dX12_lay__134 rfl ?_
      refine r_bast (n := 64000) C dX12_lay__135 kq_157 lq_157 h (fun j12 T14 hj13 h => ?_)
      exact r_vret C M dX12_lay__136 h
noncomputable def f_X12_lay__47 (a1 : Int32) (a2 : Int32) (a3 : Int32) (b0 : Int32) (T : Mm) : Option (Unit × Mm) :=
  if (gA T 134 1) = 0 then (f_X12_lay__75 a1 a2 a3 b0 a2 T)
  else (bd (f_X12_pageHigh (gA T 134 0) T) fun v1 T2 =>
  f_X12_lay__75 a1 a2 a3 b0 ((v1 - 1) - a1) T2)
set_option maxRecDepth 100000 in
set_option maxHeartbeats 4000000 in
theorem s_X12_lay__47 {x : JX} {ad : Nat → Nat} {U : Mm} {S0 : Hp} {q : Unit × Mm}  (hn9 : x_n x = 10) (C : CB x RX12 cX12_lay_) (M : CMr x 3 none S0 ad false U eV q) (a1 : Int32) (a2 : Int32) (a3 : Int32) (b0 : Int32) (T : Mm) (h : f_X12_lay__47  a1 a2 a3 b0 T = some q) : Jr x ad false U T [(0, .ref (ad 133)), (1, .int a1), (2, .int a2), (3, .int a3)] 47 [.int b0] := by
  unfold f_X12_lay__47 at h
  refine r_istore (lv' := [(6, .int b0), (0, .ref (ad 133)), (1, .int a1), (2, .int a2), (3, .int a3)]) C dX12_lay__47 (by rw [hn9]; decide) rfl ?_
  refine r_aload_n C dX12_lay__49 rfl 1 rfl ?_
  refine r_getp (f := 1200) (j := 134) C flX12_9 dX12_lay__50 kq_133 (by decide) rfl (fun W => pt_1200 kq_133 W) ?_
  refine r_iconst (v := 1) C dX12_lay__53 (by decide) ?_
  refine r_ialdc (n := 192) C 1 dX12_lay__54 kq_134 lq_134 (vp_lit (by decide)) (by decide) ?_
  show Jr _ _ _ _ _ _ 55 _
  refine r_if_ne (tgt := 62) C dX12_lay__55 (by decide) h (fun h => ?_) (fun h => ?_)
  · refine r_aload_n C dX12_lay__62 rfl 1 rfl ?_
    refine r_getp (f := 1200) (j := 134) C flX12_9 dX12_lay__63 kq_133 (by decide) rfl (fun W => pt_1200 kq_133 W) ?_
    refine r_iconst (v := 0) C dX12_lay__66 (by decide) ?_
    refine r_ialdc (n := 192) C 0 dX12_lay__67 kq_134 lq_134 (vp_lit (by decide)) (by decide) ?_
    refine r_callSI C M h [.int (gA T 134 0)] [] mlX12_160 mcX12_pageHigh (fun q9 e9 => s_X12_pageHigh (gA T 134 0)  e9) (by decide) (by decide) rfl rfl (Nat.le_of_ble_eq_true rfl) dX12_lay__68 (fun v1 T2 h => ?_)
    show Jr _ _ _ _ _ _ 71 _
    refine r_iconst (v := 1) C dX12_lay__71 (by decide) ?_
    refine r_isub C dX12_lay__72 rfl ?_
    refine r_iload_n C dX12_lay__73 rfl 2 rfl ?_
    refine r_isub C dX12_lay__74 rfl ?_
    refine Jr.sub [1, 2, 3, 4, 0] (lv' := [(0, .ref (ad 133)), (1, .int a1), (2, .int a2), (3, .int a3), (6, .int b0)]) rfl ?_
    exact s_X12_lay__75 hn9 C M  a1 a2 a3 b0 ((v1 - 1) - a1) T2 h
  · refine r_iload_n C dX12_lay__58 rfl 3 rfl ?_
    refine r_goto (tgt := 75) C dX12_lay__59 (by decide) ?_
    refine Jr.sub [1, 2, 3, 4, 0] (lv' := [(0, .ref (ad 133)), (1, .int a1), (2, .int a2), (3, .int a3), (6, .int b0)]) rfl ?_
    exact s_X12_lay__75 hn9 C M  a1 a2 a3 b0 a2 T h
noncomputable def f_X12_lay_ (p1 : Int32) (p2 : Int32) (p3 : Int32) (T : Mm) : Option (Unit × Mm) :=
  bd (f_X12_wide T) fun v1 T2 =>
  bd (f_X12_high T2) fun v3 T4 =>
  if p1 < 0 then (some ((), T4))
  else (if p2 < 0 then (some ((), T4))
  else (if v1 ≤ p1 then (some ((), T4))
  else (if p2 < v3 then (if (gA T4 134 1) = 0 then (f_X12_lay__47 p1 p2 p3 p1 T4)
  else (f_X12_lay__47 p1 p2 p3 p2 T4))
  else (some ((), T4)))))
set_option maxRecDepth 100000 in
set_option maxHeartbeats 4000000 in
theorem s_X12_lay_ {ad : Nat → Nat} {U T : Mm} {q : Unit × Mm}  (p1 : Int32) (p2 : Int32) (p3 : Int32) (h : f_X12_lay_ p1 p2 p3 T = some q) : Cr 3 yX12_lay_ cX12_lay_ 10 none [.ref (ad 133), .int p1, .int p2, .int p3] ad false U T eV q := by
  refine cr_of (by decide) (Nat.le_of_ble_eq_true rfl) fun x S0 hn9 C M => ?_
  have C : CB x RX12 cX12_lay_ := C
  refine Jr.eq (lv' := [(0, .ref (ad 133)), (1, .int p1), (2, .int p2), (3, .int p3)]) (st' := []) rfl rfl ?_
  unfold f_X12_lay_ at h
  refine r_aload_n C dX12_lay__0 rfl 0 rfl ?_
  refine r_callVI C M h [] [] mlX12_172 mcX12_wide (fun q9 e9 => s_X12_wide   e9) kq_133 rfl (by decide) (by decide) rfl rfl (Nat.le_of_ble_eq_true rfl) dX12_lay__1 (fun v1 T2 h => ?_)
  refine r_istore (lv' := [(4, .int v1), (0, .ref (ad 133)), (1, .int p1), (2, .int p2), (3, .int p3)]) C dX12_lay__4 (by rw [hn9]; decide) rfl ?_
  refine r_aload_n C dX12_lay__6 rfl 1 rfl ?_
  refine r_callVI C M h [] [] mlX12_176 mcX12_high (fun q9 e9 => s_X12_high   e9) kq_133 rfl (by decide) (by decide) rfl rfl (Nat.le_of_ble_eq_true rfl) dX12_lay__7 (fun v3 T4 h => ?_)
  show Jr _ _ _ _ _ _ 10 _
  refine r_istore (lv' := [(5, .int v3), (4, .int v1), (0, .ref (ad 133)), (1, .int p1), (2, .int p2), (3, .int p3)]) C dX12_lay__10 (by rw [hn9]; decide) rfl ?_
  refine r_iload_n C dX12_lay__12 rfl 3 rfl ?_
  refine r_if_lt (tgt := 32) C dX12_lay__13 (by decide) h (fun h => ?_) (fun h => ?_)
  · exact r_vret C M dX12_lay__32 h
  · refine r_iload_n C dX12_lay__16 rfl 4 rfl ?_
    refine r_if_lt (tgt := 32) C dX12_lay__17 (by decide) h (fun h => ?_) (fun h => ?_)
    · exact r_vret C M dX12_lay__32 h
    · refine r_iload_n C dX12_lay__20 rfl 3 rfl ?_
      refine r_iload C dX12_lay__21 1 rfl ?_
      refine r_ic_ge (tgt := 32) C dX12_lay__23 (by decide) h (fun h => ?_) (fun h => ?_)
      · exact r_vret C M dX12_lay__32 h
      · refine r_iload_n C dX12_lay__26 rfl 4 rfl ?_
        refine r_iload C dX12_lay__27 0 rfl ?_
        refine r_ic_lt (tgt := 33) C dX12_lay__29 (by decide) h (fun h => ?_) (fun h => ?_)
        · refine r_aload_n C dX12_lay__33 rfl 2 rfl ?_
          refine r_getp (f := 1200) (j := 134) C flX12_9 dX12_lay__34 kq_133 (by decide) rfl (fun W => pt_1200 kq_133 W) ?_
          refine r_iconst (v := 1) C dX12_lay__37 (by decide) ?_
          refine r_ialdc (n := 192) C 1 dX12_lay__38 kq_134 lq_134 (vp_lit (by decide)) (by decide) ?_
          refine r_if_ne (tgt := 46) C dX12_lay__39 (by decide) h (fun h => ?_) (fun h => ?_)
          · refine r_iload_n C dX12_lay__46 rfl 4 rfl ?_
            refine Jr.sub [2, 3, 4, 5] (lv' := [(0, .ref (ad 133)), (1, .int p1), (2, .int p2), (3, .int p3)]) rfl ?_
            exact s_X12_lay__47 hn9 C M  p1 p2 p3 p2 T4 h
          · refine r_iload_n C dX12_lay__42 rfl 3 rfl ?_
            refine r_goto (tgt := 47) C dX12_lay__43 (by decide) ?_
            refine Jr.sub [2, 3, 4, 5] (lv' := [(0, .ref (ad 133)), (1, .int p1), (2, .int p2), (3, .int p3)]) rfl ?_
            exact s_X12_lay__47 hn9 C M  p1 p2 p3 p1 T4 h
        · exact r_vret C M dX12_lay__32 h
theorem dX12_residentGlyph_0 : decode cX12_residentGlyph 0 = .ok (.iconst 0, 1) := by decide +kernel
theorem dX12_residentGlyph_1 : decode cX12_residentGlyph 1 = .ok (.istore 4, 2) := by decide +kernel
theorem dX12_residentGlyph_3 : decode cX12_residentGlyph 3 = .ok (.iload 4, 2) := by decide +kernel
theorem dX12_residentGlyph_5 : decode cX12_residentGlyph 5 = .ok (.bipush 8, 2) := by decide +kernel
theorem dX12_residentGlyph_7 : decode cX12_residentGlyph 7 = .ok (.if_icmp .ge 76, 3) := by decide +kernel
theorem dX12_residentGlyph_10 : decode cX12_residentGlyph 10 = .ok (.iload_n 1, 1) := by decide +kernel
theorem dX12_residentGlyph_11 : decode cX12_residentGlyph 11 = .ok (.iload_n 1, 1) := by decide +kernel
theorem dX12_residentGlyph_12 : decode cX12_residentGlyph 12 = .ok (.imul, 1) := by decide +kernel
theorem dX12_residentGlyph_13 : decode cX12_residentGlyph 13 = .ok (.bipush 7, 2) := by decide +kernel
theorem dX12_residentGlyph_15 : decode cX12_residentGlyph 15 = .ok (.iload_n 1, 1) := by decide +kernel
theorem dX12_residentGlyph_16 : decode cX12_residentGlyph 16 = .ok (.imul, 1) := by decide +kernel
theorem dX12_residentGlyph_17 : decode cX12_residentGlyph 17 = .ok (.iload 4, 2) := by decide +kernel
theorem dX12_residentGlyph_19 : decode cX12_residentGlyph 19 = .ok (.imul, 1) := by decide +kernel
theorem dX12_residentGlyph_20 : decode cX12_residentGlyph 20 = .ok (.iadd, 1) := by decide +kernel
theorem dX12_residentGlyph_21 : decode cX12_residentGlyph 21 = .ok (.bipush 13, 2) := by decide +kernel
theorem dX12_residentGlyph_23 : decode cX12_residentGlyph 23 = .ok (.iload 4, 2) := by decide +kernel
theorem dX12_residentGlyph_25 : decode cX12_residentGlyph 25 = .ok (.imul, 1) := by decide +kernel
theorem dX12_residentGlyph_26 : decode cX12_residentGlyph 26 = .ok (.iload 4, 2) := by decide +kernel
theorem dX12_residentGlyph_28 : decode cX12_residentGlyph 28 = .ok (.imul, 1) := by decide +kernel
theorem dX12_residentGlyph_29 : decode cX12_residentGlyph 29 = .ok (.iadd, 1) := by decide +kernel
theorem dX12_residentGlyph_30 : decode cX12_residentGlyph 30 = .ok (.iconst 4, 1) := by decide +kernel
theorem dX12_residentGlyph_31 : decode cX12_residentGlyph 31 = .ok (.idiv, 1) := by decide +kernel
theorem dX12_residentGlyph_32 : decode cX12_residentGlyph 32 = .ok (.bipush 63, 2) := by decide +kernel
theorem dX12_residentGlyph_34 : decode cX12_residentGlyph 34 = .ok (.iand, 1) := by decide +kernel
theorem dX12_residentGlyph_35 : decode cX12_residentGlyph 35 = .ok (.istore 5, 2) := by decide +kernel
theorem dX12_residentGlyph_37 : decode cX12_residentGlyph 37 = .ok (.iconst 0, 1) := by decide +kernel
theorem dX12_residentGlyph_38 : decode cX12_residentGlyph 38 = .ok (.istore 6, 2) := by decide +kernel
theorem dX12_residentGlyph_40 : decode cX12_residentGlyph 40 = .ok (.iload 6, 2) := by decide +kernel
theorem dX12_residentGlyph_42 : decode cX12_residentGlyph 42 = .ok (.bipush 6, 2) := by decide +kernel
theorem dX12_residentGlyph_44 : decode cX12_residentGlyph 44 = .ok (.if_icmp .ge 33, 3) := by decide +kernel
theorem dX12_residentGlyph_47 : decode cX12_residentGlyph 47 = .ok (.aload_n 0, 1) := by decide +kernel
theorem dX12_residentGlyph_48 : decode cX12_residentGlyph 48 = .ok (.iload_n 2, 1) := by decide +kernel
theorem dX12_residentGlyph_49 : decode cX12_residentGlyph 49 = .ok (.iload 6, 2) := by decide +kernel
theorem dX12_residentGlyph_51 : decode cX12_residentGlyph 51 = .ok (.iadd, 1) := by decide +kernel
theorem dX12_residentGlyph_52 : decode cX12_residentGlyph 52 = .ok (.iload_n 3, 1) := by decide +kernel
theorem dX12_residentGlyph_53 : decode cX12_residentGlyph 53 = .ok (.bipush 7, 2) := by decide +kernel
theorem dX12_residentGlyph_55 : decode cX12_residentGlyph 55 = .ok (.isub, 1) := by decide +kernel
theorem dX12_residentGlyph_56 : decode cX12_residentGlyph 56 = .ok (.iload 4, 2) := by decide +kernel
theorem dX12_residentGlyph_58 : decode cX12_residentGlyph 58 = .ok (.iadd, 1) := by decide +kernel
theorem dX12_residentGlyph_59 : decode cX12_residentGlyph 59 = .ok (.iload 5, 2) := by decide +kernel
theorem dX12_residentGlyph_61 : decode cX12_residentGlyph 61 = .ok (.iconst 5, 1) := by decide +kernel
theorem dX12_residentGlyph_62 : decode cX12_residentGlyph 62 = .ok (.iload 6, 2) := by decide +kernel
theorem dX12_residentGlyph_64 : decode cX12_residentGlyph 64 = .ok (.isub, 1) := by decide +kernel
theorem dX12_residentGlyph_65 : decode cX12_residentGlyph 65 = .ok (.ishr, 1) := by decide +kernel
theorem dX12_residentGlyph_66 : decode cX12_residentGlyph 66 = .ok (.iconst 1, 1) := by decide +kernel
theorem dX12_residentGlyph_67 : decode cX12_residentGlyph 67 = .ok (.iand, 1) := by decide +kernel
theorem dX12_residentGlyph_68 : decode cX12_residentGlyph 68 = .ok (.invokevirtual 331, 3) := by decide +kernel
theorem dX12_residentGlyph_71 : decode cX12_residentGlyph 71 = .ok (.iinc 6 1, 3) := by decide +kernel
theorem dX12_residentGlyph_74 : decode cX12_residentGlyph 74 = .ok (.goto (-34), 3) := by decide +kernel
theorem dX12_residentGlyph_77 : decode cX12_residentGlyph 77 = .ok (.iinc 4 1, 3) := by decide +kernel
theorem dX12_residentGlyph_80 : decode cX12_residentGlyph 80 = .ok (.goto (-77), 3) := by decide +kernel
theorem dX12_residentGlyph_83 : decode cX12_residentGlyph 83 = .ok (.return_, 1) := by decide +kernel
noncomputable def f_X12_residentGlyph_b40 (k3 : Int32 → Int32 → Int32 → Int32 → Mm → Option (Unit × Mm)) (k40 : Int32 → Int32 → Int32 → Int32 → Int32 → Int32 → Mm → Option (Unit × Mm)) (a1 : Int32) (a2 : Int32) (a3 : Int32) (a4 : Int32) (a5 : Int32) (a6 : Int32) (T : Mm) : Option (Unit × Mm) :=
  if 6 ≤ a6 then (k3 a1 a2 a3 (a4 + 1) T)
  else (bd (f_X12_lay_ (a2 + a6) ((a3 - 7) + a4) ((a5 >>> (((5 : Int32) - a6) &&& 31)) &&& 1) T) fun _ T1 =>
  k40 a1 a2 a3 a4 a5 (a6 + 1) T1)
set_option maxRecDepth 100000 in
set_option maxHeartbeats 4000000 in
theorem s_X12_residentGlyph_b40 {x : JX} {ad : Nat → Nat} {U : Mm} {S0 : Hp} {q : Unit × Mm}  {k3 : Int32 → Int32 → Int32 → Int32 → Mm → Option (Unit × Mm)} {k40 : Int32 → Int32 → Int32 → Int32 → Int32 → Int32 → Mm → Option (Unit × Mm)} (hn9 : x_n x = 7) (C : CB x RX12 cX12_residentGlyph) (M : CMr x 4 none S0 ad false U eV q) (hk3 : ∀ (a1 : Int32) (a2 : Int32) (a3 : Int32) (a4 : Int32) (T : Mm), k3 a1 a2 a3 a4 T = some q → Jr x ad false U T [(0, .ref (ad 133)), (1, .int a1), (2, .int a2), (3, .int a3), (4, .int a4)] 3 []) (hk40 : ∀ (a1 : Int32) (a2 : Int32) (a3 : Int32) (a4 : Int32) (a5 : Int32) (a6 : Int32) (T : Mm), k40 a1 a2 a3 a4 a5 a6 T = some q → Jr x ad false U T [(0, .ref (ad 133)), (1, .int a1), (2, .int a2), (3, .int a3), (4, .int a4), (5, .int a5), (6, .int a6)] 40 []) (a1 : Int32) (a2 : Int32) (a3 : Int32) (a4 : Int32) (a5 : Int32) (a6 : Int32) (T : Mm) (h : f_X12_residentGlyph_b40 k3 k40 a1 a2 a3 a4 a5 a6 T = some q) : Jr x ad false U T [(0, .ref (ad 133)), (1, .int a1), (2, .int a2), (3, .int a3), (4, .int a4), (5, .int a5), (6, .int a6)] 40 [] := by
  unfold f_X12_residentGlyph_b40 at h
  refine r_iload C dX12_residentGlyph_40 6 rfl ?_
  refine r_bipush (v := 6) C dX12_residentGlyph_42 (by decide) ?_
  refine r_ic_ge (tgt := 77) C dX12_residentGlyph_44 (by decide) h (fun h => ?_) (fun h => ?_)
  · refine r_iinc (q := 4) (v := (a4 + 1)) (lv' := [(4, .int (a4 + 1)), (0, .ref (ad 133)), (1, .int a1), (2, .int a2), (3, .int a3), (5, .int a5), (6, .int a6)]) C dX12_residentGlyph_77 rfl (by rw [show Int32.ofInt (1) = 1 by decide]) (by rw [hn9]; decide) rfl ?_
    refine r_goto (tgt := 3) C dX12_residentGlyph_80 (by decide) ?_
    refine Jr.sub [1, 2, 3, 4, 0] (lv' := [(0, .ref (ad 133)), (1, .int a1), (2, .int a2), (3, .int a3), (4, .int (a4 + 1))]) rfl ?_
    exact hk3 a1 a2 a3 (a4 + 1) T h
  · refine r_aload_n C dX12_residentGlyph_47 rfl 0 rfl ?_
    refine r_iload_n C dX12_residentGlyph_48 rfl 2 rfl ?_
    refine r_iload C dX12_residentGlyph_49 6 rfl ?_
    refine r_iadd C dX12_residentGlyph_51 rfl ?_
    refine r_iload_n C dX12_residentGlyph_52 rfl 3 rfl ?_
    show Jr _ _ _ _ _ _ 53 _
    refine r_bipush (v := 7) C dX12_residentGlyph_53 (by decide) ?_
    refine r_isub C dX12_residentGlyph_55 rfl ?_
    refine r_iload C dX12_residentGlyph_56 4 rfl ?_
    refine r_iadd C dX12_residentGlyph_58 rfl ?_
    refine r_iload C dX12_residentGlyph_59 5 rfl ?_
    refine r_iconst (v := 5) C dX12_residentGlyph_61 (by decide) ?_
    show Jr _ _ _ _ _ _ 62 _
    refine r_iload C dX12_residentGlyph_62 6 rfl ?_
    refine r_isub C dX12_residentGlyph_64 rfl ?_
    refine r_ishr C dX12_residentGlyph_65 rfl ?_
    refine r_iconst (v := 1) C dX12_residentGlyph_66 (by decide) ?_
    refine r_iand C dX12_residentGlyph_67 rfl ?_
    refine r_callVN C M h [.int (a2 + a6), .int ((a3 - 7) + a4), .int ((a5 >>> (((5 : Int32) - a6) &&& 31)) &&& 1)] [] mlX12_331 mcX12_lay_ (fun q9 e9 => s_X12_lay_ (a2 + a6) ((a3 - 7) + a4) ((a5 >>> (((5 : Int32) - a6) &&& 31)) &&& 1)  e9) kq_133 rfl (by decide) (by decide) rfl rfl (Nat.le_of_ble_eq_true rfl) dX12_residentGlyph_68 (fun _ T1 h => ?_)
    show Jr _ _ _ _ _ _ 71 _
    refine r_iinc (q := 6) (v := (a6 + 1)) (lv' := [(6, .int (a6 + 1)), (0, .ref (ad 133)), (1, .int a1), (2, .int a2), (3, .int a3), (4, .int a4), (5, .int a5)]) C dX12_residentGlyph_71 rfl (by rw [show Int32.ofInt (1) = 1 by decide]) (by rw [hn9]; decide) rfl ?_
    refine r_goto (tgt := 40) C dX12_residentGlyph_74 (by decide) ?_
    refine Jr.sub [1, 2, 3, 4, 5, 6, 0] (lv' := [(0, .ref (ad 133)), (1, .int a1), (2, .int a2), (3, .int a3), (4, .int a4), (5, .int a5), (6, .int (a6 + 1))]) rfl ?_
    exact hk40 a1 a2 a3 a4 a5 (a6 + 1) T1 h
noncomputable def f_X12_residentGlyph_l40 (k3 : Int32 → Int32 → Int32 → Int32 → Mm → Option (Unit × Mm)) (n : Nat) : Int32 → Int32 → Int32 → Int32 → Int32 → Int32 → Mm → Option (Unit × Mm) := Nat.rec (fun _ _ _ _ _ _ _ => none) (fun _ ih => f_X12_residentGlyph_b40 k3 ih) n
theorem s_X12_residentGlyph_l40 {x : JX} {ad : Nat → Nat} {U : Mm} {S0 : Hp} {q : Unit × Mm}  {k3 : Int32 → Int32 → Int32 → Int32 → Mm → Option (Unit × Mm)} (hn9 : x_n x = 7) (C : CB x RX12 cX12_residentGlyph) (M : CMr x 4 none S0 ad false U eV q) (hk3 : ∀ (a1 : Int32) (a2 : Int32) (a3 : Int32) (a4 : Int32) (T : Mm), k3 a1 a2 a3 a4 T = some q → Jr x ad false U T [(0, .ref (ad 133)), (1, .int a1), (2, .int a2), (3, .int a3), (4, .int a4)] 3 []) : ∀ (n : Nat), ∀ (a1 : Int32) (a2 : Int32) (a3 : Int32) (a4 : Int32) (a5 : Int32) (a6 : Int32) (T : Mm), f_X12_residentGlyph_l40 k3 n a1 a2 a3 a4 a5 a6 T = some q → Jr x ad false U T [(0, .ref (ad 133)), (1, .int a1), (2, .int a2), (3, .int a3), (4, .int a4), (5, .int a5), (6, .int a6)] 40 [] := by
  intro n
  induction n with
  | zero => intro a1 a2 a3 a4 a5 a6 T  h; exact absurd h (by intro h; cases h)
  | succ n ih => exact fun a1 a2 a3 a4 a5 a6 T  h => s_X12_residentGlyph_b40 hn9 C M hk3 (ih) a1 a2 a3 a4 a5 a6 T  h
noncomputable def f_X12_residentGlyph_b3 (k3 : Int32 → Int32 → Int32 → Int32 → Mm → Option (Unit × Mm)) (a1 : Int32) (a2 : Int32) (a3 : Int32) (a4 : Int32) (T : Mm) : Option (Unit × Mm) :=
  if 8 ≤ a4 then (some ((), T))
  else (lb ((((((a1 * a1) + (((7 : Int32) * a1) * a4)) + (((13 : Int32) * a4) * a4)) / 4) &&& 63)) fun v1 =>
  f_X12_residentGlyph_l40 k3 FU a1 a2 a3 a4 v1 0 T)
set_option maxRecDepth 100000 in
set_option maxHeartbeats 4000000 in
theorem s_X12_residentGlyph_b3 {x : JX} {ad : Nat → Nat} {U : Mm} {S0 : Hp} {q : Unit × Mm}  {k3 : Int32 → Int32 → Int32 → Int32 → Mm → Option (Unit × Mm)} (hn9 : x_n x = 7) (C : CB x RX12 cX12_residentGlyph) (M : CMr x 4 none S0 ad false U eV q) (hk3 : ∀ (a1 : Int32) (a2 : Int32) (a3 : Int32) (a4 : Int32) (T : Mm), k3 a1 a2 a3 a4 T = some q → Jr x ad false U T [(0, .ref (ad 133)), (1, .int a1), (2, .int a2), (3, .int a3), (4, .int a4)] 3 []) (a1 : Int32) (a2 : Int32) (a3 : Int32) (a4 : Int32) (T : Mm) (h : f_X12_residentGlyph_b3 k3 a1 a2 a3 a4 T = some q) : Jr x ad false U T [(0, .ref (ad 133)), (1, .int a1), (2, .int a2), (3, .int a3), (4, .int a4)] 3 [] := by
  unfold f_X12_residentGlyph_b3 at h
  refine r_iload C dX12_residentGlyph_3 4 rfl ?_
  refine r_bipush (v := 8) C dX12_residentGlyph_5 (by decide) ?_
  refine r_ic_ge (tgt := 83) C dX12_residentGlyph_7 (by decide) h (fun h => ?_) (fun h => ?_)
  · exact r_vret C M dX12_residentGlyph_83 h
  · refine r_iload_n C dX12_residentGlyph_10 rfl 1 rfl ?_
    refine r_iload_n C dX12_residentGlyph_11 rfl 1 rfl ?_
    refine r_imul C dX12_residentGlyph_12 rfl ?_
    refine r_bipush (v := 7) C dX12_residentGlyph_13 (by decide) ?_
    refine r_iload_n C dX12_residentGlyph_15 rfl 1 rfl ?_
    show Jr _ _ _ _ _ _ 16 _
    refine r_imul C dX12_residentGlyph_16 rfl ?_
    refine r_iload C dX12_residentGlyph_17 4 rfl ?_
    refine r_imul C dX12_residentGlyph_19 rfl ?_
    refine r_iadd C dX12_residentGlyph_20 rfl ?_
    refine r_bipush (v := 13) C dX12_residentGlyph_21 (by decide) ?_
    refine r_iload C dX12_residentGlyph_23 4 rfl ?_
    show Jr _ _ _ _ _ _ 25 _
    refine r_imul C dX12_residentGlyph_25 rfl ?_
    refine r_iload C dX12_residentGlyph_26 4 rfl ?_
    refine r_imul C dX12_residentGlyph_28 rfl ?_
    refine r_iadd C dX12_residentGlyph_29 rfl ?_
    refine r_iconst (v := 4) C dX12_residentGlyph_30 (by decide) ?_
    refine r_idiv C dX12_residentGlyph_31 (by decide) rfl ?_
    show Jr _ _ _ _ _ _ 32 _
    refine r_bipush (v := 63) C dX12_residentGlyph_32 (by decide) ?_
    refine r_iand C dX12_residentGlyph_34 rfl ?_
    refine r_lbI h (fun v1 h => ?_)
    refine r_istore (lv' := [(5, .int v1), (0, .ref (ad 133)), (1, .int a1), (2, .int a2), (3, .int a3), (4, .int a4)]) C dX12_residentGlyph_35 (by rw [hn9]; decide) rfl ?_
    refine r_iconst (v := 0) C dX12_residentGlyph_37 (by decide) ?_
    refine r_istore (lv' := [(6, .int 0), (5, .int v1), (0, .ref (ad 133)), (1, .int a1), (2, .int a2), (3, .int a3), (4, .int a4)]) C dX12_residentGlyph_38 (by rw [hn9]; decide) rfl ?_
    refine Jr.sub [2, 3, 4, 5, 6, 1, 0] (lv' := [(0, .ref (ad 133)), (1, .int a1), (2, .int a2), (3, .int a3), (4, .int a4), (5, .int v1), (6, .int 0)]) rfl ?_
    exact s_X12_residentGlyph_l40 hn9 C M hk3 FU a1 a2 a3 a4 v1 0 T h
noncomputable def f_X12_residentGlyph_l3 (n : Nat) : Int32 → Int32 → Int32 → Int32 → Mm → Option (Unit × Mm) := Nat.rec (fun _ _ _ _ _ => none) (fun _ ih => f_X12_residentGlyph_b3 ih) n
theorem s_X12_residentGlyph_l3 {x : JX} {ad : Nat → Nat} {U : Mm} {S0 : Hp} {q : Unit × Mm}  (hn9 : x_n x = 7) (C : CB x RX12 cX12_residentGlyph) (M : CMr x 4 none S0 ad false U eV q) : ∀ (n : Nat), ∀ (a1 : Int32) (a2 : Int32) (a3 : Int32) (a4 : Int32) (T : Mm), f_X12_residentGlyph_l3  n a1 a2 a3 a4 T = some q → Jr x ad false U T [(0, .ref (ad 133)), (1, .int a1), (2, .int a2), (3, .int a3), (4, .int a4)] 3 [] := by
  intro n
  induction n with
  | zero => intro a1 a2 a3 a4 T  h; exact absurd h (by intro h; cases h)
  | succ n ih => exact fun a1 a2 a3 a4 T  h => s_X12_residentGlyph_b3 hn9 C M (ih) a1 a2 a3 a4 T  h
noncomputable def f_X12_residentGlyph (p1 : Int32) (p2 : Int32) (p3 : Int32) (T : Mm) : Option (Unit × Mm) :=
  f_X12_residentGlyph_l3 FU p1 p2 p3 0 T
set_option maxRecDepth 100000 in
set_option maxHeartbeats 4000000 in
theorem s_X12_residentGlyph {ad : Nat → Nat} {U T : Mm} {q : Unit × Mm}  (p1 : Int32) (p2 : Int32) (p3 : Int32) (h : f_X12_residentGlyph p1 p2 p3 T = some q) : Cr 4 yX12_residentGlyph cX12_residentGlyph 7 none [.ref (ad 133), .int p1, .int p2, .int p3] ad false U T eV q := by
  refine cr_of (by decide) (Nat.le_of_ble_eq_true rfl) fun x S0 hn9 C M => ?_
  have C : CB x RX12 cX12_residentGlyph := C
  refine Jr.eq (lv' := [(0, .ref (ad 133)), (1, .int p1), (2, .int p2), (3, .int p3)]) (st' := []) rfl rfl ?_
  unfold f_X12_residentGlyph at h
  refine r_iconst (v := 0) C dX12_residentGlyph_0 (by decide) ?_
  refine r_istore (lv' := [(4, .int 0), (0, .ref (ad 133)), (1, .int p1), (2, .int p2), (3, .int p3)]) C dX12_residentGlyph_1 (by rw [hn9]; decide) rfl ?_
  refine Jr.sub [1, 2, 3, 4, 0] (lv' := [(0, .ref (ad 133)), (1, .int p1), (2, .int p2), (3, .int p3), (4, .int 0)]) rfl ?_
  exact s_X12_residentGlyph_l3 hn9 C M  FU p1 p2 p3 0 T h
theorem dX12_glyph_0 : decode cX12_glyph 0 = .ok (.aload_n 0, 1) := by decide +kernel
theorem dX12_glyph_1 : decode cX12_glyph 1 = .ok (.getfield 32, 3) := by decide +kernel
theorem dX12_glyph_4 : decode cX12_glyph 4 = .ok (.iconst 5, 1) := by decide +kernel
theorem dX12_glyph_5 : decode cX12_glyph 5 = .ok (.iload_n 1, 1) := by decide +kernel
theorem dX12_glyph_6 : decode cX12_glyph 6 = .ok (.imul, 1) := by decide +kernel
theorem dX12_glyph_7 : decode cX12_glyph 7 = .ok (.iconst 2, 1) := by decide +kernel
theorem dX12_glyph_8 : decode cX12_glyph 8 = .ok (.iadd, 1) := by decide +kernel
theorem dX12_glyph_9 : decode cX12_glyph 9 = .ok (.iaload, 1) := by decide +kernel
theorem dX12_glyph_10 : decode cX12_glyph 10 = .ok (.istore 4, 2) := by decide +kernel
theorem dX12_glyph_12 : decode cX12_glyph 12 = .ok (.aload_n 0, 1) := by decide +kernel
theorem dX12_glyph_13 : decode cX12_glyph 13 = .ok (.getfield 32, 3) := by decide +kernel
theorem dX12_glyph_16 : decode cX12_glyph 16 = .ok (.iconst 5, 1) := by decide +kernel
theorem dX12_glyph_17 : decode cX12_glyph 17 = .ok (.iload_n 1, 1) := by decide +kernel
theorem dX12_glyph_18 : decode cX12_glyph 18 = .ok (.imul, 1) := by decide +kernel
theorem dX12_glyph_19 : decode cX12_glyph 19 = .ok (.iconst 3, 1) := by decide +kernel
theorem dX12_glyph_20 : decode cX12_glyph 20 = .ok (.iadd, 1) := by decide +kernel
theorem dX12_glyph_21 : decode cX12_glyph 21 = .ok (.iaload, 1) := by decide +kernel
theorem dX12_glyph_22 : decode cX12_glyph 22 = .ok (.istore 5, 2) := by decide +kernel
theorem dX12_glyph_24 : decode cX12_glyph 24 = .ok (.iconst 0, 1) := by decide +kernel
theorem dX12_glyph_25 : decode cX12_glyph 25 = .ok (.istore 6, 2) := by decide +kernel
theorem dX12_glyph_27 : decode cX12_glyph 27 = .ok (.iload 6, 2) := by decide +kernel
theorem dX12_glyph_29 : decode cX12_glyph 29 = .ok (.iload 5, 2) := by decide +kernel
theorem dX12_glyph_31 : decode cX12_glyph 31 = .ok (.if_icmp .ge 79, 3) := by decide +kernel
theorem dX12_glyph_34 : decode cX12_glyph 34 = .ok (.iconst 0, 1) := by decide +kernel
theorem dX12_glyph_35 : decode cX12_glyph 35 = .ok (.istore 7, 2) := by decide +kernel
theorem dX12_glyph_37 : decode cX12_glyph 37 = .ok (.iload 7, 2) := by decide +kernel
theorem dX12_glyph_39 : decode cX12_glyph 39 = .ok (.iload 4, 2) := by decide +kernel
theorem dX12_glyph_41 : decode cX12_glyph 41 = .ok (.if_icmp .ge 63, 3) := by decide +kernel
theorem dX12_glyph_44 : decode cX12_glyph 44 = .ok (.aload_n 0, 1) := by decide +kernel
theorem dX12_glyph_45 : decode cX12_glyph 45 = .ok (.iload_n 2, 1) := by decide +kernel
theorem dX12_glyph_46 : decode cX12_glyph 46 = .ok (.aload_n 0, 1) := by decide +kernel
theorem dX12_glyph_47 : decode cX12_glyph 47 = .ok (.getfield 32, 3) := by decide +kernel
theorem dX12_glyph_50 : decode cX12_glyph 50 = .ok (.iconst 5, 1) := by decide +kernel
theorem dX12_glyph_51 : decode cX12_glyph 51 = .ok (.iload_n 1, 1) := by decide +kernel
theorem dX12_glyph_52 : decode cX12_glyph 52 = .ok (.imul, 1) := by decide +kernel
theorem dX12_glyph_53 : decode cX12_glyph 53 = .ok (.iaload, 1) := by decide +kernel
theorem dX12_glyph_54 : decode cX12_glyph 54 = .ok (.iadd, 1) := by decide +kernel
theorem dX12_glyph_55 : decode cX12_glyph 55 = .ok (.iload 7, 2) := by decide +kernel
theorem dX12_glyph_57 : decode cX12_glyph 57 = .ok (.iadd, 1) := by decide +kernel
theorem dX12_glyph_58 : decode cX12_glyph 58 = .ok (.iload_n 3, 1) := by decide +kernel
theorem dX12_glyph_59 : decode cX12_glyph 59 = .ok (.aload_n 0, 1) := by decide +kernel
theorem dX12_glyph_60 : decode cX12_glyph 60 = .ok (.getfield 32, 3) := by decide +kernel
theorem dX12_glyph_63 : decode cX12_glyph 63 = .ok (.iconst 5, 1) := by decide +kernel
theorem dX12_glyph_64 : decode cX12_glyph 64 = .ok (.iload_n 1, 1) := by decide +kernel
theorem dX12_glyph_65 : decode cX12_glyph 65 = .ok (.imul, 1) := by decide +kernel
theorem dX12_glyph_66 : decode cX12_glyph 66 = .ok (.iconst 1, 1) := by decide +kernel
theorem dX12_glyph_67 : decode cX12_glyph 67 = .ok (.iadd, 1) := by decide +kernel
theorem dX12_glyph_68 : decode cX12_glyph 68 = .ok (.iaload, 1) := by decide +kernel
theorem dX12_glyph_69 : decode cX12_glyph 69 = .ok (.isub, 1) := by decide +kernel
theorem dX12_glyph_70 : decode cX12_glyph 70 = .ok (.iload 6, 2) := by decide +kernel
theorem dX12_glyph_72 : decode cX12_glyph 72 = .ok (.iadd, 1) := by decide +kernel
theorem dX12_glyph_73 : decode cX12_glyph 73 = .ok (.aload_n 0, 1) := by decide +kernel
theorem dX12_glyph_74 : decode cX12_glyph 74 = .ok (.getfield 35, 3) := by decide +kernel
theorem dX12_glyph_77 : decode cX12_glyph 77 = .ok (.bipush 32, 2) := by decide +kernel
theorem dX12_glyph_79 : decode cX12_glyph 79 = .ok (.iload_n 1, 1) := by decide +kernel
theorem dX12_glyph_80 : decode cX12_glyph 80 = .ok (.imul, 1) := by decide +kernel
theorem dX12_glyph_81 : decode cX12_glyph 81 = .ok (.iload 6, 2) := by decide +kernel
theorem dX12_glyph_83 : decode cX12_glyph 83 = .ok (.iadd, 1) := by decide +kernel
theorem dX12_glyph_84 : decode cX12_glyph 84 = .ok (.iaload, 1) := by decide +kernel
theorem dX12_glyph_85 : decode cX12_glyph 85 = .ok (.iload 4, 2) := by decide +kernel
theorem dX12_glyph_87 : decode cX12_glyph 87 = .ok (.iconst 1, 1) := by decide +kernel
theorem dX12_glyph_88 : decode cX12_glyph 88 = .ok (.isub, 1) := by decide +kernel
theorem dX12_glyph_89 : decode cX12_glyph 89 = .ok (.iload 7, 2) := by decide +kernel
theorem dX12_glyph_91 : decode cX12_glyph 91 = .ok (.isub, 1) := by decide +kernel
theorem dX12_glyph_92 : decode cX12_glyph 92 = .ok (.ishr, 1) := by decide +kernel
theorem dX12_glyph_93 : decode cX12_glyph 93 = .ok (.iconst 1, 1) := by decide +kernel
theorem dX12_glyph_94 : decode cX12_glyph 94 = .ok (.iand, 1) := by decide +kernel
theorem dX12_glyph_95 : decode cX12_glyph 95 = .ok (.invokevirtual 331, 3) := by decide +kernel
theorem dX12_glyph_98 : decode cX12_glyph 98 = .ok (.iinc 7 1, 3) := by decide +kernel
theorem dX12_glyph_101 : decode cX12_glyph 101 = .ok (.goto (-64), 3) := by decide +kernel
theorem dX12_glyph_104 : decode cX12_glyph 104 = .ok (.iinc 6 1, 3) := by decide +kernel
theorem dX12_glyph_107 : decode cX12_glyph 107 = .ok (.goto (-80), 3) := by decide +kernel
theorem dX12_glyph_110 : decode cX12_glyph 110 = .ok (.return_, 1) := by decide +kernel
noncomputable def f_X12_glyph_b37 (k27 : Int32 → Int32 → Int32 → Int32 → Int32 → Int32 → Mm → Option (Unit × Mm)) (k37 : Int32 → Int32 → Int32 → Int32 → Int32 → Int32 → Int32 → Mm → Option (Unit × Mm)) (a1 : Int32) (a2 : Int32) (a3 : Int32) (a4 : Int32) (a5 : Int32) (a6 : Int32) (a7 : Int32) (T : Mm) : Option (Unit × Mm) :=
  if a4 ≤ a7 then (k27 a1 a2 a3 a4 a5 (a6 + 1) T)
  else (ix ((5 : Int32) * a1) 2000 fun j1 =>
  ix (((5 : Int32) * a1) + 1) 2000 fun j3 =>
  ix (((32 : Int32) * a1) + a6) 12800 fun j5 =>
  bd (f_X12_lay_ ((a2 + (gA T 141 j1)) + a7) ((a3 - (gA T 141 j3)) + a6) (((gA T 142 j5) >>> (((a4 - 1) - a7) &&& 31)) &&& 1) T) fun _ T7 =>
  k37 a1 a2 a3 a4 a5 a6 (a7 + 1) T7)
set_option maxRecDepth 100000 in
set_option maxHeartbeats 4000000 in
theorem s_X12_glyph_b37 {x : JX} {ad : Nat → Nat} {U : Mm} {S0 : Hp} {q : Unit × Mm}  {k27 : Int32 → Int32 → Int32 → Int32 → Int32 → Int32 → Mm → Option (Unit × Mm)} {k37 : Int32 → Int32 → Int32 → Int32 → Int32 → Int32 → Int32 → Mm → Option (Unit × Mm)} (hn9 : x_n x = 8) (C : CB x RX12 cX12_glyph) (M : CMr x 4 none S0 ad false U eV q) (hk27 : ∀ (a1 : Int32) (a2 : Int32) (a3 : Int32) (a4 : Int32) (a5 : Int32) (a6 : Int32) (T : Mm), k27 a1 a2 a3 a4 a5 a6 T = some q → Jr x ad false U T [(0, .ref (ad 133)), (1, .int a1), (2, .int a2), (3, .int a3), (4, .int a4), (5, .int a5), (6, .int a6)] 27 []) (hk37 : ∀ (a1 : Int32) (a2 : Int32) (a3 : Int32) (a4 : Int32) (a5 : Int32) (a6 : Int32) (a7 : Int32) (T : Mm), k37 a1 a2 a3 a4 a5 a6 a7 T = some q → Jr x ad false U T [(0, .ref (ad 133)), (1, .int a1), (2, .int a2), (3, .int a3), (4, .int a4), (5, .int a5), (6, .int a6), (7, .int a7)] 37 []) (a1 : Int32) (a2 : Int32) (a3 : Int32) (a4 : Int32) (a5 : Int32) (a6 : Int32) (a7 : Int32) (T : Mm) (h : f_X12_glyph_b37 k27 k37 a1 a2 a3 a4 a5 a6 a7 T = some q) : Jr x ad false U T [(0, .ref (ad 133)), (1, .int a1), (2, .int a2), (3, .int a3), (4, .int a4), (5, .int a5), (6, .int a6), (7, .int a7)] 37 [] := by
  unfold f_X12_glyph_b37 at h
  refine r_iload C dX12_glyph_37 7 rfl ?_
  refine r_iload C dX12_glyph_39 4 rfl ?_
  refine r_ic_ge (tgt := 104) C dX12_glyph_41 (by decide) h (fun h => ?_) (fun h => ?_)
  · refine r_iinc (q := 6) (v := (a6 + 1)) (lv' := [(6, .int (a6 + 1)), (0, .ref (ad 133)), (1, .int a1), (2, .int a2), (3, .int a3), (4, .int a4), (5, .int a5), (7, .int a7)]) C dX12_glyph_104 rfl (by rw [show Int32.ofInt (1) = 1 by decide]) (by rw [hn9]; decide) rfl ?_
    refine r_goto (tgt := 27) C dX12_glyph_107 (by decide) ?_
    refine Jr.sub [1, 2, 3, 4, 5, 6, 0] (lv' := [(0, .ref (ad 133)), (1, .int a1), (2, .int a2), (3, .int a3), (4, .int a4), (5, .int a5), (6, .int (a6 + 1))]) rfl ?_
    exact hk27 a1 a2 a3 a4 a5 (a6 + 1) T h
  · refine r_aload_n C dX12_glyph_44 rfl 0 rfl ?_
    refine r_iload_n C dX12_glyph_45 rfl 2 rfl ?_
    refine r_aload_n C dX12_glyph_46 rfl 0 rfl ?_
    refine r_getp (f := 1207) (j := 141) C flX12_32 dX12_glyph_47 kq_133 (by decide) rfl (fun W => pt_1207 kq_133 W) ?_
    refine r_iconst (v := 5) C dX12_glyph_50 (by decide) ?_
    show Jr _ _ _ _ _ _ 51 _
    refine r_iload_n C dX12_glyph_51 rfl 1 rfl ?_
    refine r_imul C dX12_glyph_52 rfl ?_
    refine r_iald (n := 2000) C dX12_glyph_53 kq_141 lq_141 h (fun j1 hj2 h => ?_)
    refine r_iadd C dX12_glyph_54 rfl ?_
    refine r_iload C dX12_glyph_55 7 rfl ?_
    refine r_iadd C dX12_glyph_57 rfl ?_
    show Jr _ _ _ _ _ _ 58 _
    refine r_iload_n C dX12_glyph_58 rfl 3 rfl ?_
    refine r_aload_n C dX12_glyph_59 rfl 0 rfl ?_
    refine r_getp (f := 1207) (j := 141) C flX12_32 dX12_glyph_60 kq_133 (by decide) rfl (fun W => pt_1207 kq_133 W) ?_
    refine r_iconst (v := 5) C dX12_glyph_63 (by decide) ?_
    refine r_iload_n C dX12_glyph_64 rfl 1 rfl ?_
    refine r_imul C dX12_glyph_65 rfl ?_
    show Jr _ _ _ _ _ _ 66 _
    refine r_iconst (v := 1) C dX12_glyph_66 (by decide) ?_
    refine r_iadd C dX12_glyph_67 rfl ?_
    refine r_iald (n := 2000) C dX12_glyph_68 kq_141 lq_141 h (fun j3 hj4 h => ?_)
    refine r_isub C dX12_glyph_69 rfl ?_
    refine r_iload C dX12_glyph_70 6 rfl ?_
    refine r_iadd C dX12_glyph_72 rfl ?_
    show Jr _ _ _ _ _ _ 73 _
    refine r_aload_n C dX12_glyph_73 rfl 0 rfl ?_
    refine r_getp (f := 1208) (j := 142) C flX12_35 dX12_glyph_74 kq_133 (by decide) rfl (fun W => pt_1208 kq_133 W) ?_
    refine r_bipush (v := 32) C dX12_glyph_77 (by decide) ?_
    refine r_iload_n C dX12_glyph_79 rfl 1 rfl ?_
    refine r_imul C dX12_glyph_80 rfl ?_
    refine r_iload C dX12_glyph_81 6 rfl ?_
    show Jr _ _ _ _ _ _ 83 _
    refine r_iadd C dX12_glyph_83 rfl ?_
    refine r_iald (n := 12800) C dX12_glyph_84 kq_142 lq_142 h (fun j5 hj6 h => ?_)
    refine r_iload C dX12_glyph_85 4 rfl ?_
    refine r_iconst (v := 1) C dX12_glyph_87 (by decide) ?_
    refine r_isub C dX12_glyph_88 rfl ?_
    refine r_iload C dX12_glyph_89 7 rfl ?_
    show Jr _ _ _ _ _ _ 91 _
    refine r_isub C dX12_glyph_91 rfl ?_
    refine r_ishr C dX12_glyph_92 rfl ?_
    refine r_iconst (v := 1) C dX12_glyph_93 (by decide) ?_
    refine r_iand C dX12_glyph_94 rfl ?_
    refine r_callVN C M h [.int ((a2 + (gA T 141 j1)) + a7), .int ((a3 - (gA T 141 j3)) + a6), .int (((gA T 142 j5) >>> (((a4 - 1) - a7) &&& 31)) &&& 1)] [] mlX12_331 mcX12_lay_ (fun q9 e9 => s_X12_lay_ ((a2 + (gA T 141 j1)) + a7) ((a3 - (gA T 141 j3)) + a6) (((gA T 142 j5) >>> (((a4 - 1) - a7) &&& 31)) &&& 1)  e9) kq_133 rfl (by decide) (by decide) rfl rfl (Nat.le_of_ble_eq_true rfl) dX12_glyph_95 (fun _ T7 h => ?_)
    refine r_iinc (q := 7) (v := (a7 + 1)) (lv' := [(7, .int (a7 + 1)), (0, .ref (ad 133)), (1, .int a1), (2, .int a2), (3, .int a3), (4, .int a4), (5, .int a5), (6, .int a6)]) C dX12_glyph_98 rfl (by rw [show Int32.ofInt (1) = 1 by decide]) (by rw [hn9]; decide) rfl ?_
    show Jr _ _ _ _ _ _ 101 _
    refine r_goto (tgt := 37) C dX12_glyph_101 (by decide) ?_
    refine Jr.sub [1, 2, 3, 4, 5, 6, 7, 0] (lv' := [(0, .ref (ad 133)), (1, .int a1), (2, .int a2), (3, .int a3), (4, .int a4), (5, .int a5), (6, .int a6), (7, .int (a7 + 1))]) rfl ?_
    exact hk37 a1 a2 a3 a4 a5 a6 (a7 + 1) T7 h
noncomputable def f_X12_glyph_l37 (k27 : Int32 → Int32 → Int32 → Int32 → Int32 → Int32 → Mm → Option (Unit × Mm)) (n : Nat) : Int32 → Int32 → Int32 → Int32 → Int32 → Int32 → Int32 → Mm → Option (Unit × Mm) := Nat.rec (fun _ _ _ _ _ _ _ _ => none) (fun _ ih => f_X12_glyph_b37 k27 ih) n
theorem s_X12_glyph_l37 {x : JX} {ad : Nat → Nat} {U : Mm} {S0 : Hp} {q : Unit × Mm}  {k27 : Int32 → Int32 → Int32 → Int32 → Int32 → Int32 → Mm → Option (Unit × Mm)} (hn9 : x_n x = 8) (C : CB x RX12 cX12_glyph) (M : CMr x 4 none S0 ad false U eV q) (hk27 : ∀ (a1 : Int32) (a2 : Int32) (a3 : Int32) (a4 : Int32) (a5 : Int32) (a6 : Int32) (T : Mm), k27 a1 a2 a3 a4 a5 a6 T = some q → Jr x ad false U T [(0, .ref (ad 133)), (1, .int a1), (2, .int a2), (3, .int a3), (4, .int a4), (5, .int a5), (6, .int a6)] 27 []) : ∀ (n : Nat), ∀ (a1 : Int32) (a2 : Int32) (a3 : Int32) (a4 : Int32) (a5 : Int32) (a6 : Int32) (a7 : Int32) (T : Mm), f_X12_glyph_l37 k27 n a1 a2 a3 a4 a5 a6 a7 T = some q → Jr x ad false U T [(0, .ref (ad 133)), (1, .int a1), (2, .int a2), (3, .int a3), (4, .int a4), (5, .int a5), (6, .int a6), (7, .int a7)] 37 [] := by
  intro n
  induction n with
  | zero => intro a1 a2 a3 a4 a5 a6 a7 T  h; exact absurd h (by intro h; cases h)
  | succ n ih => exact fun a1 a2 a3 a4 a5 a6 a7 T  h => s_X12_glyph_b37 hn9 C M hk27 (ih) a1 a2 a3 a4 a5 a6 a7 T  h
noncomputable def f_X12_glyph_b27 (k27 : Int32 → Int32 → Int32 → Int32 → Int32 → Int32 → Mm → Option (Unit × Mm)) (a1 : Int32) (a2 : Int32) (a3 : Int32) (a4 : Int32) (a5 : Int32) (a6 : Int32) (T : Mm) : Option (Unit × Mm) :=
  if a5 ≤ a6 then (some ((), T))
  else (f_X12_glyph_l37 k27 FU a1 a2 a3 a4 a5 a6 0 T)
set_option maxRecDepth 100000 in
set_option maxHeartbeats 4000000 in
theorem s_X12_glyph_b27 {x : JX} {ad : Nat → Nat} {U : Mm} {S0 : Hp} {q : Unit × Mm}  {k27 : Int32 → Int32 → Int32 → Int32 → Int32 → Int32 → Mm → Option (Unit × Mm)} (hn9 : x_n x = 8) (C : CB x RX12 cX12_glyph) (M : CMr x 4 none S0 ad false U eV q) (hk27 : ∀ (a1 : Int32) (a2 : Int32) (a3 : Int32) (a4 : Int32) (a5 : Int32) (a6 : Int32) (T : Mm), k27 a1 a2 a3 a4 a5 a6 T = some q → Jr x ad false U T [(0, .ref (ad 133)), (1, .int a1), (2, .int a2), (3, .int a3), (4, .int a4), (5, .int a5), (6, .int a6)] 27 []) (a1 : Int32) (a2 : Int32) (a3 : Int32) (a4 : Int32) (a5 : Int32) (a6 : Int32) (T : Mm) (h : f_X12_glyph_b27 k27 a1 a2 a3 a4 a5 a6 T = some q) : Jr x ad false U T [(0, .ref (ad 133)), (1, .int a1), (2, .int a2), (3, .int a3), (4, .int a4), (5, .int a5), (6, .int a6)] 27 [] := by
  unfold f_X12_glyph_b27 at h
  refine r_iload C dX12_glyph_27 6 rfl ?_
  refine r_iload C dX12_glyph_29 5 rfl ?_
  refine r_ic_ge (tgt := 110) C dX12_glyph_31 (by decide) h (fun h => ?_) (fun h => ?_)
  · exact r_vret C M dX12_glyph_110 h
  · refine r_iconst (v := 0) C dX12_glyph_34 (by decide) ?_
    refine r_istore (lv' := [(7, .int 0), (0, .ref (ad 133)), (1, .int a1), (2, .int a2), (3, .int a3), (4, .int a4), (5, .int a5), (6, .int a6)]) C dX12_glyph_35 (by rw [hn9]; decide) rfl ?_
    refine Jr.sub [1, 2, 3, 4, 5, 6, 7, 0] (lv' := [(0, .ref (ad 133)), (1, .int a1), (2, .int a2), (3, .int a3), (4, .int a4), (5, .int a5), (6, .int a6), (7, .int 0)]) rfl ?_
    exact s_X12_glyph_l37 hn9 C M hk27 FU a1 a2 a3 a4 a5 a6 0 T h
noncomputable def f_X12_glyph_l27 (n : Nat) : Int32 → Int32 → Int32 → Int32 → Int32 → Int32 → Mm → Option (Unit × Mm) := Nat.rec (fun _ _ _ _ _ _ _ => none) (fun _ ih => f_X12_glyph_b27 ih) n
theorem s_X12_glyph_l27 {x : JX} {ad : Nat → Nat} {U : Mm} {S0 : Hp} {q : Unit × Mm}  (hn9 : x_n x = 8) (C : CB x RX12 cX12_glyph) (M : CMr x 4 none S0 ad false U eV q) : ∀ (n : Nat), ∀ (a1 : Int32) (a2 : Int32) (a3 : Int32) (a4 : Int32) (a5 : Int32) (a6 : Int32) (T : Mm), f_X12_glyph_l27  n a1 a2 a3 a4 a5 a6 T = some q → Jr x ad false U T [(0, .ref (ad 133)), (1, .int a1), (2, .int a2), (3, .int a3), (4, .int a4), (5, .int a5), (6, .int a6)] 27 [] := by
  intro n
  induction n with
  | zero => intro a1 a2 a3 a4 a5 a6 T  h; exact absurd h (by intro h; cases h)
  | succ n ih => exact fun a1 a2 a3 a4 a5 a6 T  h => s_X12_glyph_b27 hn9 C M (ih) a1 a2 a3 a4 a5 a6 T  h
noncomputable def f_X12_glyph (p1 : Int32) (p2 : Int32) (p3 : Int32) (T : Mm) : Option (Unit × Mm) :=
  ix (((5 : Int32) * p1) + 2) 2000 fun j1 =>
  lb ((gA T 141 j1)) fun v3 =>
  ix (((5 : Int32) * p1) + 3) 2000 fun j4 =>
  lb ((gA T 141 j4)) fun v6 =>
  f_X12_glyph_l27 FU p1 p2 p3 v3 v6 0 T
set_option maxRecDepth 100000 in
set_option maxHeartbeats 4000000 in
theorem s_X12_glyph {ad : Nat → Nat} {U T : Mm} {q : Unit × Mm}  (p1 : Int32) (p2 : Int32) (p3 : Int32) (h : f_X12_glyph p1 p2 p3 T = some q) : Cr 4 yX12_glyph cX12_glyph 8 none [.ref (ad 133), .int p1, .int p2, .int p3] ad false U T eV q := by
  refine cr_of (by decide) (Nat.le_of_ble_eq_true rfl) fun x S0 hn9 C M => ?_
  have C : CB x RX12 cX12_glyph := C
  refine Jr.eq (lv' := [(0, .ref (ad 133)), (1, .int p1), (2, .int p2), (3, .int p3)]) (st' := []) rfl rfl ?_
  unfold f_X12_glyph at h
  refine r_aload_n C dX12_glyph_0 rfl 0 rfl ?_
  refine r_getp (f := 1207) (j := 141) C flX12_32 dX12_glyph_1 kq_133 (by decide) rfl (fun W => pt_1207 kq_133 W) ?_
  refine r_iconst (v := 5) C dX12_glyph_4 (by decide) ?_
  refine r_iload_n C dX12_glyph_5 rfl 1 rfl ?_
  refine r_imul C dX12_glyph_6 rfl ?_
  show Jr _ _ _ _ _ _ 7 _
  refine r_iconst (v := 2) C dX12_glyph_7 (by decide) ?_
  refine r_iadd C dX12_glyph_8 rfl ?_
  refine r_iald (n := 2000) C dX12_glyph_9 kq_141 lq_141 h (fun j1 hj2 h => ?_)
  refine r_lbI h (fun v3 h => ?_)
  refine r_istore (lv' := [(4, .int v3), (0, .ref (ad 133)), (1, .int p1), (2, .int p2), (3, .int p3)]) C dX12_glyph_10 (by rw [hn9]; decide) rfl ?_
  refine r_aload_n C dX12_glyph_12 rfl 1 rfl ?_
  refine r_getp (f := 1207) (j := 141) C flX12_32 dX12_glyph_13 kq_133 (by decide) rfl (fun W => pt_1207 kq_133 W) ?_
  show Jr _ _ _ _ _ _ 16 _
  refine r_iconst (v := 5) C dX12_glyph_16 (by decide) ?_
  refine r_iload_n C dX12_glyph_17 rfl 2 rfl ?_
  refine r_imul C dX12_glyph_18 rfl ?_
  refine r_iconst (v := 3) C dX12_glyph_19 (by decide) ?_
  refine r_iadd C dX12_glyph_20 rfl ?_
  refine r_iald (n := 2000) C dX12_glyph_21 kq_141 lq_141 h (fun j4 hj5 h => ?_)
  show Jr _ _ _ _ _ _ 22 _
  refine r_lbI h (fun v6 h => ?_)
  refine r_istore (lv' := [(5, .int v6), (4, .int v3), (0, .ref (ad 133)), (1, .int p1), (2, .int p2), (3, .int p3)]) C dX12_glyph_22 (by rw [hn9]; decide) rfl ?_
  refine r_iconst (v := 0) C dX12_glyph_24 (by decide) ?_
  refine r_istore (lv' := [(6, .int 0), (5, .int v6), (4, .int v3), (0, .ref (ad 133)), (1, .int p1), (2, .int p2), (3, .int p3)]) C dX12_glyph_25 (by rw [hn9]; decide) rfl ?_
  refine Jr.sub [3, 4, 5, 6, 2, 1, 0] (lv' := [(0, .ref (ad 133)), (1, .int p1), (2, .int p2), (3, .int p3), (4, .int v3), (5, .int v6), (6, .int 0)]) rfl ?_
  exact s_X12_glyph_l27 hn9 C M  FU p1 p2 p3 v3 v6 0 T h
theorem dX12_show_0 : decode cX12_show 0 = .ok (.aload_n 0, 1) := by decide +kernel
theorem dX12_show_1 : decode cX12_show 1 = .ok (.invokevirtual 310, 3) := by decide +kernel
theorem dX12_show_4 : decode cX12_show 4 = .ok (.istore_n 2, 1) := by decide +kernel
theorem dX12_show_5 : decode cX12_show 5 = .ok (.iload_n 2, 1) := by decide +kernel
theorem dX12_show_6 : decode cX12_show 6 = .ok (.bipush 16, 2) := by decide +kernel
theorem dX12_show_8 : decode cX12_show 8 = .ok (.if_icmp .ne 7, 3) := by decide +kernel
theorem dX12_show_11 : decode cX12_show 11 = .ok (.iconst 1, 1) := by decide +kernel
theorem dX12_show_12 : decode cX12_show 12 = .ok (.goto 4, 3) := by decide +kernel
theorem dX12_show_15 : decode cX12_show 15 = .ok (.iconst 0, 1) := by decide +kernel
theorem dX12_show_16 : decode cX12_show 16 = .ok (.istore_n 3, 1) := by decide +kernel
theorem dX12_show_17 : decode cX12_show 17 = .ok (.iload_n 3, 1) := by decide +kernel
theorem dX12_show_18 : decode cX12_show 18 = .ok (.ifCond .eq 7, 3) := by decide +kernel
theorem dX12_show_21 : decode cX12_show 21 = .ok (.iconst (-1), 1) := by decide +kernel
theorem dX12_show_22 : decode cX12_show 22 = .ok (.goto 15, 3) := by decide +kernel
theorem dX12_show_25 : decode cX12_show 25 = .ok (.aload_n 0, 1) := by decide +kernel
theorem dX12_show_26 : decode cX12_show 26 = .ok (.getfield 26, 3) := by decide +kernel
theorem dX12_show_29 : decode cX12_show 29 = .ok (.sipush 256, 3) := by decide +kernel
theorem dX12_show_32 : decode cX12_show 32 = .ok (.iload_n 2, 1) := by decide +kernel
theorem dX12_show_33 : decode cX12_show 33 = .ok (.imul, 1) := by decide +kernel
theorem dX12_show_34 : decode cX12_show 34 = .ok (.iload_n 1, 1) := by decide +kernel
theorem dX12_show_35 : decode cX12_show 35 = .ok (.iadd, 1) := by decide +kernel
theorem dX12_show_36 : decode cX12_show 36 = .ok (.iaload, 1) := by decide +kernel
theorem dX12_show_37 : decode cX12_show 37 = .ok (.istore 4, 2) := by decide +kernel
theorem dX12_show_39 : decode cX12_show 39 = .ok (.iload_n 3, 1) := by decide +kernel
theorem dX12_show_40 : decode cX12_show 40 = .ok (.ifCond .eq 23, 3) := by decide +kernel
theorem dX12_show_43 : decode cX12_show 43 = .ok (.iload_n 1, 1) := by decide +kernel
theorem dX12_show_44 : decode cX12_show 44 = .ok (.bipush 33, 2) := by decide +kernel
theorem dX12_show_46 : decode cX12_show 46 = .ok (.if_icmp .lt 13, 3) := by decide +kernel
theorem dX12_show_49 : decode cX12_show 49 = .ok (.iload_n 1, 1) := by decide +kernel
theorem dX12_show_50 : decode cX12_show 50 = .ok (.bipush 126, 2) := by decide +kernel
theorem dX12_show_52 : decode cX12_show 52 = .ok (.if_icmp .gt 7, 3) := by decide +kernel
theorem dX12_show_55 : decode cX12_show 55 = .ok (.iconst 1, 1) := by decide +kernel
theorem dX12_show_56 : decode cX12_show 56 = .ok (.goto 18, 3) := by decide +kernel
theorem dX12_show_59 : decode cX12_show 59 = .ok (.iconst 0, 1) := by decide +kernel
theorem dX12_show_60 : decode cX12_show 60 = .ok (.goto 14, 3) := by decide +kernel
theorem dX12_show_63 : decode cX12_show 63 = .ok (.iload 4, 2) := by decide +kernel
theorem dX12_show_65 : decode cX12_show 65 = .ok (.iconst (-1), 1) := by decide +kernel
theorem dX12_show_66 : decode cX12_show 66 = .ok (.if_icmp .eq 7, 3) := by decide +kernel
theorem dX12_show_69 : decode cX12_show 69 = .ok (.iconst 1, 1) := by decide +kernel
theorem dX12_show_70 : decode cX12_show 70 = .ok (.goto 4, 3) := by decide +kernel
theorem dX12_show_73 : decode cX12_show 73 = .ok (.iconst 0, 1) := by decide +kernel
theorem dX12_show_74 : decode cX12_show 74 = .ok (.istore 5, 2) := by decide +kernel
theorem dX12_show_76 : decode cX12_show 76 = .ok (.aload_n 0, 1) := by decide +kernel
theorem dX12_show_77 : decode cX12_show 77 = .ok (.getfield 9, 3) := by decide +kernel
theorem dX12_show_80 : decode cX12_show 80 = .ok (.bipush 7, 2) := by decide +kernel
theorem dX12_show_82 : decode cX12_show 82 = .ok (.iaload, 1) := by decide +kernel
theorem dX12_show_83 : decode cX12_show 83 = .ok (.istore 6, 2) := by decide +kernel
theorem dX12_show_85 : decode cX12_show 85 = .ok (.iload 5, 2) := by decide +kernel
theorem dX12_show_87 : decode cX12_show 87 = .ok (.ifCond .eq 28, 3) := by decide +kernel
theorem dX12_show_90 : decode cX12_show 90 = .ok (.aload_n 0, 1) := by decide +kernel
theorem dX12_show_91 : decode cX12_show 91 = .ok (.getfield 23, 3) := by decide +kernel
theorem dX12_show_94 : decode cX12_show 94 = .ok (.bipush 7, 2) := by decide +kernel
theorem dX12_show_96 : decode cX12_show 96 = .ok (.iload_n 2, 1) := by decide +kernel
theorem dX12_show_97 : decode cX12_show 97 = .ok (.imul, 1) := by decide +kernel
theorem dX12_show_98 : decode cX12_show 98 = .ok (.iaload, 1) := by decide +kernel
theorem dX12_show_99 : decode cX12_show 99 = .ok (.ifCond .eq 16, 3) := by decide +kernel
theorem dX12_show_102 : decode cX12_show 102 = .ok (.aload_n 0, 1) := by decide +kernel
theorem dX12_show_103 : decode cX12_show 103 = .ok (.getfield 32, 3) := by decide +kernel
theorem dX12_show_106 : decode cX12_show 106 = .ok (.iconst 5, 1) := by decide +kernel
theorem dX12_show_107 : decode cX12_show 107 = .ok (.iload 4, 2) := by decide +kernel
theorem dX12_show_109 : decode cX12_show 109 = .ok (.imul, 1) := by decide +kernel
theorem dX12_show_110 : decode cX12_show 110 = .ok (.iconst 4, 1) := by decide +kernel
theorem dX12_show_111 : decode cX12_show 111 = .ok (.iadd, 1) := by decide +kernel
theorem dX12_show_112 : decode cX12_show 112 = .ok (.iaload, 1) := by decide +kernel
theorem dX12_show_113 : decode cX12_show 113 = .ok (.istore 6, 2) := by decide +kernel
theorem dX12_show_115 : decode cX12_show 115 = .ok (.aload_n 0, 1) := by decide +kernel
theorem dX12_show_116 : decode cX12_show 116 = .ok (.getfield 9, 3) := by decide +kernel
theorem dX12_show_119 : decode cX12_show 119 = .ok (.sipush 189, 3) := by decide +kernel
theorem dX12_show_122 : decode cX12_show 122 = .ok (.iaload, 1) := by decide +kernel
theorem dX12_show_123 : decode cX12_show 123 = .ok (.aload_n 0, 1) := by decide +kernel
theorem dX12_show_124 : decode cX12_show 124 = .ok (.getfield 9, 3) := by decide +kernel
theorem dX12_show_127 : decode cX12_show 127 = .ok (.iconst 3, 1) := by decide +kernel
theorem dX12_show_128 : decode cX12_show 128 = .ok (.iaload, 1) := by decide +kernel
theorem dX12_show_129 : decode cX12_show 129 = .ok (.if_icmp .le 13, 3) := by decide +kernel
theorem dX12_show_132 : decode cX12_show 132 = .ok (.bipush 96, 2) := by decide +kernel
theorem dX12_show_134 : decode cX12_show 134 = .ok (.aload_n 0, 1) := by decide +kernel
theorem dX12_show_135 : decode cX12_show 135 = .ok (.invokevirtual 172, 3) := by decide +kernel
theorem dX12_show_138 : decode cX12_show 138 = .ok (.imul, 1) := by decide +kernel
theorem dX12_show_139 : decode cX12_show 139 = .ok (.goto 9, 3) := by decide +kernel
theorem dX12_show_142 : decode cX12_show 142 = .ok (.aload_n 0, 1) := by decide +kernel
theorem dX12_show_143 : decode cX12_show 143 = .ok (.getfield 9, 3) := by decide +kernel
theorem dX12_show_146 : decode cX12_show 146 = .ok (.iconst 3, 1) := by decide +kernel
theorem dX12_show_147 : decode cX12_show 147 = .ok (.iaload, 1) := by decide +kernel
theorem dX12_show_148 : decode cX12_show 148 = .ok (.istore 7, 2) := by decide +kernel
theorem dX12_show_150 : decode cX12_show 150 = .ok (.aload_n 0, 1) := by decide +kernel
theorem dX12_show_151 : decode cX12_show 151 = .ok (.getfield 9, 3) := by decide +kernel
theorem dX12_show_154 : decode cX12_show 154 = .ok (.sipush 189, 3) := by decide +kernel
theorem dX12_show_157 : decode cX12_show 157 = .ok (.iaload, 1) := by decide +kernel
theorem dX12_show_158 : decode cX12_show 158 = .ok (.iload 6, 2) := by decide +kernel
theorem dX12_show_160 : decode cX12_show 160 = .ok (.iadd, 1) := by decide +kernel
theorem dX12_show_161 : decode cX12_show 161 = .ok (.iload 7, 2) := by decide +kernel
theorem dX12_show_163 : decode cX12_show 163 = .ok (.if_icmp .le 159, 3) := by decide +kernel
theorem dX12_show_166 : decode cX12_show 166 = .ok (.aload_n 0, 1) := by decide +kernel
theorem dX12_show_167 : decode cX12_show 167 = .ok (.getfield 9, 3) := by decide +kernel
theorem dX12_show_170 : decode cX12_show 170 = .ok (.bipush 11, 2) := by decide +kernel
theorem dX12_show_172 : decode cX12_show 172 = .ok (.iaload, 1) := by decide +kernel
theorem dX12_show_173 : decode cX12_show 173 = .ok (.ifCond .ne 4, 3) := by decide +kernel
theorem dX12_show_176 : decode cX12_show 176 = .ok (.return_, 1) := by decide +kernel
theorem dX12_show_177 : decode cX12_show 177 = .ok (.aload_n 0, 1) := by decide +kernel
theorem dX12_show_178 : decode cX12_show 178 = .ok (.aload_n 0, 1) := by decide +kernel
theorem dX12_show_179 : decode cX12_show 179 = .ok (.getfield 9, 3) := by decide +kernel
theorem dX12_show_182 : decode cX12_show 182 = .ok (.iconst 2, 1) := by decide +kernel
theorem dX12_show_183 : decode cX12_show 183 = .ok (.iaload, 1) := by decide +kernel
theorem dX12_show_184 : decode cX12_show 184 = .ok (.i2l, 1) := by decide +kernel
theorem dX12_show_185 : decode cX12_show 185 = .ok (.invokevirtual 210, 3) := by decide +kernel
theorem dX12_show_188 : decode cX12_show 188 = .ok (.aload_n 0, 1) := by decide +kernel
theorem dX12_show_189 : decode cX12_show 189 = .ok (.aload_n 0, 1) := by decide +kernel
theorem dX12_show_190 : decode cX12_show 190 = .ok (.getfield 9, 3) := by decide +kernel
theorem dX12_show_193 : decode cX12_show 193 = .ok (.bipush 6, 2) := by decide +kernel
theorem dX12_show_195 : decode cX12_show 195 = .ok (.iaload, 1) := by decide +kernel
theorem dX12_show_196 : decode cX12_show 196 = .ok (.invokevirtual 304, 3) := by decide +kernel
theorem dX12_show_199 : decode cX12_show 199 = .ok (.aload_n 0, 1) := by decide +kernel
theorem dX12_show_200 : decode cX12_show 200 = .ok (.getfield 191, 3) := by decide +kernel
theorem dX12_show_203 : decode cX12_show 203 = .ok (.ifCond .eq 4, 3) := by decide +kernel
theorem dX12_show_206 : decode cX12_show 206 = .ok (.return_, 1) := by decide +kernel
theorem dX12_show_207 : decode cX12_show 207 = .ok (.aload_n 0, 1) := by decide +kernel
theorem dX12_show_208 : decode cX12_show 208 = .ok (.invokevirtual 310, 3) := by decide +kernel
theorem dX12_show_211 : decode cX12_show 211 = .ok (.istore_n 2, 1) := by decide +kernel
theorem dX12_show_212 : decode cX12_show 212 = .ok (.iload_n 2, 1) := by decide +kernel
theorem dX12_show_213 : decode cX12_show 213 = .ok (.bipush 16, 2) := by decide +kernel
theorem dX12_show_215 : decode cX12_show 215 = .ok (.if_icmp .ne 7, 3) := by decide +kernel
theorem dX12_show_218 : decode cX12_show 218 = .ok (.iconst 1, 1) := by decide +kernel
theorem dX12_show_219 : decode cX12_show 219 = .ok (.goto 4, 3) := by decide +kernel
theorem dX12_show_222 : decode cX12_show 222 = .ok (.iconst 0, 1) := by decide +kernel
theorem dX12_show_223 : decode cX12_show 223 = .ok (.istore_n 3, 1) := by decide +kernel
theorem dX12_show_224 : decode cX12_show 224 = .ok (.iload_n 3, 1) := by decide +kernel
theorem dX12_show_225 : decode cX12_show 225 = .ok (.ifCond .eq 7, 3) := by decide +kernel
theorem dX12_show_228 : decode cX12_show 228 = .ok (.iconst (-1), 1) := by decide +kernel
theorem dX12_show_229 : decode cX12_show 229 = .ok (.goto 15, 3) := by decide +kernel
theorem dX12_show_232 : decode cX12_show 232 = .ok (.aload_n 0, 1) := by decide +kernel
theorem dX12_show_233 : decode cX12_show 233 = .ok (.getfield 26, 3) := by decide +kernel
theorem dX12_show_236 : decode cX12_show 236 = .ok (.sipush 256, 3) := by decide +kernel
theorem dX12_show_239 : decode cX12_show 239 = .ok (.iload_n 2, 1) := by decide +kernel
theorem dX12_show_240 : decode cX12_show 240 = .ok (.imul, 1) := by decide +kernel
theorem dX12_show_241 : decode cX12_show 241 = .ok (.iload_n 1, 1) := by decide +kernel
theorem dX12_show_242 : decode cX12_show 242 = .ok (.iadd, 1) := by decide +kernel
theorem dX12_show_243 : decode cX12_show 243 = .ok (.iaload, 1) := by decide +kernel
theorem dX12_show_244 : decode cX12_show 244 = .ok (.istore 4, 2) := by decide +kernel
theorem dX12_show_246 : decode cX12_show 246 = .ok (.iload_n 3, 1) := by decide +kernel
theorem dX12_show_247 : decode cX12_show 247 = .ok (.ifCond .eq 23, 3) := by decide +kernel
theorem dX12_show_250 : decode cX12_show 250 = .ok (.iload_n 1, 1) := by decide +kernel
theorem dX12_show_251 : decode cX12_show 251 = .ok (.bipush 33, 2) := by decide +kernel
theorem dX12_show_253 : decode cX12_show 253 = .ok (.if_icmp .lt 13, 3) := by decide +kernel
theorem dX12_show_256 : decode cX12_show 256 = .ok (.iload_n 1, 1) := by decide +kernel
theorem dX12_show_257 : decode cX12_show 257 = .ok (.bipush 126, 2) := by decide +kernel
theorem dX12_show_259 : decode cX12_show 259 = .ok (.if_icmp .gt 7, 3) := by decide +kernel
theorem dX12_show_262 : decode cX12_show 262 = .ok (.iconst 1, 1) := by decide +kernel
theorem dX12_show_263 : decode cX12_show 263 = .ok (.goto 18, 3) := by decide +kernel
theorem dX12_show_266 : decode cX12_show 266 = .ok (.iconst 0, 1) := by decide +kernel
theorem dX12_show_267 : decode cX12_show 267 = .ok (.goto 14, 3) := by decide +kernel
theorem dX12_show_270 : decode cX12_show 270 = .ok (.iload 4, 2) := by decide +kernel
theorem dX12_show_272 : decode cX12_show 272 = .ok (.iconst (-1), 1) := by decide +kernel
theorem dX12_show_273 : decode cX12_show 273 = .ok (.if_icmp .eq 7, 3) := by decide +kernel
theorem dX12_show_276 : decode cX12_show 276 = .ok (.iconst 1, 1) := by decide +kernel
theorem dX12_show_277 : decode cX12_show 277 = .ok (.goto 4, 3) := by decide +kernel
theorem dX12_show_280 : decode cX12_show 280 = .ok (.iconst 0, 1) := by decide +kernel
theorem dX12_show_281 : decode cX12_show 281 = .ok (.istore 5, 2) := by decide +kernel
theorem dX12_show_283 : decode cX12_show 283 = .ok (.aload_n 0, 1) := by decide +kernel
theorem dX12_show_284 : decode cX12_show 284 = .ok (.getfield 9, 3) := by decide +kernel
theorem dX12_show_287 : decode cX12_show 287 = .ok (.bipush 7, 2) := by decide +kernel
theorem dX12_show_289 : decode cX12_show 289 = .ok (.iaload, 1) := by decide +kernel
theorem dX12_show_290 : decode cX12_show 290 = .ok (.istore 6, 2) := by decide +kernel
theorem dX12_show_292 : decode cX12_show 292 = .ok (.iload 5, 2) := by decide +kernel
theorem dX12_show_294 : decode cX12_show 294 = .ok (.ifCond .eq 28, 3) := by decide +kernel
theorem dX12_show_297 : decode cX12_show 297 = .ok (.aload_n 0, 1) := by decide +kernel
theorem dX12_show_298 : decode cX12_show 298 = .ok (.getfield 23, 3) := by decide +kernel
theorem dX12_show_301 : decode cX12_show 301 = .ok (.bipush 7, 2) := by decide +kernel
theorem dX12_show_303 : decode cX12_show 303 = .ok (.iload_n 2, 1) := by decide +kernel
theorem dX12_show_304 : decode cX12_show 304 = .ok (.imul, 1) := by decide +kernel
theorem dX12_show_305 : decode cX12_show 305 = .ok (.iaload, 1) := by decide +kernel
theorem dX12_show_306 : decode cX12_show 306 = .ok (.ifCond .eq 16, 3) := by decide +kernel
theorem dX12_show_309 : decode cX12_show 309 = .ok (.aload_n 0, 1) := by decide +kernel
theorem dX12_show_310 : decode cX12_show 310 = .ok (.getfield 32, 3) := by decide +kernel
theorem dX12_show_313 : decode cX12_show 313 = .ok (.iconst 5, 1) := by decide +kernel
theorem dX12_show_314 : decode cX12_show 314 = .ok (.iload 4, 2) := by decide +kernel
theorem dX12_show_316 : decode cX12_show 316 = .ok (.imul, 1) := by decide +kernel
theorem dX12_show_317 : decode cX12_show 317 = .ok (.iconst 4, 1) := by decide +kernel
theorem dX12_show_318 : decode cX12_show 318 = .ok (.iadd, 1) := by decide +kernel
theorem dX12_show_319 : decode cX12_show 319 = .ok (.iaload, 1) := by decide +kernel
theorem dX12_show_320 : decode cX12_show 320 = .ok (.istore 6, 2) := by decide +kernel
theorem dX12_show_322 : decode cX12_show 322 = .ok (.aload_n 0, 1) := by decide +kernel
theorem dX12_show_323 : decode cX12_show 323 = .ok (.getfield 9, 3) := by decide +kernel
theorem dX12_show_326 : decode cX12_show 326 = .ok (.sipush 189, 3) := by decide +kernel
theorem dX12_show_329 : decode cX12_show 329 = .ok (.iaload, 1) := by decide +kernel
theorem dX12_show_330 : decode cX12_show 330 = .ok (.bipush 96, 2) := by decide +kernel
theorem dX12_show_332 : decode cX12_show 332 = .ok (.idiv, 1) := by decide +kernel
theorem dX12_show_333 : decode cX12_show 333 = .ok (.istore 8, 2) := by decide +kernel
theorem dX12_show_335 : decode cX12_show 335 = .ok (.aload_n 0, 1) := by decide +kernel
theorem dX12_show_336 : decode cX12_show 336 = .ok (.getfield 9, 3) := by decide +kernel
theorem dX12_show_339 : decode cX12_show 339 = .ok (.sipush 190, 3) := by decide +kernel
theorem dX12_show_342 : decode cX12_show 342 = .ok (.iaload, 1) := by decide +kernel
theorem dX12_show_343 : decode cX12_show 343 = .ok (.bipush 96, 2) := by decide +kernel
theorem dX12_show_345 : decode cX12_show 345 = .ok (.idiv, 1) := by decide +kernel
theorem dX12_show_346 : decode cX12_show 346 = .ok (.istore 9, 2) := by decide +kernel
theorem dX12_show_348 : decode cX12_show 348 = .ok (.iload 5, 2) := by decide +kernel
theorem dX12_show_350 : decode cX12_show 350 = .ok (.ifCond .eq 95, 3) := by decide +kernel
theorem dX12_show_353 : decode cX12_show 353 = .ok (.iload_n 3, 1) := by decide +kernel
theorem dX12_show_354 : decode cX12_show 354 = .ok (.ifCond .eq 28, 3) := by decide +kernel
theorem dX12_show_357 : decode cX12_show 357 = .ok (.aload_n 0, 1) := by decide +kernel
theorem dX12_show_358 : decode cX12_show 358 = .ok (.iload 8, 2) := by decide +kernel
theorem dX12_show_360 : decode cX12_show 360 = .ok (.i2l, 1) := by decide +kernel
theorem dX12_show_361 : decode cX12_show 361 = .ok (.iload 9, 2) := by decide +kernel
theorem dX12_show_363 : decode cX12_show 363 = .ok (.bipush 7, 2) := by decide +kernel
theorem dX12_show_365 : decode cX12_show 365 = .ok (.isub, 1) := by decide +kernel
theorem dX12_show_366 : decode cX12_show 366 = .ok (.i2l, 1) := by decide +kernel
theorem dX12_show_367 : decode cX12_show 367 = .ok (.ldc2_w 315, 3) := by decide +kernel
theorem dX12_show_370 : decode cX12_show 370 = .ok (.ldc2_w 313, 3) := by decide +kernel
theorem dX12_show_373 : decode cX12_show 373 = .ok (.invokevirtual 317, 3) := by decide +kernel
theorem dX12_show_376 : decode cX12_show 376 = .ok (.ifCond .eq 69, 3) := by decide +kernel
theorem dX12_show_379 : decode cX12_show 379 = .ok (.goto 62, 3) := by decide +kernel
theorem dX12_show_382 : decode cX12_show 382 = .ok (.aload_n 0, 1) := by decide +kernel
theorem dX12_show_383 : decode cX12_show 383 = .ok (.iload 8, 2) := by decide +kernel
theorem dX12_show_385 : decode cX12_show 385 = .ok (.aload_n 0, 1) := by decide +kernel
theorem dX12_show_386 : decode cX12_show 386 = .ok (.getfield 32, 3) := by decide +kernel
theorem dX12_show_389 : decode cX12_show 389 = .ok (.iconst 5, 1) := by decide +kernel
theorem dX12_show_390 : decode cX12_show 390 = .ok (.iload 4, 2) := by decide +kernel
theorem dX12_show_392 : decode cX12_show 392 = .ok (.imul, 1) := by decide +kernel
theorem dX12_show_393 : decode cX12_show 393 = .ok (.iaload, 1) := by decide +kernel
theorem dX12_show_394 : decode cX12_show 394 = .ok (.iadd, 1) := by decide +kernel
theorem dX12_show_395 : decode cX12_show 395 = .ok (.i2l, 1) := by decide +kernel
theorem dX12_show_396 : decode cX12_show 396 = .ok (.iload 9, 2) := by decide +kernel
theorem dX12_show_398 : decode cX12_show 398 = .ok (.aload_n 0, 1) := by decide +kernel
theorem dX12_show_399 : decode cX12_show 399 = .ok (.getfield 32, 3) := by decide +kernel
theorem dX12_show_402 : decode cX12_show 402 = .ok (.iconst 5, 1) := by decide +kernel
theorem dX12_show_403 : decode cX12_show 403 = .ok (.iload 4, 2) := by decide +kernel
theorem dX12_show_405 : decode cX12_show 405 = .ok (.imul, 1) := by decide +kernel
theorem dX12_show_406 : decode cX12_show 406 = .ok (.iconst 1, 1) := by decide +kernel
theorem dX12_show_407 : decode cX12_show 407 = .ok (.iadd, 1) := by decide +kernel
theorem dX12_show_408 : decode cX12_show 408 = .ok (.iaload, 1) := by decide +kernel
theorem dX12_show_409 : decode cX12_show 409 = .ok (.isub, 1) := by decide +kernel
theorem dX12_show_410 : decode cX12_show 410 = .ok (.i2l, 1) := by decide +kernel
theorem dX12_show_411 : decode cX12_show 411 = .ok (.aload_n 0, 1) := by decide +kernel
theorem dX12_show_412 : decode cX12_show 412 = .ok (.getfield 32, 3) := by decide +kernel
theorem dX12_show_415 : decode cX12_show 415 = .ok (.iconst 5, 1) := by decide +kernel
theorem dX12_show_416 : decode cX12_show 416 = .ok (.iload 4, 2) := by decide +kernel
theorem dX12_show_418 : decode cX12_show 418 = .ok (.imul, 1) := by decide +kernel
theorem dX12_show_419 : decode cX12_show 419 = .ok (.iconst 2, 1) := by decide +kernel
theorem dX12_show_420 : decode cX12_show 420 = .ok (.iadd, 1) := by decide +kernel
theorem dX12_show_421 : decode cX12_show 421 = .ok (.iaload, 1) := by decide +kernel
theorem dX12_show_422 : decode cX12_show 422 = .ok (.i2l, 1) := by decide +kernel
theorem dX12_show_423 : decode cX12_show 423 = .ok (.aload_n 0, 1) := by decide +kernel
theorem dX12_show_424 : decode cX12_show 424 = .ok (.getfield 32, 3) := by decide +kernel
theorem dX12_show_427 : decode cX12_show 427 = .ok (.iconst 5, 1) := by decide +kernel
theorem dX12_show_428 : decode cX12_show 428 = .ok (.iload 4, 2) := by decide +kernel
theorem dX12_show_430 : decode cX12_show 430 = .ok (.imul, 1) := by decide +kernel
theorem dX12_show_431 : decode cX12_show 431 = .ok (.iconst 3, 1) := by decide +kernel
theorem dX12_show_432 : decode cX12_show 432 = .ok (.iadd, 1) := by decide +kernel
theorem dX12_show_433 : decode cX12_show 433 = .ok (.iaload, 1) := by decide +kernel
theorem dX12_show_434 : decode cX12_show 434 = .ok (.i2l, 1) := by decide +kernel
theorem dX12_show_435 : decode cX12_show 435 = .ok (.invokevirtual 317, 3) := by decide +kernel
theorem dX12_show_438 : decode cX12_show 438 = .ok (.ifCond .eq 7, 3) := by decide +kernel
theorem dX12_show_441 : decode cX12_show 441 = .ok (.iconst 1, 1) := by decide +kernel
theorem dX12_show_442 : decode cX12_show 442 = .ok (.goto 4, 3) := by decide +kernel
theorem dX12_show_445 : decode cX12_show 445 = .ok (.iconst 0, 1) := by decide +kernel
theorem dX12_show_446 : decode cX12_show 446 = .ok (.istore 10, 2) := by decide +kernel
theorem dX12_show_448 : decode cX12_show 448 = .ok (.iload 10, 2) := by decide +kernel
theorem dX12_show_450 : decode cX12_show 450 = .ok (.ifCond .eq 33, 3) := by decide +kernel
theorem dX12_show_453 : decode cX12_show 453 = .ok (.aload_n 0, 1) := by decide +kernel
theorem dX12_show_454 : decode cX12_show 454 = .ok (.invokevirtual 321, 3) := by decide +kernel
theorem dX12_show_457 : decode cX12_show 457 = .ok (.iload_n 3, 1) := by decide +kernel
theorem dX12_show_458 : decode cX12_show 458 = .ok (.ifCond .eq 15, 3) := by decide +kernel
theorem dX12_show_461 : decode cX12_show 461 = .ok (.aload_n 0, 1) := by decide +kernel
theorem dX12_show_462 : decode cX12_show 462 = .ok (.iload_n 1, 1) := by decide +kernel
theorem dX12_show_463 : decode cX12_show 463 = .ok (.iload 8, 2) := by decide +kernel
theorem dX12_show_465 : decode cX12_show 465 = .ok (.iload 9, 2) := by decide +kernel
theorem dX12_show_467 : decode cX12_show 467 = .ok (.invokevirtual 324, 3) := by decide +kernel
theorem dX12_show_470 : decode cX12_show 470 = .ok (.goto 13, 3) := by decide +kernel
theorem dX12_show_473 : decode cX12_show 473 = .ok (.aload_n 0, 1) := by decide +kernel
theorem dX12_show_474 : decode cX12_show 474 = .ok (.iload 4, 2) := by decide +kernel
theorem dX12_show_476 : decode cX12_show 476 = .ok (.iload 8, 2) := by decide +kernel
theorem dX12_show_478 : decode cX12_show 478 = .ok (.iload 9, 2) := by decide +kernel
theorem dX12_show_480 : decode cX12_show 480 = .ok (.invokevirtual 328, 3) := by decide +kernel
theorem dX12_show_483 : decode cX12_show 483 = .ok (.aload_n 0, 1) := by decide +kernel
theorem dX12_show_484 : decode cX12_show 484 = .ok (.getfield 191, 3) := by decide +kernel
theorem dX12_show_487 : decode cX12_show 487 = .ok (.ifCond .eq 4, 3) := by decide +kernel
theorem dX12_show_490 : decode cX12_show 490 = .ok (.return_, 1) := by decide +kernel
theorem dX12_show_491 : decode cX12_show 491 = .ok (.aload_n 0, 1) := by decide +kernel
theorem dX12_show_492 : decode cX12_show 492 = .ok (.aload_n 0, 1) := by decide +kernel
theorem dX12_show_493 : decode cX12_show 493 = .ok (.getfield 9, 3) := by decide +kernel
theorem dX12_show_496 : decode cX12_show 496 = .ok (.sipush 189, 3) := by decide +kernel
theorem dX12_show_499 : decode cX12_show 499 = .ok (.iaload, 1) := by decide +kernel
theorem dX12_show_500 : decode cX12_show 500 = .ok (.i2l, 1) := by decide +kernel
theorem dX12_show_501 : decode cX12_show 501 = .ok (.iload 6, 2) := by decide +kernel
theorem dX12_show_503 : decode cX12_show 503 = .ok (.i2l, 1) := by decide +kernel
theorem dX12_show_504 : decode cX12_show 504 = .ok (.ladd, 1) := by decide +kernel
theorem dX12_show_505 : decode cX12_show 505 = .ok (.invokevirtual 210, 3) := by decide +kernel
theorem dX12_show_508 : decode cX12_show 508 = .ok (.aload_n 0, 1) := by decide +kernel
theorem dX12_show_509 : decode cX12_show 509 = .ok (.getfield 9, 3) := by decide +kernel
theorem dX12_show_512 : decode cX12_show 512 = .ok (.sipush 188, 3) := by decide +kernel
theorem dX12_show_515 : decode cX12_show 515 = .ok (.iload 6, 2) := by decide +kernel
theorem dX12_show_517 : decode cX12_show 517 = .ok (.iastore, 1) := by decide +kernel
theorem dX12_show_518 : decode cX12_show 518 = .ok (.return_, 1) := by decide +kernel
noncomputable def f_X12_show_483 (G : Int32 → Mm → Option (Unit × Mm)) (a6 : Int32) (T : Mm) : Option (Unit × Mm) :=
  if (gI T 1233 133) = 0 then (bd (f_X12_setX ((((gA T 134 189)).toInt64) + ((a6).toInt64)) T) fun _ T1 =>
  lb (uA T1 134 188 (a6)) fun T2 =>
  some ((), T2))
  else (some ((), T))
set_option maxRecDepth 100000 in
set_option maxHeartbeats 4000000 in
theorem s_X12_show_483 {x : JX} {ad : Nat → Nat} {U : Mm} {S0 : Hp} {q : Unit × Mm} {D : Nat} {G : Int32 → Mm → Option (Unit × Mm)}  (hn9 : x_n x = 11) (C : CB x RX12 cX12_show) (M : CMr x (D + 3) none S0 ad false U eV q) (hD : 40 ≤ D) (hG : ∀ (i : Int32) (T : Mm) (q : Unit × Mm), G i T = some q → Cr D yX12_through cX12_through 8 none [.ref (ad 133), .int i] ad false U T eV q) (a6 : Int32) (T : Mm) (h : f_X12_show_483 G  a6 T = some q) : Jr x ad false U T [(0, .ref (ad 133)), (6, .int a6)] 483 [] := by
  unfold f_X12_show_483 at h
  refine r_aload_n C dX12_show_483 rfl 0 rfl ?_
  refine r_geti (f := 1233) C flX12_191 dX12_show_484 kq_133 (by decide) (by decide) rfl ?_
  refine r_if_eq (tgt := 491) C dX12_show_487 (by decide) h (fun h => ?_) (fun h => ?_)
  · refine r_aload_n C dX12_show_491 rfl 0 rfl ?_
    refine r_aload_n C dX12_show_492 rfl 0 rfl ?_
    refine r_getp (f := 1200) (j := 134) C flX12_9 dX12_show_493 kq_133 (by decide) rfl (fun W => pt_1200 kq_133 W) ?_
    refine r_sipush (v := 189) C dX12_show_496 (by decide) ?_
    refine r_ialdc (n := 192) C 189 dX12_show_499 kq_134 lq_134 (vp_lit (by decide)) (by decide) ?_
    show Jr _ _ _ _ _ _ 500 _
    refine r_i2l C dX12_show_500 rfl ?_
    refine r_iload C dX12_show_501 1 rfl ?_
    refine r_i2l C dX12_show_503 rfl ?_
    refine r_ladd C dX12_show_504 rfl ?_
    refine r_callVN C M h [.long ((((gA T 134 189)).toInt64) + ((a6).toInt64))] [] mlX12_210 mcX12_setX (fun q9 e9 => s_X12_setX ((((gA T 134 189)).toInt64) + ((a6).toInt64))  e9) kq_133 rfl (by omega) (by decide) rfl rfl (Nat.le_of_ble_eq_true rfl) dX12_show_505 (fun _ T1 h => ?_)
    refine r_aload_n C dX12_show_508 rfl 0 rfl ?_
    show Jr _ _ _ _ _ _ 509 _
    refine r_getp (f := 1200) (j := 134) C flX12_9 dX12_show_509 kq_133 (by decide) rfl (fun W => pt_1200 kq_133 W) ?_
    refine r_sipush (v := 188) C dX12_show_512 (by decide) ?_
    refine r_iload C dX12_show_515 1 rfl ?_
    refine r_iastc (n := 192) C 188 dX12_show_517 kq_134 lq_134 (vp_lit (by decide)) (by decide) h (fun T2 h => ?_)
    exact r_vret C M dX12_show_518 h
  · exact r_vret C M dX12_show_490 h
noncomputable def f_X12_show_446 (G : Int32 → Mm → Option (Unit × Mm)) (a1 : Int32) (a3 : Int32) (a4 : Int32) (a6 : Int32) (a8 : Int32) (a9 : Int32) (b0 : Int32) (T : Mm) : Option (Unit × Mm) :=
  if b0 = 0 then (f_X12_show_483 G a6 T)
  else (bd (f_X12_useAtHand T) fun _ T1 =>
  if a3 = 0 then (bd (f_X12_glyph a4 a8 a9 T1) fun _ T2 =>
  f_X12_show_483 G a6 T2)
  else (bd (f_X12_residentGlyph a1 a8 a9 T1) fun _ T3 =>
  f_X12_show_483 G a6 T3))
set_option maxRecDepth 100000 in
set_option maxHeartbeats 4000000 in
theorem s_X12_show_446 {x : JX} {ad : Nat → Nat} {U : Mm} {S0 : Hp} {q : Unit × Mm} {D : Nat} {G : Int32 → Mm → Option (Unit × Mm)}  (hn9 : x_n x = 11) (C : CB x RX12 cX12_show) (M : CMr x (D + 3) none S0 ad false U eV q) (hD : 40 ≤ D) (hG : ∀ (i : Int32) (T : Mm) (q : Unit × Mm), G i T = some q → Cr D yX12_through cX12_through 8 none [.ref (ad 133), .int i] ad false U T eV q) (a1 : Int32) (a3 : Int32) (a4 : Int32) (a6 : Int32) (a8 : Int32) (a9 : Int32) (b0 : Int32) (T : Mm) (h : f_X12_show_446 G  a1 a3 a4 a6 a8 a9 b0 T = some q) : Jr x ad false U T [(0, .ref (ad 133)), (1, .int a1), (3, .int a3), (4, .int a4), (6, .int a6), (8, .int a8), (9, .int a9)] 446 [.int b0] := by
  unfold f_X12_show_446 at h
  refine r_istore (lv' := [(10, .int b0), (0, .ref (ad 133)), (1, .int a1), (3, .int a3), (4, .int a4), (6, .int a6), (8, .int a8), (9, .int a9)]) C dX12_show_446 (by rw [hn9]; decide) rfl ?_
  refine r_iload C dX12_show_448 0 rfl ?_
  refine r_if_eq (tgt := 483) C dX12_show_450 (by decide) h (fun h => ?_) (fun h => ?_)
  · refine Jr.sub [1, 5] (lv' := [(0, .ref (ad 133)), (6, .int a6)]) rfl ?_
    exact s_X12_show_483 hn9 C M hD hG  a6 T h
  · refine r_aload_n C dX12_show_453 rfl 1 rfl ?_
    refine r_callVN C M h [] [] mlX12_321 mcX12_useAtHand (fun q9 e9 => s_X12_useAtHand   e9) kq_133 rfl (by omega) (by decide) rfl rfl (Nat.le_of_ble_eq_true rfl) dX12_show_454 (fun _ T1 h => ?_)
    refine r_iload_n C dX12_show_457 rfl 3 rfl ?_
    refine r_if_eq (tgt := 473) C dX12_show_458 (by decide) h (fun h => ?_) (fun h => ?_)
    · refine r_aload_n C dX12_show_473 rfl 1 rfl ?_
      refine r_iload C dX12_show_474 4 rfl ?_
      refine r_iload C dX12_show_476 6 rfl ?_
      refine r_iload C dX12_show_478 7 rfl ?_
      refine r_callVN C M h [.int a4, .int a8, .int a9] [] mlX12_328 mcX12_glyph (fun q9 e9 => s_X12_glyph a4 a8 a9  e9) kq_133 rfl (by omega) (by decide) rfl rfl (Nat.le_of_ble_eq_true rfl) dX12_show_480 (fun _ T2 h => ?_)
      refine Jr.sub [1, 5] (lv' := [(0, .ref (ad 133)), (6, .int a6)]) rfl ?_
      exact s_X12_show_483 hn9 C M hD hG  a6 T2 h
    · refine r_aload_n C dX12_show_461 rfl 1 rfl ?_
      refine r_iload_n C dX12_show_462 rfl 2 rfl ?_
      refine r_iload C dX12_show_463 6 rfl ?_
      refine r_iload C dX12_show_465 7 rfl ?_
      refine r_callVN C M h [.int a1, .int a8, .int a9] [] mlX12_324 mcX12_residentGlyph (fun q9 e9 => s_X12_residentGlyph a1 a8 a9  e9) kq_133 rfl (by omega) (by decide) rfl rfl (Nat.le_of_ble_eq_true rfl) dX12_show_467 (fun _ T3 h => ?_)
      show Jr _ _ _ _ _ _ 470 _
      refine r_goto (tgt := 483) C dX12_show_470 (by decide) ?_
      refine Jr.sub [1, 5] (lv' := [(0, .ref (ad 133)), (6, .int a6)]) rfl ?_
      exact s_X12_show_483 hn9 C M hD hG  a6 T3 h
noncomputable def f_X12_show_322 (G : Int32 → Mm → Option (Unit × Mm)) (a1 : Int32) (a3 : Int32) (a4 : Int32) (a5 : Int32) (a6 : Int32) (T : Mm) : Option (Unit × Mm) :=
  lb (((gA T 134 189) / 96)) fun v1 =>
  lb (((gA T 134 190) / 96)) fun v2 =>
  if a5 = 0 then (f_X12_show_446 G a1 a3 a4 a6 v1 v2 0 T)
  else (if a3 = 0 then (ix ((5 : Int32) * a4) 2000 fun j3 =>
  ix (((5 : Int32) * a4) + 1) 2000 fun j5 =>
  ix (((5 : Int32) * a4) + 2) 2000 fun j7 =>
  ix (((5 : Int32) * a4) + 3) 2000 fun j9 =>
  bd (f_X12_mark (((v1 + (gA T 141 j3))).toInt64) (((v2 - (gA T 141 j5))).toInt64) (((gA T 141 j7)).toInt64) (((gA T 141 j9)).toInt64) T) fun v11 T12 =>
  if v11 = 0 then (f_X12_show_446 G a1 a3 a4 a6 v1 v2 0 T12)
  else (f_X12_show_446 G a1 a3 a4 a6 v1 v2 1 T12))
  else (bd (f_X12_mark ((v1).toInt64) (((v2 - 7)).toInt64) 6 8 T) fun v13 T14 =>
  if v13 = 0 then (f_X12_show_446 G a1 a3 a4 a6 v1 v2 0 T14)
  else (f_X12_show_446 G a1 a3 a4 a6 v1 v2 1 T14)))
set_option maxRecDepth 100000 in
set_option maxHeartbeats 4000000 in
theorem s_X12_show_322 {x : JX} {ad : Nat → Nat} {U : Mm} {S0 : Hp} {q : Unit × Mm} {D : Nat} {G : Int32 → Mm → Option (Unit × Mm)}  (hn9 : x_n x = 11) (C : CB x RX12 cX12_show) (M : CMr x (D + 3) none S0 ad false U eV q) (hD : 40 ≤ D) (hG : ∀ (i : Int32) (T : Mm) (q : Unit × Mm), G i T = some q → Cr D yX12_through cX12_through 8 none [.ref (ad 133), .int i] ad false U T eV q) (a1 : Int32) (a3 : Int32) (a4 : Int32) (a5 : Int32) (a6 : Int32) (T : Mm) (h : f_X12_show_322 G  a1 a3 a4 a5 a6 T = some q) : Jr x ad false U T [(0, .ref (ad 133)), (1, .int a1), (3, .int a3), (4, .int a4), (5, .int a5), (6, .int a6)] 322 [] := by
  unfold f_X12_show_322 at h
  refine r_aload_n C dX12_show_322 rfl 0 rfl ?_
  refine r_getp (f := 1200) (j := 134) C flX12_9 dX12_show_323 kq_133 (by decide) rfl (fun W => pt_1200 kq_133 W) ?_
  refine r_sipush (v := 189) C dX12_show_326 (by decide) ?_
  refine r_ialdc (n := 192) C 189 dX12_show_329 kq_134 lq_134 (vp_lit (by decide)) (by decide) ?_
  refine r_bipush (v := 96) C dX12_show_330 (by decide) ?_
  show Jr _ _ _ _ _ _ 332 _
  refine r_idiv C dX12_show_332 (by decide) rfl ?_
  refine r_lbI h (fun v1 h => ?_)
  refine r_istore (lv' := [(8, .int v1), (0, .ref (ad 133)), (1, .int a1), (3, .int a3), (4, .int a4), (5, .int a5), (6, .int a6)]) C dX12_show_333 (by rw [hn9]; decide) rfl ?_
  refine r_aload_n C dX12_show_335 rfl 1 rfl ?_
  refine r_getp (f := 1200) (j := 134) C flX12_9 dX12_show_336 kq_133 (by decide) rfl (fun W => pt_1200 kq_133 W) ?_
  refine r_sipush (v := 190) C dX12_show_339 (by decide) ?_
  refine r_ialdc (n := 192) C 190 dX12_show_342 kq_134 lq_134 (vp_lit (by decide)) (by decide) ?_
  show Jr _ _ _ _ _ _ 343 _
  refine r_bipush (v := 96) C dX12_show_343 (by decide) ?_
  refine r_idiv C dX12_show_345 (by decide) rfl ?_
  refine r_lbI h (fun v2 h => ?_)
  refine r_istore (lv' := [(9, .int v2), (8, .int v1), (0, .ref (ad 133)), (1, .int a1), (3, .int a3), (4, .int a4), (5, .int a5), (6, .int a6)]) C dX12_show_346 (by rw [hn9]; decide) rfl ?_
  refine r_iload C dX12_show_348 6 rfl ?_
  refine r_if_eq (tgt := 445) C dX12_show_350 (by decide) h (fun h => ?_) (fun h => ?_)
  · refine r_iconst (v := 0) C dX12_show_445 (by decide) ?_
    refine Jr.sub [2, 3, 4, 5, 7, 1, 0] (lv' := [(0, .ref (ad 133)), (1, .int a1), (3, .int a3), (4, .int a4), (6, .int a6), (8, .int v1), (9, .int v2)]) rfl ?_
    exact s_X12_show_446 hn9 C M hD hG  a1 a3 a4 a6 v1 v2 0 T h
  · refine r_iload_n C dX12_show_353 rfl 4 rfl ?_
    refine r_if_eq (tgt := 382) C dX12_show_354 (by decide) h (fun h => ?_) (fun h => ?_)
    · refine r_aload_n C dX12_show_382 rfl 2 rfl ?_
      refine r_iload C dX12_show_383 1 rfl ?_
      refine r_aload_n C dX12_show_385 rfl 2 rfl ?_
      refine r_getp (f := 1207) (j := 141) C flX12_32 dX12_show_386 kq_133 (by decide) rfl (fun W => pt_1207 kq_133 W) ?_
      refine r_iconst (v := 5) C dX12_show_389 (by decide) ?_
      show Jr _ _ _ _ _ _ 390 _
      refine r_iload C dX12_show_390 5 rfl ?_
      refine r_imul C dX12_show_392 rfl ?_
      refine r_iald (n := 2000) C dX12_show_393 kq_141 lq_141 h (fun j3 hj4 h => ?_)
      refine r_iadd C dX12_show_394 rfl ?_
      refine r_i2l C dX12_show_395 rfl ?_
      refine r_iload C dX12_show_396 0 rfl ?_
      show Jr _ _ _ _ _ _ 398 _
      refine r_aload_n C dX12_show_398 rfl 2 rfl ?_
      refine r_getp (f := 1207) (j := 141) C flX12_32 dX12_show_399 kq_133 (by decide) rfl (fun W => pt_1207 kq_133 W) ?_
      refine r_iconst (v := 5) C dX12_show_402 (by decide) ?_
      refine r_iload C dX12_show_403 5 rfl ?_
      refine r_imul C dX12_show_405 rfl ?_
      refine r_iconst (v := 1) C dX12_show_406 (by decide) ?_
      show Jr _ _ _ _ _ _ 407 _
      refine r_iadd C dX12_show_407 rfl ?_
      refine r_iald (n := 2000) C dX12_show_408 kq_141 lq_141 h (fun j5 hj6 h => ?_)
      refine r_isub C dX12_show_409 rfl ?_
      refine r_i2l C dX12_show_410 rfl ?_
      refine r_aload_n C dX12_show_411 rfl 2 rfl ?_
      refine r_getp (f := 1207) (j := 141) C flX12_32 dX12_show_412 kq_133 (by decide) rfl (fun W => pt_1207 kq_133 W) ?_
      show Jr _ _ _ _ _ _ 415 _
      refine r_iconst (v := 5) C dX12_show_415 (by decide) ?_
      refine r_iload C dX12_show_416 5 rfl ?_
      refine r_imul C dX12_show_418 rfl ?_
      refine r_iconst (v := 2) C dX12_show_419 (by decide) ?_
      refine r_iadd C dX12_show_420 rfl ?_
      refine r_iald (n := 2000) C dX12_show_421 kq_141 lq_141 h (fun j7 hj8 h => ?_)
      show Jr _ _ _ _ _ _ 422 _
      refine r_i2l C dX12_show_422 rfl ?_
      refine r_aload_n C dX12_show_423 rfl 2 rfl ?_
      refine r_getp (f := 1207) (j := 141) C flX12_32 dX12_show_424 kq_133 (by decide) rfl (fun W => pt_1207 kq_133 W) ?_
      refine r_iconst (v := 5) C dX12_show_427 (by decide) ?_
      refine r_iload C dX12_show_428 5 rfl ?_
      refine r_imul C dX12_show_430 rfl ?_
      show Jr _ _ _ _ _ _ 431 _
      refine r_iconst (v := 3) C dX12_show_431 (by decide) ?_
      refine r_iadd C dX12_show_432 rfl ?_
      refine r_iald (n := 2000) C dX12_show_433 kq_141 lq_141 h (fun j9 hj10 h => ?_)
      refine r_i2l C dX12_show_434 rfl ?_
      refine r_callVI C M h [.long (((v1 + (gA T 141 j3))).toInt64), .long (((v2 - (gA T 141 j5))).toInt64), .long (((gA T 141 j7)).toInt64), .long (((gA T 141 j9)).toInt64)] [] mlX12_317 mcX12_mark (fun q9 e9 => s_X12_mark (((v1 + (gA T 141 j3))).toInt64) (((v2 - (gA T 141 j5))).toInt64) (((gA T 141 j7)).toInt64) (((gA T 141 j9)).toInt64)  e9) kq_133 rfl (by omega) (by decide) rfl rfl (Nat.le_of_ble_eq_true rfl) dX12_show_435 (fun v11 T12 h => ?_)
      refine r_if_eq (tgt := 445) C dX12_show_438 (by decide) h (fun h => ?_) (fun h => ?_)
      · refine r_iconst (v := 0) C dX12_show_445 (by decide) ?_
        refine Jr.sub [2, 3, 4, 5, 7, 1, 0] (lv' := [(0, .ref (ad 133)), (1, .int a1), (3, .int a3), (4, .int a4), (6, .int a6), (8, .int v1), (9, .int v2)]) rfl ?_
        exact s_X12_show_446 hn9 C M hD hG  a1 a3 a4 a6 v1 v2 0 T12 h
      · refine r_iconst (v := 1) C dX12_show_441 (by decide) ?_
        refine r_goto (tgt := 446) C dX12_show_442 (by decide) ?_
        refine Jr.sub [2, 3, 4, 5, 7, 1, 0] (lv' := [(0, .ref (ad 133)), (1, .int a1), (3, .int a3), (4, .int a4), (6, .int a6), (8, .int v1), (9, .int v2)]) rfl ?_
        exact s_X12_show_446 hn9 C M hD hG  a1 a3 a4 a6 v1 v2 1 T12 h
    · refine r_aload_n C dX12_show_357 rfl 2 rfl ?_
      refine r_iload C dX12_show_358 1 rfl ?_
      refine r_i2l C dX12_show_360 rfl ?_
      refine r_iload C dX12_show_361 0 rfl ?_
      refine r_bipush (v := 7) C dX12_show_363 (by decide) ?_
      show Jr _ _ _ _ _ _ 365 _
      refine r_isub C dX12_show_365 rfl ?_
      refine r_i2l C dX12_show_366 rfl ?_
      refine r_ldc2 (v := 6) C dX12_show_367 kcX12_315 ?_
      refine r_ldc2 (v := 8) C dX12_show_370 kcX12_313 ?_
      refine r_callVI C M h [.long ((v1).toInt64), .long (((v2 - 7)).toInt64), .long 6, .long 8] [] mlX12_317 mcX12_mark (fun q9 e9 => s_X12_mark ((v1).toInt64) (((v2 - 7)).toInt64) 6 8  e9) kq_133 rfl (by omega) (by decide) rfl rfl (Nat.le_of_ble_eq_true rfl) dX12_show_373 (fun v13 T14 h => ?_)
      refine r_if_eq (tgt := 445) C dX12_show_376 (by decide) h (fun h => ?_) (fun h => ?_)
      · refine r_iconst (v := 0) C dX12_show_445 (by decide) ?_
        refine Jr.sub [2, 3, 4, 5, 7, 1, 0] (lv' := [(0, .ref (ad 133)), (1, .int a1), (3, .int a3), (4, .int a4), (6, .int a6), (8, .int v1), (9, .int v2)]) rfl ?_
        exact s_X12_show_446 hn9 C M hD hG  a1 a3 a4 a6 v1 v2 0 T14 h
      · refine r_goto (tgt := 441) C dX12_show_379 (by decide) ?_
        refine r_iconst (v := 1) C dX12_show_441 (by decide) ?_
        refine r_goto (tgt := 446) C dX12_show_442 (by decide) ?_
        refine Jr.sub [2, 3, 4, 5, 7, 1, 0] (lv' := [(0, .ref (ad 133)), (1, .int a1), (3, .int a3), (4, .int a4), (6, .int a6), (8, .int v1), (9, .int v2)]) rfl ?_
        exact s_X12_show_446 hn9 C M hD hG  a1 a3 a4 a6 v1 v2 1 T14 h
noncomputable def f_X12_show_281 (G : Int32 → Mm → Option (Unit × Mm)) (a1 : Int32) (a2 : Int32) (a3 : Int32) (a4 : Int32) (b0 : Int32) (T : Mm) : Option (Unit × Mm) :=
  lb ((gA T 134 7)) fun v1 =>
  if b0 = 0 then (f_X12_show_322 G a1 a3 a4 b0 v1 T)
  else (ix ((7 : Int32) * a2) 119 fun j2 =>
  if (gA T 138 j2) = 0 then (f_X12_show_322 G a1 a3 a4 b0 v1 T)
  else (ix (((5 : Int32) * a4) + 4) 2000 fun j4 =>
  lb ((gA T 141 j4)) fun v6 =>
  f_X12_show_322 G a1 a3 a4 b0 v6 T))
set_option maxRecDepth 100000 in
set_option maxHeartbeats 4000000 in
theorem s_X12_show_281 {x : JX} {ad : Nat → Nat} {U : Mm} {S0 : Hp} {q : Unit × Mm} {D : Nat} {G : Int32 → Mm → Option (Unit × Mm)}  (hn9 : x_n x = 11) (C : CB x RX12 cX12_show) (M : CMr x (D + 3) none S0 ad false U eV q) (hD : 40 ≤ D) (hG : ∀ (i : Int32) (T : Mm) (q : Unit × Mm), G i T = some q → Cr D yX12_through cX12_through 8 none [.ref (ad 133), .int i] ad false U T eV q) (a1 : Int32) (a2 : Int32) (a3 : Int32) (a4 : Int32) (b0 : Int32) (T : Mm) (h : f_X12_show_281 G  a1 a2 a3 a4 b0 T = some q) : Jr x ad false U T [(0, .ref (ad 133)), (1, .int a1), (2, .int a2), (3, .int a3), (4, .int a4)] 281 [.int b0] := by
  unfold f_X12_show_281 at h
  refine r_istore (lv' := [(5, .int b0), (0, .ref (ad 133)), (1, .int a1), (2, .int a2), (3, .int a3), (4, .int a4)]) C dX12_show_281 (by rw [hn9]; decide) rfl ?_
  refine r_aload_n C dX12_show_283 rfl 1 rfl ?_
  refine r_getp (f := 1200) (j := 134) C flX12_9 dX12_show_284 kq_133 (by decide) rfl (fun W => pt_1200 kq_133 W) ?_
  refine r_bipush (v := 7) C dX12_show_287 (by decide) ?_
  refine r_ialdc (n := 192) C 7 dX12_show_289 kq_134 lq_134 (vp_lit (by decide)) (by decide) ?_
  show Jr _ _ _ _ _ _ 290 _
  refine r_lbI h (fun v1 h => ?_)
  refine r_istore (lv' := [(6, .int v1), (5, .int b0), (0, .ref (ad 133)), (1, .int a1), (2, .int a2), (3, .int a3), (4, .int a4)]) C dX12_show_290 (by rw [hn9]; decide) rfl ?_
  refine r_iload C dX12_show_292 1 rfl ?_
  refine r_if_eq (tgt := 322) C dX12_show_294 (by decide) h (fun h => ?_) (fun h => ?_)
  · refine Jr.sub [2, 3, 5, 6, 1, 0] (lv' := [(0, .ref (ad 133)), (1, .int a1), (3, .int a3), (4, .int a4), (5, .int b0), (6, .int v1)]) rfl ?_
    exact s_X12_show_322 hn9 C M hD hG  a1 a3 a4 b0 v1 T h
  · refine r_aload_n C dX12_show_297 rfl 2 rfl ?_
    refine r_getp (f := 1204) (j := 138) C flX12_23 dX12_show_298 kq_133 (by decide) rfl (fun W => pt_1204 kq_133 W) ?_
    refine r_bipush (v := 7) C dX12_show_301 (by decide) ?_
    refine r_iload_n C dX12_show_303 rfl 4 rfl ?_
    refine r_imul C dX12_show_304 rfl ?_
    show Jr _ _ _ _ _ _ 305 _
    refine r_iald (n := 119) C dX12_show_305 kq_138 lq_138 h (fun j2 hj3 h => ?_)
    refine r_if_eq (tgt := 322) C dX12_show_306 (by decide) h (fun h => ?_) (fun h => ?_)
    · refine Jr.sub [2, 3, 5, 6, 1, 0] (lv' := [(0, .ref (ad 133)), (1, .int a1), (3, .int a3), (4, .int a4), (5, .int b0), (6, .int v1)]) rfl ?_
      exact s_X12_show_322 hn9 C M hD hG  a1 a3 a4 b0 v1 T h
    · refine r_aload_n C dX12_show_309 rfl 2 rfl ?_
      refine r_getp (f := 1207) (j := 141) C flX12_32 dX12_show_310 kq_133 (by decide) rfl (fun W => pt_1207 kq_133 W) ?_
      refine r_iconst (v := 5) C dX12_show_313 (by decide) ?_
      refine r_iload C dX12_show_314 6 rfl ?_
      refine r_imul C dX12_show_316 rfl ?_
      show Jr _ _ _ _ _ _ 317 _
      refine r_iconst (v := 4) C dX12_show_317 (by decide) ?_
      refine r_iadd C dX12_show_318 rfl ?_
      refine r_iald (n := 2000) C dX12_show_319 kq_141 lq_141 h (fun j4 hj5 h => ?_)
      refine r_lbI h (fun v6 h => ?_)
      refine r_istore (lv' := [(6, .int v6), (5, .int b0), (0, .ref (ad 133)), (1, .int a1), (2, .int a2), (3, .int a3), (4, .int a4)]) C dX12_show_320 (by rw [hn9]; decide) rfl ?_
      refine Jr.sub [2, 3, 5, 6, 1, 0] (lv' := [(0, .ref (ad 133)), (1, .int a1), (3, .int a3), (4, .int a4), (5, .int b0), (6, .int v6)]) rfl ?_
      exact s_X12_show_322 hn9 C M hD hG  a1 a3 a4 b0 v6 T h
noncomputable def f_X12_show_244 (G : Int32 → Mm → Option (Unit × Mm)) (a1 : Int32) (a2 : Int32) (a3 : Int32) (b0 : Int32) (T : Mm) : Option (Unit × Mm) :=
  if a3 = 0 then (if b0 = (-1) then (f_X12_show_281 G a1 a2 a3 b0 0 T)
  else (f_X12_show_281 G a1 a2 a3 b0 1 T))
  else (if a1 < 33 then (f_X12_show_281 G a1 a2 a3 b0 0 T)
  else (if 126 < a1 then (f_X12_show_281 G a1 a2 a3 b0 0 T)
  else (f_X12_show_281 G a1 a2 a3 b0 1 T)))
set_option maxRecDepth 100000 in
set_option maxHeartbeats 4000000 in
theorem s_X12_show_244 {x : JX} {ad : Nat → Nat} {U : Mm} {S0 : Hp} {q : Unit × Mm} {D : Nat} {G : Int32 → Mm → Option (Unit × Mm)}  (hn9 : x_n x = 11) (C : CB x RX12 cX12_show) (M : CMr x (D + 3) none S0 ad false U eV q) (hD : 40 ≤ D) (hG : ∀ (i : Int32) (T : Mm) (q : Unit × Mm), G i T = some q → Cr D yX12_through cX12_through 8 none [.ref (ad 133), .int i] ad false U T eV q) (a1 : Int32) (a2 : Int32) (a3 : Int32) (b0 : Int32) (T : Mm) (h : f_X12_show_244 G  a1 a2 a3 b0 T = some q) : Jr x ad false U T [(0, .ref (ad 133)), (1, .int a1), (2, .int a2), (3, .int a3)] 244 [.int b0] := by
  unfold f_X12_show_244 at h
  refine r_istore (lv' := [(4, .int b0), (0, .ref (ad 133)), (1, .int a1), (2, .int a2), (3, .int a3)]) C dX12_show_244 (by rw [hn9]; decide) rfl ?_
  refine r_iload_n C dX12_show_246 rfl 4 rfl ?_
  refine r_if_eq (tgt := 270) C dX12_show_247 (by decide) h (fun h => ?_) (fun h => ?_)
  · refine r_iload C dX12_show_270 0 rfl ?_
    refine r_iconst (v := (-1)) C dX12_show_272 (by decide) ?_
    refine r_ic_eq (tgt := 280) C dX12_show_273 (by decide) h (fun h => ?_) (fun h => ?_)
    · refine r_iconst (v := 0) C dX12_show_280 (by decide) ?_
      refine Jr.sub [1, 2, 3, 4, 0] (lv' := [(0, .ref (ad 133)), (1, .int a1), (2, .int a2), (3, .int a3), (4, .int b0)]) rfl ?_
      exact s_X12_show_281 hn9 C M hD hG  a1 a2 a3 b0 0 T h
    · refine r_iconst (v := 1) C dX12_show_276 (by decide) ?_
      refine r_goto (tgt := 281) C dX12_show_277 (by decide) ?_
      refine Jr.sub [1, 2, 3, 4, 0] (lv' := [(0, .ref (ad 133)), (1, .int a1), (2, .int a2), (3, .int a3), (4, .int b0)]) rfl ?_
      exact s_X12_show_281 hn9 C M hD hG  a1 a2 a3 b0 1 T h
  · refine r_iload_n C dX12_show_250 rfl 2 rfl ?_
    refine r_bipush (v := 33) C dX12_show_251 (by decide) ?_
    refine r_ic_lt (tgt := 266) C dX12_show_253 (by decide) h (fun h => ?_) (fun h => ?_)
    · refine r_iconst (v := 0) C dX12_show_266 (by decide) ?_
      refine r_goto (tgt := 281) C dX12_show_267 (by decide) ?_
      refine Jr.sub [1, 2, 3, 4, 0] (lv' := [(0, .ref (ad 133)), (1, .int a1), (2, .int a2), (3, .int a3), (4, .int b0)]) rfl ?_
      exact s_X12_show_281 hn9 C M hD hG  a1 a2 a3 b0 0 T h
    · refine r_iload_n C dX12_show_256 rfl 2 rfl ?_
      refine r_bipush (v := 126) C dX12_show_257 (by decide) ?_
      refine r_ic_gt (tgt := 266) C dX12_show_259 (by decide) h (fun h => ?_) (fun h => ?_)
      · refine r_iconst (v := 0) C dX12_show_266 (by decide) ?_
        refine r_goto (tgt := 281) C dX12_show_267 (by decide) ?_
        refine Jr.sub [1, 2, 3, 4, 0] (lv' := [(0, .ref (ad 133)), (1, .int a1), (2, .int a2), (3, .int a3), (4, .int b0)]) rfl ?_
        exact s_X12_show_281 hn9 C M hD hG  a1 a2 a3 b0 0 T h
      · refine r_iconst (v := 1) C dX12_show_262 (by decide) ?_
        refine r_goto (tgt := 281) C dX12_show_263 (by decide) ?_
        refine Jr.sub [1, 2, 3, 4, 0] (lv' := [(0, .ref (ad 133)), (1, .int a1), (2, .int a2), (3, .int a3), (4, .int b0)]) rfl ?_
        exact s_X12_show_281 hn9 C M hD hG  a1 a2 a3 b0 1 T h
noncomputable def f_X12_show_223 (G : Int32 → Mm → Option (Unit × Mm)) (a1 : Int32) (a2 : Int32) (b0 : Int32) (T : Mm) : Option (Unit × Mm) :=
  if b0 = 0 then (ix (((256 : Int32) * a2) + a1) 4096 fun j1 =>
  f_X12_show_244 G a1 a2 b0 (gA T 139 j1) T)
  else (f_X12_show_244 G a1 a2 b0 (-1) T)
set_option maxRecDepth 100000 in
set_option maxHeartbeats 4000000 in
theorem s_X12_show_223 {x : JX} {ad : Nat → Nat} {U : Mm} {S0 : Hp} {q : Unit × Mm} {D : Nat} {G : Int32 → Mm → Option (Unit × Mm)}  (hn9 : x_n x = 11) (C : CB x RX12 cX12_show) (M : CMr x (D + 3) none S0 ad false U eV q) (hD : 40 ≤ D) (hG : ∀ (i : Int32) (T : Mm) (q : Unit × Mm), G i T = some q → Cr D yX12_through cX12_through 8 none [.ref (ad 133), .int i] ad false U T eV q) (a1 : Int32) (a2 : Int32) (b0 : Int32) (T : Mm) (h : f_X12_show_223 G  a1 a2 b0 T = some q) : Jr x ad false U T [(0, .ref (ad 133)), (1, .int a1), (2, .int a2)] 223 [.int b0] := by
  unfold f_X12_show_223 at h
  refine r_istore_n (lv' := [(3, .int b0), (0, .ref (ad 133)), (1, .int a1), (2, .int a2)]) C dX12_show_223 rfl (by rw [hn9]; decide) rfl ?_
  refine r_iload_n C dX12_show_224 rfl 0 rfl ?_
  refine r_if_eq (tgt := 232) C dX12_show_225 (by decide) h (fun h => ?_) (fun h => ?_)
  · refine r_aload_n C dX12_show_232 rfl 1 rfl ?_
    refine r_getp (f := 1205) (j := 139) C flX12_26 dX12_show_233 kq_133 (by decide) rfl (fun W => pt_1205 kq_133 W) ?_
    refine r_sipush (v := 256) C dX12_show_236 (by decide) ?_
    refine r_iload_n C dX12_show_239 rfl 3 rfl ?_
    refine r_imul C dX12_show_240 rfl ?_
    show Jr _ _ _ _ _ _ 241 _
    refine r_iload_n C dX12_show_241 rfl 2 rfl ?_
    refine r_iadd C dX12_show_242 rfl ?_
    refine r_iald (n := 4096) C dX12_show_243 kq_139 lq_139 h (fun j1 hj2 h => ?_)
    refine Jr.sub [1, 2, 3, 0] (lv' := [(0, .ref (ad 133)), (1, .int a1), (2, .int a2), (3, .int b0)]) rfl ?_
    exact s_X12_show_244 hn9 C M hD hG  a1 a2 b0 (gA T 139 j1) T h
  · refine r_iconst (v := (-1)) C dX12_show_228 (by decide) ?_
    refine r_goto (tgt := 244) C dX12_show_229 (by decide) ?_
    refine Jr.sub [1, 2, 3, 0] (lv' := [(0, .ref (ad 133)), (1, .int a1), (2, .int a2), (3, .int b0)]) rfl ?_
    exact s_X12_show_244 hn9 C M hD hG  a1 a2 b0 (-1) T h
noncomputable def f_X12_show_148 (G : Int32 → Mm → Option (Unit × Mm)) (a1 : Int32) (a3 : Int32) (a4 : Int32) (a5 : Int32) (a6 : Int32) (b0 : Int32) (T : Mm) : Option (Unit × Mm) :=
  if ((gA T 134 189) + a6) ≤ b0 then (f_X12_show_322 G a1 a3 a4 a5 a6 T)
  else (if (gA T 134 11) = 0 then (some ((), T))
  else (bd (f_X12_setX (((gA T 134 2)).toInt64) T) fun _ T1 =>
  bd (f_X12_line G (gA T1 134 6) T1) fun _ T2 =>
  if (gI T2 1233 133) = 0 then (bd (f_X12_fontInUse T2) fun v3 T4 =>
  if v3 = 16 then (f_X12_show_223 G a1 v3 1 T4)
  else (f_X12_show_223 G a1 v3 0 T4))
  else (some ((), T2))))
set_option maxRecDepth 100000 in
set_option maxHeartbeats 4000000 in
theorem s_X12_show_148 {x : JX} {ad : Nat → Nat} {U : Mm} {S0 : Hp} {q : Unit × Mm} {D : Nat} {G : Int32 → Mm → Option (Unit × Mm)}  (hn9 : x_n x = 11) (C : CB x RX12 cX12_show) (M : CMr x (D + 3) none S0 ad false U eV q) (hD : 40 ≤ D) (hG : ∀ (i : Int32) (T : Mm) (q : Unit × Mm), G i T = some q → Cr D yX12_through cX12_through 8 none [.ref (ad 133), .int i] ad false U T eV q) (a1 : Int32) (a3 : Int32) (a4 : Int32) (a5 : Int32) (a6 : Int32) (b0 : Int32) (T : Mm) (h : f_X12_show_148 G  a1 a3 a4 a5 a6 b0 T = some q) : Jr x ad false U T [(0, .ref (ad 133)), (1, .int a1), (3, .int a3), (4, .int a4), (5, .int a5), (6, .int a6)] 148 [.int b0] := by
  unfold f_X12_show_148 at h
  refine r_istore (lv' := [(7, .int b0), (0, .ref (ad 133)), (1, .int a1), (3, .int a3), (4, .int a4), (5, .int a5), (6, .int a6)]) C dX12_show_148 (by rw [hn9]; decide) rfl ?_
  refine r_aload_n C dX12_show_150 rfl 1 rfl ?_
  refine r_getp (f := 1200) (j := 134) C flX12_9 dX12_show_151 kq_133 (by decide) rfl (fun W => pt_1200 kq_133 W) ?_
  refine r_sipush (v := 189) C dX12_show_154 (by decide) ?_
  refine r_ialdc (n := 192) C 189 dX12_show_157 kq_134 lq_134 (vp_lit (by decide)) (by decide) ?_
  show Jr _ _ _ _ _ _ 158 _
  refine r_iload C dX12_show_158 6 rfl ?_
  refine r_iadd C dX12_show_160 rfl ?_
  refine r_iload C dX12_show_161 0 rfl ?_
  refine r_ic_le (tgt := 322) C dX12_show_163 (by decide) h (fun h => ?_) (fun h => ?_)
  · refine Jr.sub [1, 2, 3, 4, 5, 6] (lv' := [(0, .ref (ad 133)), (1, .int a1), (3, .int a3), (4, .int a4), (5, .int a5), (6, .int a6)]) rfl ?_
    exact s_X12_show_322 hn9 C M hD hG  a1 a3 a4 a5 a6 T h
  · refine r_aload_n C dX12_show_166 rfl 1 rfl ?_
    refine r_getp (f := 1200) (j := 134) C flX12_9 dX12_show_167 kq_133 (by decide) rfl (fun W => pt_1200 kq_133 W) ?_
    refine r_bipush (v := 11) C dX12_show_170 (by decide) ?_
    refine r_ialdc (n := 192) C 11 dX12_show_172 kq_134 lq_134 (vp_lit (by decide)) (by decide) ?_
    refine r_if_ne (tgt := 177) C dX12_show_173 (by decide) h (fun h => ?_) (fun h => ?_)
    · refine r_aload_n C dX12_show_177 rfl 1 rfl ?_
      refine r_aload_n C dX12_show_178 rfl 1 rfl ?_
      refine r_getp (f := 1200) (j := 134) C flX12_9 dX12_show_179 kq_133 (by decide) rfl (fun W => pt_1200 kq_133 W) ?_
      refine r_iconst (v := 2) C dX12_show_182 (by decide) ?_
      refine r_ialdc (n := 192) C 2 dX12_show_183 kq_134 lq_134 (vp_lit (by decide)) (by decide) ?_
      show Jr _ _ _ _ _ _ 184 _
      refine r_i2l C dX12_show_184 rfl ?_
      refine r_callVN C M h [.long (((gA T 134 2)).toInt64)] [] mlX12_210 mcX12_setX (fun q9 e9 => s_X12_setX (((gA T 134 2)).toInt64)  e9) kq_133 rfl (by omega) (by decide) rfl rfl (Nat.le_of_ble_eq_true rfl) dX12_show_185 (fun _ T1 h => ?_)
      refine r_aload_n C dX12_show_188 rfl 1 rfl ?_
      refine r_aload_n C dX12_show_189 rfl 1 rfl ?_
      refine r_getp (f := 1200) (j := 134) C flX12_9 dX12_show_190 kq_133 (by decide) rfl (fun W => pt_1200 kq_133 W) ?_
      refine r_bipush (v := 6) C dX12_show_193 (by decide) ?_
      show Jr _ _ _ _ _ _ 195 _
      refine r_ialdc (n := 192) C 6 dX12_show_195 kq_134 lq_134 (vp_lit (by decide)) (by decide) ?_
      refine r_callVN C M h [.int (gA T1 134 6)] [] mlX12_304 mcX12_line (fun q9 e9 => s_X12_line hD (fun i9 T9 q9 e9 => hG i9 T9 q9 e9) (gA T1 134 6)  e9) kq_133 rfl (by omega) (by decide) rfl rfl (Nat.le_of_ble_eq_true rfl) dX12_show_196 (fun _ T2 h => ?_)
      refine r_aload_n C dX12_show_199 rfl 1 rfl ?_
      refine r_geti (f := 1233) C flX12_191 dX12_show_200 kq_133 (by decide) (by decide) rfl ?_
      refine r_if_eq (tgt := 207) C dX12_show_203 (by decide) h (fun h => ?_) (fun h => ?_)
      · refine r_aload_n C dX12_show_207 rfl 1 rfl ?_
        refine r_callVI C M h [] [] mlX12_310 mcX12_fontInUse (fun q9 e9 => s_X12_fontInUse   e9) kq_133 rfl (by omega) (by decide) rfl rfl (Nat.le_of_ble_eq_true rfl) dX12_show_208 (fun v3 T4 h => ?_)
        refine r_istore_n (lv' := [(2, .int v3), (7, .int b0), (0, .ref (ad 133)), (1, .int a1), (3, .int a3), (4, .int a4), (5, .int a5), (6, .int a6)]) C dX12_show_211 rfl (by rw [hn9]; decide) rfl ?_
        refine r_iload_n C dX12_show_212 rfl 0 rfl ?_
        refine r_bipush (v := 16) C dX12_show_213 (by decide) ?_
        show Jr _ _ _ _ _ _ 215 _
        refine r_ic_ne (tgt := 222) C dX12_show_215 (by decide) h (fun h => ?_) (fun h => ?_)
        · refine r_iconst (v := 0) C dX12_show_222 (by decide) ?_
          refine Jr.sub [2, 3, 0] (lv' := [(0, .ref (ad 133)), (1, .int a1), (2, .int v3)]) rfl ?_
          exact s_X12_show_223 hn9 C M hD hG  a1 v3 0 T4 h
        · refine r_iconst (v := 1) C dX12_show_218 (by decide) ?_
          refine r_goto (tgt := 223) C dX12_show_219 (by decide) ?_
          refine Jr.sub [2, 3, 0] (lv' := [(0, .ref (ad 133)), (1, .int a1), (2, .int v3)]) rfl ?_
          exact s_X12_show_223 hn9 C M hD hG  a1 v3 1 T4 h
      · exact r_vret C M dX12_show_206 h
    · exact r_vret C M dX12_show_176 h
noncomputable def f_X12_show_115 (G : Int32 → Mm → Option (Unit × Mm)) (a1 : Int32) (a3 : Int32) (a4 : Int32) (a5 : Int32) (a6 : Int32) (T : Mm) : Option (Unit × Mm) :=
  if (gA T 134 189) ≤ (gA T 134 3) then (f_X12_show_148 G a1 a3 a4 a5 a6 (gA T 134 3) T)
  else (bd (f_X12_wide T) fun v1 T2 =>
  f_X12_show_148 G a1 a3 a4 a5 a6 ((96 : Int32) * v1) T2)
set_option maxRecDepth 100000 in
set_option maxHeartbeats 4000000 in
theorem s_X12_show_115 {x : JX} {ad : Nat → Nat} {U : Mm} {S0 : Hp} {q : Unit × Mm} {D : Nat} {G : Int32 → Mm → Option (Unit × Mm)}  (hn9 : x_n x = 11) (C : CB x RX12 cX12_show) (M : CMr x (D + 3) none S0 ad false U eV q) (hD : 40 ≤ D) (hG : ∀ (i : Int32) (T : Mm) (q : Unit × Mm), G i T = some q → Cr D yX12_through cX12_through 8 none [.ref (ad 133), .int i] ad false U T eV q) (a1 : Int32) (a3 : Int32) (a4 : Int32) (a5 : Int32) (a6 : Int32) (T : Mm) (h : f_X12_show_115 G  a1 a3 a4 a5 a6 T = some q) : Jr x ad false U T [(0, .ref (ad 133)), (1, .int a1), (3, .int a3), (4, .int a4), (5, .int a5), (6, .int a6)] 115 [] := by
  unfold f_X12_show_115 at h
  refine r_aload_n C dX12_show_115 rfl 0 rfl ?_
  refine r_getp (f := 1200) (j := 134) C flX12_9 dX12_show_116 kq_133 (by decide) rfl (fun W => pt_1200 kq_133 W) ?_
  refine r_sipush (v := 189) C dX12_show_119 (by decide) ?_
  refine r_ialdc (n := 192) C 189 dX12_show_122 kq_134 lq_134 (vp_lit (by decide)) (by decide) ?_
  refine r_aload_n C dX12_show_123 rfl 0 rfl ?_
  show Jr _ _ _ _ _ _ 124 _
  refine r_getp (f := 1200) (j := 134) C flX12_9 dX12_show_124 kq_133 (by decide) rfl (fun W => pt_1200 kq_133 W) ?_
  refine r_iconst (v := 3) C dX12_show_127 (by decide) ?_
  refine r_ialdc (n := 192) C 3 dX12_show_128 kq_134 lq_134 (vp_lit (by decide)) (by decide) ?_
  refine r_ic_le (tgt := 142) C dX12_show_129 (by decide) h (fun h => ?_) (fun h => ?_)
  · refine r_aload_n C dX12_show_142 rfl 0 rfl ?_
    refine r_getp (f := 1200) (j := 134) C flX12_9 dX12_show_143 kq_133 (by decide) rfl (fun W => pt_1200 kq_133 W) ?_
    refine r_iconst (v := 3) C dX12_show_146 (by decide) ?_
    refine r_ialdc (n := 192) C 3 dX12_show_147 kq_134 lq_134 (vp_lit (by decide)) (by decide) ?_
    exact s_X12_show_148 hn9 C M hD hG  a1 a3 a4 a5 a6 (gA T 134 3) T h
  · refine r_bipush (v := 96) C dX12_show_132 (by decide) ?_
    refine r_aload_n C dX12_show_134 rfl 0 rfl ?_
    refine r_callVI C M h [] [.int 96] mlX12_172 mcX12_wide (fun q9 e9 => s_X12_wide   e9) kq_133 rfl (by omega) (by decide) rfl rfl (Nat.le_of_ble_eq_true rfl) dX12_show_135 (fun v1 T2 h => ?_)
    refine r_imul C dX12_show_138 rfl ?_
    refine r_goto (tgt := 148) C dX12_show_139 (by decide) ?_
    exact s_X12_show_148 hn9 C M hD hG  a1 a3 a4 a5 a6 ((96 : Int32) * v1) T2 h
noncomputable def f_X12_show_74 (G : Int32 → Mm → Option (Unit × Mm)) (a1 : Int32) (a2 : Int32) (a3 : Int32) (a4 : Int32) (b0 : Int32) (T : Mm) : Option (Unit × Mm) :=
  lb ((gA T 134 7)) fun v1 =>
  if b0 = 0 then (f_X12_show_115 G a1 a3 a4 b0 v1 T)
  else (ix ((7 : Int32) * a2) 119 fun j2 =>
  if (gA T 138 j2) = 0 then (f_X12_show_115 G a1 a3 a4 b0 v1 T)
  else (ix (((5 : Int32) * a4) + 4) 2000 fun j4 =>
  lb ((gA T 141 j4)) fun v6 =>
  f_X12_show_115 G a1 a3 a4 b0 v6 T))
set_option maxRecDepth 100000 in
set_option maxHeartbeats 4000000 in
theorem s_X12_show_74 {x : JX} {ad : Nat → Nat} {U : Mm} {S0 : Hp} {q : Unit × Mm} {D : Nat} {G : Int32 → Mm → Option (Unit × Mm)}  (hn9 : x_n x = 11) (C : CB x RX12 cX12_show) (M : CMr x (D + 3) none S0 ad false U eV q) (hD : 40 ≤ D) (hG : ∀ (i : Int32) (T : Mm) (q : Unit × Mm), G i T = some q → Cr D yX12_through cX12_through 8 none [.ref (ad 133), .int i] ad false U T eV q) (a1 : Int32) (a2 : Int32) (a3 : Int32) (a4 : Int32) (b0 : Int32) (T : Mm) (h : f_X12_show_74 G  a1 a2 a3 a4 b0 T = some q) : Jr x ad false U T [(0, .ref (ad 133)), (1, .int a1), (2, .int a2), (3, .int a3), (4, .int a4)] 74 [.int b0] := by
  unfold f_X12_show_74 at h
  refine r_istore (lv' := [(5, .int b0), (0, .ref (ad 133)), (1, .int a1), (2, .int a2), (3, .int a3), (4, .int a4)]) C dX12_show_74 (by rw [hn9]; decide) rfl ?_
  refine r_aload_n C dX12_show_76 rfl 1 rfl ?_
  refine r_getp (f := 1200) (j := 134) C flX12_9 dX12_show_77 kq_133 (by decide) rfl (fun W => pt_1200 kq_133 W) ?_
  refine r_bipush (v := 7) C dX12_show_80 (by decide) ?_
  refine r_ialdc (n := 192) C 7 dX12_show_82 kq_134 lq_134 (vp_lit (by decide)) (by decide) ?_
  show Jr _ _ _ _ _ _ 83 _
  refine r_lbI h (fun v1 h => ?_)
  refine r_istore (lv' := [(6, .int v1), (5, .int b0), (0, .ref (ad 133)), (1, .int a1), (2, .int a2), (3, .int a3), (4, .int a4)]) C dX12_show_83 (by rw [hn9]; decide) rfl ?_
  refine r_iload C dX12_show_85 1 rfl ?_
  refine r_if_eq (tgt := 115) C dX12_show_87 (by decide) h (fun h => ?_) (fun h => ?_)
  · refine Jr.sub [2, 3, 5, 6, 1, 0] (lv' := [(0, .ref (ad 133)), (1, .int a1), (3, .int a3), (4, .int a4), (5, .int b0), (6, .int v1)]) rfl ?_
    exact s_X12_show_115 hn9 C M hD hG  a1 a3 a4 b0 v1 T h
  · refine r_aload_n C dX12_show_90 rfl 2 rfl ?_
    refine r_getp (f := 1204) (j := 138) C flX12_23 dX12_show_91 kq_133 (by decide) rfl (fun W => pt_1204 kq_133 W) ?_
    refine r_bipush (v := 7) C dX12_show_94 (by decide) ?_
    refine r_iload_n C dX12_show_96 rfl 4 rfl ?_
    refine r_imul C dX12_show_97 rfl ?_
    show Jr _ _ _ _ _ _ 98 _
    refine r_iald (n := 119) C dX12_show_98 kq_138 lq_138 h (fun j2 hj3 h => ?_)
    refine r_if_eq (tgt := 115) C dX12_show_99 (by decide) h (fun h => ?_) (fun h => ?_)
    · refine Jr.sub [2, 3, 5, 6, 1, 0] (lv' := [(0, .ref (ad 133)), (1, .int a1), (3, .int a3), (4, .int a4), (5, .int b0), (6, .int v1)]) rfl ?_
      exact s_X12_show_115 hn9 C M hD hG  a1 a3 a4 b0 v1 T h
    · refine r_aload_n C dX12_show_102 rfl 2 rfl ?_
      refine r_getp (f := 1207) (j := 141) C flX12_32 dX12_show_103 kq_133 (by decide) rfl (fun W => pt_1207 kq_133 W) ?_
      refine r_iconst (v := 5) C dX12_show_106 (by decide) ?_
      refine r_iload C dX12_show_107 6 rfl ?_
      refine r_imul C dX12_show_109 rfl ?_
      show Jr _ _ _ _ _ _ 110 _
      refine r_iconst (v := 4) C dX12_show_110 (by decide) ?_
      refine r_iadd C dX12_show_111 rfl ?_
      refine r_iald (n := 2000) C dX12_show_112 kq_141 lq_141 h (fun j4 hj5 h => ?_)
      refine r_lbI h (fun v6 h => ?_)
      refine r_istore (lv' := [(6, .int v6), (5, .int b0), (0, .ref (ad 133)), (1, .int a1), (2, .int a2), (3, .int a3), (4, .int a4)]) C dX12_show_113 (by rw [hn9]; decide) rfl ?_
      refine Jr.sub [2, 3, 5, 6, 1, 0] (lv' := [(0, .ref (ad 133)), (1, .int a1), (3, .int a3), (4, .int a4), (5, .int b0), (6, .int v6)]) rfl ?_
      exact s_X12_show_115 hn9 C M hD hG  a1 a3 a4 b0 v6 T h
noncomputable def f_X12_show_37 (G : Int32 → Mm → Option (Unit × Mm)) (a1 : Int32) (a2 : Int32) (a3 : Int32) (b0 : Int32) (T : Mm) : Option (Unit × Mm) :=
  if a3 = 0 then (if b0 = (-1) then (f_X12_show_74 G a1 a2 a3 b0 0 T)
  else (f_X12_show_74 G a1 a2 a3 b0 1 T))
  else (if a1 < 33 then (f_X12_show_74 G a1 a2 a3 b0 0 T)
  else (if 126 < a1 then (f_X12_show_74 G a1 a2 a3 b0 0 T)
  else (f_X12_show_74 G a1 a2 a3 b0 1 T)))
set_option maxRecDepth 100000 in
set_option maxHeartbeats 4000000 in
theorem s_X12_show_37 {x : JX} {ad : Nat → Nat} {U : Mm} {S0 : Hp} {q : Unit × Mm} {D : Nat} {G : Int32 → Mm → Option (Unit × Mm)}  (hn9 : x_n x = 11) (C : CB x RX12 cX12_show) (M : CMr x (D + 3) none S0 ad false U eV q) (hD : 40 ≤ D) (hG : ∀ (i : Int32) (T : Mm) (q : Unit × Mm), G i T = some q → Cr D yX12_through cX12_through 8 none [.ref (ad 133), .int i] ad false U T eV q) (a1 : Int32) (a2 : Int32) (a3 : Int32) (b0 : Int32) (T : Mm) (h : f_X12_show_37 G  a1 a2 a3 b0 T = some q) : Jr x ad false U T [(0, .ref (ad 133)), (1, .int a1), (2, .int a2), (3, .int a3)] 37 [.int b0] := by
  unfold f_X12_show_37 at h
  refine r_istore (lv' := [(4, .int b0), (0, .ref (ad 133)), (1, .int a1), (2, .int a2), (3, .int a3)]) C dX12_show_37 (by rw [hn9]; decide) rfl ?_
  refine r_iload_n C dX12_show_39 rfl 4 rfl ?_
  refine r_if_eq (tgt := 63) C dX12_show_40 (by decide) h (fun h => ?_) (fun h => ?_)
  · refine r_iload C dX12_show_63 0 rfl ?_
    refine r_iconst (v := (-1)) C dX12_show_65 (by decide) ?_
    refine r_ic_eq (tgt := 73) C dX12_show_66 (by decide) h (fun h => ?_) (fun h => ?_)
    · refine r_iconst (v := 0) C dX12_show_73 (by decide) ?_
      refine Jr.sub [1, 2, 3, 4, 0] (lv' := [(0, .ref (ad 133)), (1, .int a1), (2, .int a2), (3, .int a3), (4, .int b0)]) rfl ?_
      exact s_X12_show_74 hn9 C M hD hG  a1 a2 a3 b0 0 T h
    · refine r_iconst (v := 1) C dX12_show_69 (by decide) ?_
      refine r_goto (tgt := 74) C dX12_show_70 (by decide) ?_
      refine Jr.sub [1, 2, 3, 4, 0] (lv' := [(0, .ref (ad 133)), (1, .int a1), (2, .int a2), (3, .int a3), (4, .int b0)]) rfl ?_
      exact s_X12_show_74 hn9 C M hD hG  a1 a2 a3 b0 1 T h
  · refine r_iload_n C dX12_show_43 rfl 2 rfl ?_
    refine r_bipush (v := 33) C dX12_show_44 (by decide) ?_
    refine r_ic_lt (tgt := 59) C dX12_show_46 (by decide) h (fun h => ?_) (fun h => ?_)
    · refine r_iconst (v := 0) C dX12_show_59 (by decide) ?_
      refine r_goto (tgt := 74) C dX12_show_60 (by decide) ?_
      refine Jr.sub [1, 2, 3, 4, 0] (lv' := [(0, .ref (ad 133)), (1, .int a1), (2, .int a2), (3, .int a3), (4, .int b0)]) rfl ?_
      exact s_X12_show_74 hn9 C M hD hG  a1 a2 a3 b0 0 T h
    · refine r_iload_n C dX12_show_49 rfl 2 rfl ?_
      refine r_bipush (v := 126) C dX12_show_50 (by decide) ?_
      refine r_ic_gt (tgt := 59) C dX12_show_52 (by decide) h (fun h => ?_) (fun h => ?_)
      · refine r_iconst (v := 0) C dX12_show_59 (by decide) ?_
        refine r_goto (tgt := 74) C dX12_show_60 (by decide) ?_
        refine Jr.sub [1, 2, 3, 4, 0] (lv' := [(0, .ref (ad 133)), (1, .int a1), (2, .int a2), (3, .int a3), (4, .int b0)]) rfl ?_
        exact s_X12_show_74 hn9 C M hD hG  a1 a2 a3 b0 0 T h
      · refine r_iconst (v := 1) C dX12_show_55 (by decide) ?_
        refine r_goto (tgt := 74) C dX12_show_56 (by decide) ?_
        refine Jr.sub [1, 2, 3, 4, 0] (lv' := [(0, .ref (ad 133)), (1, .int a1), (2, .int a2), (3, .int a3), (4, .int b0)]) rfl ?_
        exact s_X12_show_74 hn9 C M hD hG  a1 a2 a3 b0 1 T h
noncomputable def f_X12_show_16 (G : Int32 → Mm → Option (Unit × Mm)) (a1 : Int32) (a2 : Int32) (b0 : Int32) (T : Mm) : Option (Unit × Mm) :=
  if b0 = 0 then (ix (((256 : Int32) * a2) + a1) 4096 fun j1 =>
  f_X12_show_37 G a1 a2 b0 (gA T 139 j1) T)
  else (f_X12_show_37 G a1 a2 b0 (-1) T)
set_option maxRecDepth 100000 in
set_option maxHeartbeats 4000000 in
theorem s_X12_show_16 {x : JX} {ad : Nat → Nat} {U : Mm} {S0 : Hp} {q : Unit × Mm} {D : Nat} {G : Int32 → Mm → Option (Unit × Mm)}  (hn9 : x_n x = 11) (C : CB x RX12 cX12_show) (M : CMr x (D + 3) none S0 ad false U eV q) (hD : 40 ≤ D) (hG : ∀ (i : Int32) (T : Mm) (q : Unit × Mm), G i T = some q → Cr D yX12_through cX12_through 8 none [.ref (ad 133), .int i] ad false U T eV q) (a1 : Int32) (a2 : Int32) (b0 : Int32) (T : Mm) (h : f_X12_show_16 G  a1 a2 b0 T = some q) : Jr x ad false U T [(0, .ref (ad 133)), (1, .int a1), (2, .int a2)] 16 [.int b0] := by
  unfold f_X12_show_16 at h
  refine r_istore_n (lv' := [(3, .int b0), (0, .ref (ad 133)), (1, .int a1), (2, .int a2)]) C dX12_show_16 rfl (by rw [hn9]; decide) rfl ?_
  refine r_iload_n C dX12_show_17 rfl 0 rfl ?_
  refine r_if_eq (tgt := 25) C dX12_show_18 (by decide) h (fun h => ?_) (fun h => ?_)
  · refine r_aload_n C dX12_show_25 rfl 1 rfl ?_
    refine r_getp (f := 1205) (j := 139) C flX12_26 dX12_show_26 kq_133 (by decide) rfl (fun W => pt_1205 kq_133 W) ?_
    refine r_sipush (v := 256) C dX12_show_29 (by decide) ?_
    refine r_iload_n C dX12_show_32 rfl 3 rfl ?_
    refine r_imul C dX12_show_33 rfl ?_
    show Jr _ _ _ _ _ _ 34 _
    refine r_iload_n C dX12_show_34 rfl 2 rfl ?_
    refine r_iadd C dX12_show_35 rfl ?_
    refine r_iald (n := 4096) C dX12_show_36 kq_139 lq_139 h (fun j1 hj2 h => ?_)
    refine Jr.sub [1, 2, 3, 0] (lv' := [(0, .ref (ad 133)), (1, .int a1), (2, .int a2), (3, .int b0)]) rfl ?_
    exact s_X12_show_37 hn9 C M hD hG  a1 a2 b0 (gA T 139 j1) T h
  · refine r_iconst (v := (-1)) C dX12_show_21 (by decide) ?_
    refine r_goto (tgt := 37) C dX12_show_22 (by decide) ?_
    refine Jr.sub [1, 2, 3, 0] (lv' := [(0, .ref (ad 133)), (1, .int a1), (2, .int a2), (3, .int b0)]) rfl ?_
    exact s_X12_show_37 hn9 C M hD hG  a1 a2 b0 (-1) T h
noncomputable def f_X12_show (G : Int32 → Mm → Option (Unit × Mm)) (p1 : Int32) (T : Mm) : Option (Unit × Mm) :=
  bd (f_X12_fontInUse T) fun v1 T2 =>
  if v1 = 16 then (f_X12_show_16 G p1 v1 1 T2)
  else (f_X12_show_16 G p1 v1 0 T2)
set_option maxRecDepth 100000 in
set_option maxHeartbeats 4000000 in
theorem s_X12_show {ad : Nat → Nat} {U T : Mm} {q : Unit × Mm} {D : Nat} {G : Int32 → Mm → Option (Unit × Mm)}  (hD : 40 ≤ D) (hG : ∀ (i : Int32) (T : Mm) (q : Unit × Mm), G i T = some q → Cr D yX12_through cX12_through 8 none [.ref (ad 133), .int i] ad false U T eV q) (p1 : Int32) (h : f_X12_show G p1 T = some q) : Cr (D + 3) yX12_show cX12_show 11 none [.ref (ad 133), .int p1] ad false U T eV q := by
  refine cr_of (by decide) (Nat.le_of_ble_eq_true rfl) fun x S0 hn9 C M => ?_
  have C : CB x RX12 cX12_show := C
  refine Jr.eq (lv' := [(0, .ref (ad 133)), (1, .int p1)]) (st' := []) rfl rfl ?_
  unfold f_X12_show at h
  refine r_aload_n C dX12_show_0 rfl 0 rfl ?_
  refine r_callVI C M h [] [] mlX12_310 mcX12_fontInUse (fun q9 e9 => s_X12_fontInUse   e9) kq_133 rfl (by omega) (by decide) rfl rfl (Nat.le_of_ble_eq_true rfl) dX12_show_1 (fun v1 T2 h => ?_)
  refine r_istore_n (lv' := [(2, .int v1), (0, .ref (ad 133)), (1, .int p1)]) C dX12_show_4 rfl (by rw [hn9]; decide) rfl ?_
  refine r_iload_n C dX12_show_5 rfl 0 rfl ?_
  refine r_bipush (v := 16) C dX12_show_6 (by decide) ?_
  show Jr _ _ _ _ _ _ 8 _
  refine r_ic_ne (tgt := 15) C dX12_show_8 (by decide) h (fun h => ?_) (fun h => ?_)
  · refine r_iconst (v := 0) C dX12_show_15 (by decide) ?_
    refine Jr.sub [1, 2, 0] (lv' := [(0, .ref (ad 133)), (1, .int p1), (2, .int v1)]) rfl ?_
    exact s_X12_show_16 hn9 C M hD hG  p1 v1 0 T2 h
  · refine r_iconst (v := 1) C dX12_show_11 (by decide) ?_
    refine r_goto (tgt := 16) C dX12_show_12 (by decide) ?_
    refine Jr.sub [1, 2, 0] (lv' := [(0, .ref (ad 133)), (1, .int p1), (2, .int v1)]) rfl ?_
    exact s_X12_show_16 hn9 C M hD hG  p1 v1 1 T2 h
theorem dX12_shown_0 : decode cX12_shown 0 = .ok (.iload_n 1, 1) := by decide +kernel
theorem dX12_shown_1 : decode cX12_shown 1 = .ok (.bipush 13, 2) := by decide +kernel
theorem dX12_shown_3 : decode cX12_shown 3 = .ok (.if_icmp .ne 25, 3) := by decide +kernel
theorem dX12_shown_6 : decode cX12_shown 6 = .ok (.aload_n 0, 1) := by decide +kernel
theorem dX12_shown_7 : decode cX12_shown 7 = .ok (.aload_n 0, 1) := by decide +kernel
theorem dX12_shown_8 : decode cX12_shown 8 = .ok (.getfield 9, 3) := by decide +kernel
theorem dX12_shown_11 : decode cX12_shown 11 = .ok (.iconst 2, 1) := by decide +kernel
theorem dX12_shown_12 : decode cX12_shown 12 = .ok (.iaload, 1) := by decide +kernel
theorem dX12_shown_13 : decode cX12_shown 13 = .ok (.i2l, 1) := by decide +kernel
theorem dX12_shown_14 : decode cX12_shown 14 = .ok (.invokevirtual 210, 3) := by decide +kernel
theorem dX12_shown_17 : decode cX12_shown 17 = .ok (.aload_n 0, 1) := by decide +kernel
theorem dX12_shown_18 : decode cX12_shown 18 = .ok (.aload_n 0, 1) := by decide +kernel
theorem dX12_shown_19 : decode cX12_shown 19 = .ok (.getfield 9, 3) := by decide +kernel
theorem dX12_shown_22 : decode cX12_shown 22 = .ok (.bipush 6, 2) := by decide +kernel
theorem dX12_shown_24 : decode cX12_shown 24 = .ok (.iaload, 1) := by decide +kernel
theorem dX12_shown_25 : decode cX12_shown 25 = .ok (.invokevirtual 304, 3) := by decide +kernel
theorem dX12_shown_28 : decode cX12_shown 28 = .ok (.aload_n 0, 1) := by decide +kernel
theorem dX12_shown_29 : decode cX12_shown 29 = .ok (.getfield 191, 3) := by decide +kernel
theorem dX12_shown_32 : decode cX12_shown 32 = .ok (.ifCond .ne 8, 3) := by decide +kernel
theorem dX12_shown_35 : decode cX12_shown 35 = .ok (.aload_n 0, 1) := by decide +kernel
theorem dX12_shown_36 : decode cX12_shown 36 = .ok (.iload_n 1, 1) := by decide +kernel
theorem dX12_shown_37 : decode cX12_shown 37 = .ok (.invokevirtual 298, 3) := by decide +kernel
theorem dX12_shown_40 : decode cX12_shown 40 = .ok (.return_, 1) := by decide +kernel
noncomputable def f_X12_shown_28 (G : Int32 → Mm → Option (Unit × Mm)) (a1 : Int32) (T : Mm) : Option (Unit × Mm) :=
  if (gI T 1233 133) = 0 then (bd (f_X12_show G a1 T) fun _ T1 =>
  some ((), T1))
  else (some ((), T))
set_option maxRecDepth 100000 in
set_option maxHeartbeats 4000000 in
theorem s_X12_shown_28 {x : JX} {ad : Nat → Nat} {U : Mm} {S0 : Hp} {q : Unit × Mm} {D : Nat} {G : Int32 → Mm → Option (Unit × Mm)}  (hn9 : x_n x = 2) (C : CB x RX12 cX12_shown) (M : CMr x (D + 4) none S0 ad false U eV q) (hD : 40 ≤ D) (hG : ∀ (i : Int32) (T : Mm) (q : Unit × Mm), G i T = some q → Cr D yX12_through cX12_through 8 none [.ref (ad 133), .int i] ad false U T eV q) (a1 : Int32) (T : Mm) (h : f_X12_shown_28 G  a1 T = some q) : Jr x ad false U T [(0, .ref (ad 133)), (1, .int a1)] 28 [] := by
  unfold f_X12_shown_28 at h
  refine r_aload_n C dX12_shown_28 rfl 0 rfl ?_
  refine r_geti (f := 1233) C flX12_191 dX12_shown_29 kq_133 (by decide) (by decide) rfl ?_
  refine r_if_ne (tgt := 40) C dX12_shown_32 (by decide) h (fun h => ?_) (fun h => ?_)
  · exact r_vret C M dX12_shown_40 h
  · refine r_aload_n C dX12_shown_35 rfl 0 rfl ?_
    refine r_iload_n C dX12_shown_36 rfl 1 rfl ?_
    refine r_callVN C M h [.int a1] [] mlX12_298 mcX12_show (fun q9 e9 => s_X12_show hD (fun i9 T9 q9 e9 => hG i9 T9 q9 e9) a1  e9) kq_133 rfl (by omega) (by decide) rfl rfl (Nat.le_of_ble_eq_true rfl) dX12_shown_37 (fun _ T1 h => ?_)
    exact r_vret C M dX12_shown_40 h
noncomputable def f_X12_shown (G : Int32 → Mm → Option (Unit × Mm)) (p1 : Int32) (T : Mm) : Option (Unit × Mm) :=
  if p1 = 13 then (bd (f_X12_setX (((gA T 134 2)).toInt64) T) fun _ T1 =>
  bd (f_X12_line G (gA T1 134 6) T1) fun _ T2 =>
  f_X12_shown_28 G p1 T2)
  else (f_X12_shown_28 G p1 T)
set_option maxRecDepth 100000 in
set_option maxHeartbeats 4000000 in
theorem s_X12_shown {ad : Nat → Nat} {U T : Mm} {q : Unit × Mm} {D : Nat} {G : Int32 → Mm → Option (Unit × Mm)}  (hD : 40 ≤ D) (hG : ∀ (i : Int32) (T : Mm) (q : Unit × Mm), G i T = some q → Cr D yX12_through cX12_through 8 none [.ref (ad 133), .int i] ad false U T eV q) (p1 : Int32) (h : f_X12_shown G p1 T = some q) : Cr (D + 4) yX12_shown cX12_shown 2 none [.ref (ad 133), .int p1] ad false U T eV q := by
  refine cr_of (by decide) (Nat.le_of_ble_eq_true rfl) fun x S0 hn9 C M => ?_
  have C : CB x RX12 cX12_shown := C
  refine Jr.eq (lv' := [(0, .ref (ad 133)), (1, .int p1)]) (st' := []) rfl rfl ?_
  unfold f_X12_shown at h
  refine r_iload_n C dX12_shown_0 rfl 1 rfl ?_
  refine r_bipush (v := 13) C dX12_shown_1 (by decide) ?_
  refine r_ic_ne (tgt := 28) C dX12_shown_3 (by decide) h (fun h => ?_) (fun h => ?_)
  · exact s_X12_shown_28 hn9 C M hD hG  p1 T h
  · refine r_aload_n C dX12_shown_6 rfl 0 rfl ?_
    refine r_aload_n C dX12_shown_7 rfl 0 rfl ?_
    refine r_getp (f := 1200) (j := 134) C flX12_9 dX12_shown_8 kq_133 (by decide) rfl (fun W => pt_1200 kq_133 W) ?_
    refine r_iconst (v := 2) C dX12_shown_11 (by decide) ?_
    refine r_ialdc (n := 192) C 2 dX12_shown_12 kq_134 lq_134 (vp_lit (by decide)) (by decide) ?_
    show Jr _ _ _ _ _ _ 13 _
    refine r_i2l C dX12_shown_13 rfl ?_
    refine r_callVN C M h [.long (((gA T 134 2)).toInt64)] [] mlX12_210 mcX12_setX (fun q9 e9 => s_X12_setX (((gA T 134 2)).toInt64)  e9) kq_133 rfl (by omega) (by decide) rfl rfl (Nat.le_of_ble_eq_true rfl) dX12_shown_14 (fun _ T1 h => ?_)
    refine r_aload_n C dX12_shown_17 rfl 0 rfl ?_
    refine r_aload_n C dX12_shown_18 rfl 0 rfl ?_
    refine r_getp (f := 1200) (j := 134) C flX12_9 dX12_shown_19 kq_133 (by decide) rfl (fun W => pt_1200 kq_133 W) ?_
    refine r_bipush (v := 6) C dX12_shown_22 (by decide) ?_
    show Jr _ _ _ _ _ _ 24 _
    refine r_ialdc (n := 192) C 6 dX12_shown_24 kq_134 lq_134 (vp_lit (by decide)) (by decide) ?_
    refine r_callVN C M h [.int (gA T1 134 6)] [] mlX12_304 mcX12_line (fun q9 e9 => s_X12_line hD (fun i9 T9 q9 e9 => hG i9 T9 q9 e9) (gA T1 134 6)  e9) kq_133 rfl (by omega) (by decide) rfl rfl (Nat.le_of_ble_eq_true rfl) dX12_shown_25 (fun _ T2 h => ?_)
    exact s_X12_shown_28 hn9 C M hD hG  p1 T2 h
theorem dX12_transparent_0 : decode cX12_transparent 0 = .ok (.aload_n 0, 1) := by decide +kernel
theorem dX12_transparent_1 : decode cX12_transparent 1 = .ok (.invokevirtual 285, 3) := by decide +kernel
theorem dX12_transparent_4 : decode cX12_transparent 4 = .ok (.ifCond .eq 83, 3) := by decide +kernel
theorem dX12_transparent_7 : decode cX12_transparent 7 = .ok (.aload_n 0, 1) := by decide +kernel
theorem dX12_transparent_8 : decode cX12_transparent 8 = .ok (.invokevirtual 358, 3) := by decide +kernel
theorem dX12_transparent_11 : decode cX12_transparent 11 = .ok (.bipush 27, 2) := by decide +kernel
theorem dX12_transparent_13 : decode cX12_transparent 13 = .ok (.if_icmp .ne 54, 3) := by decide +kernel
theorem dX12_transparent_16 : decode cX12_transparent 16 = .ok (.aload_n 0, 1) := by decide +kernel
theorem dX12_transparent_17 : decode cX12_transparent 17 = .ok (.getfield 263, 3) := by decide +kernel
theorem dX12_transparent_20 : decode cX12_transparent 20 = .ok (.iconst 1, 1) := by decide +kernel
theorem dX12_transparent_21 : decode cX12_transparent 21 = .ok (.iadd, 1) := by decide +kernel
theorem dX12_transparent_22 : decode cX12_transparent 22 = .ok (.aload_n 0, 1) := by decide +kernel
theorem dX12_transparent_23 : decode cX12_transparent 23 = .ok (.getfield 266, 3) := by decide +kernel
theorem dX12_transparent_26 : decode cX12_transparent 26 = .ok (.if_icmp .ge 41, 3) := by decide +kernel
theorem dX12_transparent_29 : decode cX12_transparent 29 = .ok (.aload_n 0, 1) := by decide +kernel
theorem dX12_transparent_30 : decode cX12_transparent 30 = .ok (.getfield 272, 3) := by decide +kernel
theorem dX12_transparent_33 : decode cX12_transparent 33 = .ok (.aload_n 0, 1) := by decide +kernel
theorem dX12_transparent_34 : decode cX12_transparent 34 = .ok (.getfield 263, 3) := by decide +kernel
theorem dX12_transparent_37 : decode cX12_transparent 37 = .ok (.iconst 1, 1) := by decide +kernel
theorem dX12_transparent_38 : decode cX12_transparent 38 = .ok (.iadd, 1) := by decide +kernel
theorem dX12_transparent_39 : decode cX12_transparent 39 = .ok (.baload, 1) := by decide +kernel
theorem dX12_transparent_40 : decode cX12_transparent 40 = .ok (.bipush 90, 2) := by decide +kernel
theorem dX12_transparent_42 : decode cX12_transparent 42 = .ok (.if_icmp .ne 25, 3) := by decide +kernel
theorem dX12_transparent_45 : decode cX12_transparent 45 = .ok (.aload_n 0, 1) := by decide +kernel
theorem dX12_transparent_46 : decode cX12_transparent 46 = .ok (.invokevirtual 289, 3) := by decide +kernel
theorem dX12_transparent_49 : decode cX12_transparent 49 = .ok (.istore_n 1, 1) := by decide +kernel
theorem dX12_transparent_50 : decode cX12_transparent 50 = .ok (.aload_n 0, 1) := by decide +kernel
theorem dX12_transparent_51 : decode cX12_transparent 51 = .ok (.getfield 191, 3) := by decide +kernel
theorem dX12_transparent_54 : decode cX12_transparent 54 = .ok (.ifCond .eq 7, 3) := by decide +kernel
theorem dX12_transparent_57 : decode cX12_transparent 57 = .ok (.iconst 0, 1) := by decide +kernel
theorem dX12_transparent_58 : decode cX12_transparent 58 = .ok (.goto 7, 3) := by decide +kernel
theorem dX12_transparent_61 : decode cX12_transparent 61 = .ok (.aload_n 0, 1) := by decide +kernel
theorem dX12_transparent_62 : decode cX12_transparent 62 = .ok (.invokevirtual 289, 3) := by decide +kernel
theorem dX12_transparent_65 : decode cX12_transparent 65 = .ok (.istore_n 2, 1) := by decide +kernel
theorem dX12_transparent_66 : decode cX12_transparent 66 = .ok (.return_, 1) := by decide +kernel
theorem dX12_transparent_67 : decode cX12_transparent 67 = .ok (.aload_n 0, 1) := by decide +kernel
theorem dX12_transparent_68 : decode cX12_transparent 68 = .ok (.invokevirtual 289, 3) := by decide +kernel
theorem dX12_transparent_71 : decode cX12_transparent 71 = .ok (.istore_n 1, 1) := by decide +kernel
theorem dX12_transparent_72 : decode cX12_transparent 72 = .ok (.aload_n 0, 1) := by decide +kernel
theorem dX12_transparent_73 : decode cX12_transparent 73 = .ok (.getfield 191, 3) := by decide +kernel
theorem dX12_transparent_76 : decode cX12_transparent 76 = .ok (.ifCond .ne 8, 3) := by decide +kernel
theorem dX12_transparent_79 : decode cX12_transparent 79 = .ok (.aload_n 0, 1) := by decide +kernel
theorem dX12_transparent_80 : decode cX12_transparent 80 = .ok (.iload_n 1, 1) := by decide +kernel
theorem dX12_transparent_81 : decode cX12_transparent 81 = .ok (.invokevirtual 393, 3) := by decide +kernel
theorem dX12_transparent_84 : decode cX12_transparent 84 = .ok (.goto (-84), 3) := by decide +kernel
theorem dX12_transparent_87 : decode cX12_transparent 87 = .ok (.return_, 1) := by decide +kernel
noncomputable def f_X12_transparent_67 (G : Int32 → Mm → Option (Unit × Mm)) (k0 : Mm → Option (Unit × Mm)) (T : Mm) : Option (Unit × Mm) :=
  bd (f_X12_next T) fun v1 T2 =>
  if (gI T2 1233 133) = 0 then (bd (f_X12_shown G v1 T2) fun _ T3 =>
  k0 T3)
  else (k0 T2)
set_option maxRecDepth 100000 in
set_option maxHeartbeats 4000000 in
theorem s_X12_transparent_67 {x : JX} {ad : Nat → Nat} {U : Mm} {S0 : Hp} {q : Unit × Mm} {D : Nat} {G : Int32 → Mm → Option (Unit × Mm)}  {k0 : Mm → Option (Unit × Mm)} (hn9 : x_n x = 3) (C : CB x RX12 cX12_transparent) (M : CMr x (D + 5) none S0 ad false U eV q) (hD : 40 ≤ D) (hG : ∀ (i : Int32) (T : Mm) (q : Unit × Mm), G i T = some q → Cr D yX12_through cX12_through 8 none [.ref (ad 133), .int i] ad false U T eV q) (hk0 : ∀ (T : Mm), k0  T = some q → Jr x ad false U T [(0, .ref (ad 133))] 0 []) (T : Mm) (h : f_X12_transparent_67 G k0  T = some q) : Jr x ad false U T [(0, .ref (ad 133))] 67 [] := by
  unfold f_X12_transparent_67 at h
  refine r_aload_n C dX12_transparent_67 rfl 0 rfl ?_
  refine r_callVI C M h [] [] mlX12_289 mcX12_next (fun q9 e9 => s_X12_next   e9) kq_133 rfl (by omega) (by decide) rfl rfl (Nat.le_of_ble_eq_true rfl) dX12_transparent_68 (fun v1 T2 h => ?_)
  refine r_istore_n (lv' := [(1, .int v1), (0, .ref (ad 133))]) C dX12_transparent_71 rfl (by rw [hn9]; decide) rfl ?_
  refine r_aload_n C dX12_transparent_72 rfl 1 rfl ?_
  refine r_geti (f := 1233) C flX12_191 dX12_transparent_73 kq_133 (by decide) (by decide) rfl ?_
  show Jr _ _ _ _ _ _ 76 _
  refine r_if_ne (tgt := 84) C dX12_transparent_76 (by decide) h (fun h => ?_) (fun h => ?_)
  · refine r_goto (tgt := 0) C dX12_transparent_84 (by decide) ?_
    refine Jr.sub [1] (lv' := [(0, .ref (ad 133))]) rfl ?_
    exact hk0 T2 h
  · refine r_aload_n C dX12_transparent_79 rfl 1 rfl ?_
    refine r_iload_n C dX12_transparent_80 rfl 0 rfl ?_
    refine r_callVN C M h [.int v1] [] mlX12_393 mcX12_shown (fun q9 e9 => s_X12_shown hD (fun i9 T9 q9 e9 => hG i9 T9 q9 e9) v1  e9) kq_133 rfl (by omega) (by decide) rfl rfl (Nat.le_of_ble_eq_true rfl) dX12_transparent_81 (fun _ T3 h => ?_)
    refine r_goto (tgt := 0) C dX12_transparent_84 (by decide) ?_
    refine Jr.sub [1] (lv' := [(0, .ref (ad 133))]) rfl ?_
    exact hk0 T3 h
noncomputable def f_X12_transparent_b0 (G : Int32 → Mm → Option (Unit × Mm)) (k0 : Mm → Option (Unit × Mm)) (T : Mm) : Option (Unit × Mm) :=
  bd (f_X12_hasMore T) fun v1 T2 =>
  if v1 = 0 then (some ((), T2))
  else (bd (f_X12_peek T2) fun v3 T4 =>
  if v3 = 27 then (if (gI T4 1228 133) ≤ ((gI T4 1227 133) + 1) then (f_X12_transparent_67 G k0 T4)
  else (rf false (gR T4 1226 133) 13 fun j5 =>
  ix ((gI T4 1227 133) + 1) (LN j5) fun j7 =>
  if (gA T4 j5 j7) = 90 then (bd (f_X12_next T4) fun v9 T10 =>
  if (gI T10 1233 133) = 0 then (bd (f_X12_next T10) fun v11 T12 =>
  some ((), T12))
  else (some ((), T10)))
  else (f_X12_transparent_67 G k0 T4)))
  else (f_X12_transparent_67 G k0 T4))
set_option maxRecDepth 100000 in
set_option maxHeartbeats 4000000 in
theorem s_X12_transparent_b0 {x : JX} {ad : Nat → Nat} {U : Mm} {S0 : Hp} {q : Unit × Mm} {D : Nat} {G : Int32 → Mm → Option (Unit × Mm)}  {k0 : Mm → Option (Unit × Mm)} (hn9 : x_n x = 3) (C : CB x RX12 cX12_transparent) (M : CMr x (D + 5) none S0 ad false U eV q) (hD : 40 ≤ D) (hG : ∀ (i : Int32) (T : Mm) (q : Unit × Mm), G i T = some q → Cr D yX12_through cX12_through 8 none [.ref (ad 133), .int i] ad false U T eV q) (hk0 : ∀ (T : Mm), k0  T = some q → Jr x ad false U T [(0, .ref (ad 133))] 0 []) (T : Mm) (h : f_X12_transparent_b0 G k0  T = some q) : Jr x ad false U T [(0, .ref (ad 133))] 0 [] := by
  unfold f_X12_transparent_b0 at h
  refine r_aload_n C dX12_transparent_0 rfl 0 rfl ?_
  refine r_callVI C M h [] [] mlX12_285 mcX12_hasMore (fun q9 e9 => s_X12_hasMore   e9) kq_133 rfl (by omega) (by decide) rfl rfl (Nat.le_of_ble_eq_true rfl) dX12_transparent_1 (fun v1 T2 h => ?_)
  refine r_if_eq (tgt := 87) C dX12_transparent_4 (by decide) h (fun h => ?_) (fun h => ?_)
  · exact r_vret C M dX12_transparent_87 h
  · refine r_aload_n C dX12_transparent_7 rfl 0 rfl ?_
    refine r_callVI C M h [] [] mlX12_358 mcX12_peek (fun q9 e9 => s_X12_peek   e9) kq_133 rfl (by omega) (by decide) rfl rfl (Nat.le_of_ble_eq_true rfl) dX12_transparent_8 (fun v3 T4 h => ?_)
    refine r_bipush (v := 27) C dX12_transparent_11 (by decide) ?_
    refine r_ic_ne (tgt := 67) C dX12_transparent_13 (by decide) h (fun h => ?_) (fun h => ?_)
    · exact s_X12_transparent_67 hn9 C M hD hG hk0 T4 h
    · refine r_aload_n C dX12_transparent_16 rfl 0 rfl ?_
      refine r_geti (f := 1227) C flX12_263 dX12_transparent_17 kq_133 (by decide) (by decide) rfl ?_
      refine r_iconst (v := 1) C dX12_transparent_20 (by decide) ?_
      refine r_iadd C dX12_transparent_21 rfl ?_
      refine r_aload_n C dX12_transparent_22 rfl 0 rfl ?_
      show Jr _ _ _ _ _ _ 23 _
      refine r_geti (f := 1228) C flX12_266 dX12_transparent_23 kq_133 (by decide) (by decide) rfl ?_
      refine r_ic_ge (tgt := 67) C dX12_transparent_26 (by decide) h (fun h => ?_) (fun h => ?_)
      · exact s_X12_transparent_67 hn9 C M hD hG hk0 T4 h
      · refine r_aload_n C dX12_transparent_29 rfl 0 rfl ?_
        refine r_getr (f := 1226) (c := 13) C flX12_272 dX12_transparent_30 kq_133 (by decide) rfl h (fun j5 hj6 h => ?_)
        refine r_aload_n C dX12_transparent_33 rfl 0 rfl ?_
        refine r_geti (f := 1227) C flX12_263 dX12_transparent_34 kq_133 (by decide) (by decide) rfl ?_
        refine r_iconst (v := 1) C dX12_transparent_37 (by decide) ?_
        show Jr _ _ _ _ _ _ 38 _
        refine r_iadd C dX12_transparent_38 rfl ?_
        refine r_bald (n := (LN j5)) C dX12_transparent_39 hj6 rfl h (fun j7 hj8 h => ?_)
        refine r_bipush (v := 90) C dX12_transparent_40 (by decide) ?_
        refine r_ic_ne (tgt := 67) C dX12_transparent_42 (by decide) h (fun h => ?_) (fun h => ?_)
        · exact s_X12_transparent_67 hn9 C M hD hG hk0 T4 h
        · refine r_aload_n C dX12_transparent_45 rfl 0 rfl ?_
          refine r_callVI C M h [] [] mlX12_289 mcX12_next (fun q9 e9 => s_X12_next   e9) kq_133 rfl (by omega) (by decide) rfl rfl (Nat.le_of_ble_eq_true rfl) dX12_transparent_46 (fun v9 T10 h => ?_)
          refine r_istore_n (lv' := [(1, .int v9), (0, .ref (ad 133))]) C dX12_transparent_49 rfl (by rw [hn9]; decide) rfl ?_
          refine r_aload_n C dX12_transparent_50 rfl 1 rfl ?_
          refine r_geti (f := 1233) C flX12_191 dX12_transparent_51 kq_133 (by decide) (by decide) rfl ?_
          show Jr _ _ _ _ _ _ 54 _
          refine r_if_eq (tgt := 61) C dX12_transparent_54 (by decide) h (fun h => ?_) (fun h => ?_)
          · refine r_aload_n C dX12_transparent_61 rfl 1 rfl ?_
            refine r_callVI C M h [] [] mlX12_289 mcX12_next (fun q9 e9 => s_X12_next   e9) kq_133 rfl (by omega) (by decide) rfl rfl (Nat.le_of_ble_eq_true rfl) dX12_transparent_62 (fun v11 T12 h => ?_)
            refine r_istore_n (lv' := [(2, .int v11), (1, .int v9), (0, .ref (ad 133))]) C dX12_transparent_65 rfl (by rw [hn9]; decide) rfl ?_
            exact r_vret C M dX12_transparent_66 h
          · refine r_iconst (v := 0) C dX12_transparent_57 (by decide) ?_
            refine r_goto (tgt := 65) C dX12_transparent_58 (by decide) ?_
            refine r_istore_n (lv' := [(2, .int 0), (1, .int v9), (0, .ref (ad 133))]) C dX12_transparent_65 rfl (by rw [hn9]; decide) rfl ?_
            exact r_vret C M dX12_transparent_66 h
noncomputable def f_X12_transparent_l0 (G : Int32 → Mm → Option (Unit × Mm)) (n : Nat) : Mm → Option (Unit × Mm) := Nat.rec (fun  _ => none) (fun _ ih => f_X12_transparent_b0 G ih) n
theorem s_X12_transparent_l0 {x : JX} {ad : Nat → Nat} {U : Mm} {S0 : Hp} {q : Unit × Mm} {D : Nat} {G : Int32 → Mm → Option (Unit × Mm)}  (hn9 : x_n x = 3) (C : CB x RX12 cX12_transparent) (M : CMr x (D + 5) none S0 ad false U eV q) (hD : 40 ≤ D) (hG : ∀ (i : Int32) (T : Mm) (q : Unit × Mm), G i T = some q → Cr D yX12_through cX12_through 8 none [.ref (ad 133), .int i] ad false U T eV q) : ∀ (n : Nat), ∀ (T : Mm), f_X12_transparent_l0 G  n  T = some q → Jr x ad false U T [(0, .ref (ad 133))] 0 [] := by
  intro n
  induction n with
  | zero => intro  T  h; exact absurd h (by intro h; cases h)
  | succ n ih => exact fun  T  h => s_X12_transparent_b0 hn9 C M hD hG (ih)  T  h
noncomputable def f_X12_transparent (G : Int32 → Mm → Option (Unit × Mm)) (T : Mm) : Option (Unit × Mm) :=
  f_X12_transparent_l0 G FU T
set_option maxRecDepth 100000 in
set_option maxHeartbeats 4000000 in
theorem s_X12_transparent {ad : Nat → Nat} {U T : Mm} {q : Unit × Mm} {D : Nat} {G : Int32 → Mm → Option (Unit × Mm)}  (hD : 40 ≤ D) (hG : ∀ (i : Int32) (T : Mm) (q : Unit × Mm), G i T = some q → Cr D yX12_through cX12_through 8 none [.ref (ad 133), .int i] ad false U T eV q) (h : f_X12_transparent G  T = some q) : Cr (D + 5) yX12_transparent cX12_transparent 3 none [.ref (ad 133)] ad false U T eV q := by
  refine cr_of (by decide) (Nat.le_of_ble_eq_true rfl) fun x S0 hn9 C M => ?_
  have C : CB x RX12 cX12_transparent := C
  refine Jr.eq (lv' := [(0, .ref (ad 133))]) (st' := []) rfl rfl ?_
  unfold f_X12_transparent at h
  exact s_X12_transparent_l0 hn9 C M hD hG  FU T h
theorem dX12_pair_0 : decode cX12_pair 0 = .ok (.iload_n 1, 1) := by decide +kernel
theorem dX12_pair_1 : decode cX12_pair 1 = .ok (.bipush 69, 2) := by decide +kernel
theorem dX12_pair_3 : decode cX12_pair 3 = .ok (.if_icmp .ne 34, 3) := by decide +kernel
theorem dX12_pair_6 : decode cX12_pair 6 = .ok (.aload_n 0, 1) := by decide +kernel
theorem dX12_pair_7 : decode cX12_pair 7 = .ok (.getfield 279, 3) := by decide +kernel
theorem dX12_pair_10 : decode cX12_pair 10 = .ok (.ifCond .ne 88, 3) := by decide +kernel
theorem dX12_pair_13 : decode cX12_pair 13 = .ok (.aload_n 0, 1) := by decide +kernel
theorem dX12_pair_14 : decode cX12_pair 14 = .ok (.invokevirtual 307, 3) := by decide +kernel
theorem dX12_pair_17 : decode cX12_pair 17 = .ok (.aload_n 0, 1) := by decide +kernel
theorem dX12_pair_18 : decode cX12_pair 18 = .ok (.getfield 191, 3) := by decide +kernel
theorem dX12_pair_21 : decode cX12_pair 21 = .ok (.ifCond .ne 77, 3) := by decide +kernel
theorem dX12_pair_24 : decode cX12_pair 24 = .ok (.aload_n 0, 1) := by decide +kernel
theorem dX12_pair_25 : decode cX12_pair 25 = .ok (.iconst 1, 1) := by decide +kernel
theorem dX12_pair_26 : decode cX12_pair 26 = .ok (.iconst 0, 1) := by decide +kernel
theorem dX12_pair_27 : decode cX12_pair 27 = .ok (.invokevirtual 228, 3) := by decide +kernel
theorem dX12_pair_30 : decode cX12_pair 30 = .ok (.aload_n 0, 1) := by decide +kernel
theorem dX12_pair_31 : decode cX12_pair 31 = .ok (.invokevirtual 387, 3) := by decide +kernel
theorem dX12_pair_34 : decode cX12_pair 34 = .ok (.goto 64, 3) := by decide +kernel
theorem dX12_pair_37 : decode cX12_pair 37 = .ok (.iload_n 1, 1) := by decide +kernel
theorem dX12_pair_38 : decode cX12_pair 38 = .ok (.bipush 57, 2) := by decide +kernel
theorem dX12_pair_40 : decode cX12_pair 40 = .ok (.if_icmp .ne 26, 3) := by decide +kernel
theorem dX12_pair_43 : decode cX12_pair 43 = .ok (.aload_n 0, 1) := by decide +kernel
theorem dX12_pair_44 : decode cX12_pair 44 = .ok (.getfield 9, 3) := by decide +kernel
theorem dX12_pair_47 : decode cX12_pair 47 = .ok (.iconst 2, 1) := by decide +kernel
theorem dX12_pair_48 : decode cX12_pair 48 = .ok (.iconst 0, 1) := by decide +kernel
theorem dX12_pair_49 : decode cX12_pair 49 = .ok (.iastore, 1) := by decide +kernel
theorem dX12_pair_50 : decode cX12_pair 50 = .ok (.aload_n 0, 1) := by decide +kernel
theorem dX12_pair_51 : decode cX12_pair 51 = .ok (.getfield 9, 3) := by decide +kernel
theorem dX12_pair_54 : decode cX12_pair 54 = .ok (.iconst 3, 1) := by decide +kernel
theorem dX12_pair_55 : decode cX12_pair 55 = .ok (.bipush 96, 2) := by decide +kernel
theorem dX12_pair_57 : decode cX12_pair 57 = .ok (.aload_n 0, 1) := by decide +kernel
theorem dX12_pair_58 : decode cX12_pair 58 = .ok (.invokevirtual 172, 3) := by decide +kernel
theorem dX12_pair_61 : decode cX12_pair 61 = .ok (.imul, 1) := by decide +kernel
theorem dX12_pair_62 : decode cX12_pair 62 = .ok (.iastore, 1) := by decide +kernel
theorem dX12_pair_63 : decode cX12_pair 63 = .ok (.goto 35, 3) := by decide +kernel
theorem dX12_pair_66 : decode cX12_pair 66 = .ok (.iload_n 1, 1) := by decide +kernel
theorem dX12_pair_67 : decode cX12_pair 67 = .ok (.bipush 61, 2) := by decide +kernel
theorem dX12_pair_69 : decode cX12_pair 69 = .ok (.if_icmp .ne 19, 3) := by decide +kernel
theorem dX12_pair_72 : decode cX12_pair 72 = .ok (.aload_n 0, 1) := by decide +kernel
theorem dX12_pair_73 : decode cX12_pair 73 = .ok (.aload_n 0, 1) := by decide +kernel
theorem dX12_pair_74 : decode cX12_pair 74 = .ok (.getfield 9, 3) := by decide +kernel
theorem dX12_pair_77 : decode cX12_pair 77 = .ok (.bipush 6, 2) := by decide +kernel
theorem dX12_pair_79 : decode cX12_pair 79 = .ok (.iaload, 1) := by decide +kernel
theorem dX12_pair_80 : decode cX12_pair 80 = .ok (.iconst 2, 1) := by decide +kernel
theorem dX12_pair_81 : decode cX12_pair 81 = .ok (.idiv, 1) := by decide +kernel
theorem dX12_pair_82 : decode cX12_pair 82 = .ok (.invokevirtual 304, 3) := by decide +kernel
theorem dX12_pair_85 : decode cX12_pair 85 = .ok (.goto 13, 3) := by decide +kernel
theorem dX12_pair_88 : decode cX12_pair 88 = .ok (.iload_n 1, 1) := by decide +kernel
theorem dX12_pair_89 : decode cX12_pair 89 = .ok (.bipush 89, 2) := by decide +kernel
theorem dX12_pair_91 : decode cX12_pair 91 = .ok (.if_icmp .ne 7, 3) := by decide +kernel
theorem dX12_pair_94 : decode cX12_pair 94 = .ok (.aload_n 0, 1) := by decide +kernel
theorem dX12_pair_95 : decode cX12_pair 95 = .ok (.invokevirtual 390, 3) := by decide +kernel
theorem dX12_pair_98 : decode cX12_pair 98 = .ok (.return_, 1) := by decide +kernel
noncomputable def f_X12_pair (G : Int32 → Mm → Option (Unit × Mm)) (p1 : Int32) (T : Mm) : Option (Unit × Mm) :=
  if p1 = 69 then (if (gI T 1230 133) = 0 then (bd (f_X12_eject G T) fun _ T7 =>
  if (gI T7 1233 133) = 0 then (bd (f_X12_reset 1 0 T7) fun _ T8 =>
  bd (f_X12_temporaryGo T8) fun _ T9 =>
  some ((), T9))
  else (some ((), T7)))
  else (some ((), T)))
  else (if p1 = 57 then (lb (uA T 134 2 (0)) fun T3 =>
  bd (f_X12_wide T3) fun v4 T5 =>
  lb (uA T5 134 3 (((96 : Int32) * v4))) fun T6 =>
  some ((), T6))
  else (if p1 = 61 then (bd (f_X12_line G ((gA T 134 6) / 2) T) fun _ T2 =>
  some ((), T2))
  else (if p1 = 89 then (bd (f_X12_transparent G T) fun _ T1 =>
  some ((), T1))
  else (some ((), T)))))
set_option maxRecDepth 100000 in
set_option maxHeartbeats 4000000 in
theorem s_X12_pair {ad : Nat → Nat} {U T : Mm} {q : Unit × Mm} {D : Nat} {G : Int32 → Mm → Option (Unit × Mm)}  (hD : 40 ≤ D) (hG : ∀ (i : Int32) (T : Mm) (q : Unit × Mm), G i T = some q → Cr D yX12_through cX12_through 8 none [.ref (ad 133), .int i] ad false U T eV q) (p1 : Int32) (h : f_X12_pair G p1 T = some q) : Cr (D + 6) yX12_pair cX12_pair 2 none [.ref (ad 133), .int p1] ad false U T eV q := by
  refine cr_of (by decide) (Nat.le_of_ble_eq_true rfl) fun x S0 hn9 C M => ?_
  have C : CB x RX12 cX12_pair := C
  refine Jr.eq (lv' := [(0, .ref (ad 133)), (1, .int p1)]) (st' := []) rfl rfl ?_
  unfold f_X12_pair at h
  refine r_iload_n C dX12_pair_0 rfl 1 rfl ?_
  refine r_bipush (v := 69) C dX12_pair_1 (by decide) ?_
  refine r_ic_ne (tgt := 37) C dX12_pair_3 (by decide) h (fun h => ?_) (fun h => ?_)
  · refine r_iload_n C dX12_pair_37 rfl 1 rfl ?_
    refine r_bipush (v := 57) C dX12_pair_38 (by decide) ?_
    refine r_ic_ne (tgt := 66) C dX12_pair_40 (by decide) h (fun h => ?_) (fun h => ?_)
    · refine r_iload_n C dX12_pair_66 rfl 1 rfl ?_
      refine r_bipush (v := 61) C dX12_pair_67 (by decide) ?_
      refine r_ic_ne (tgt := 88) C dX12_pair_69 (by decide) h (fun h => ?_) (fun h => ?_)
      · refine r_iload_n C dX12_pair_88 rfl 1 rfl ?_
        refine r_bipush (v := 89) C dX12_pair_89 (by decide) ?_
        refine r_ic_ne (tgt := 98) C dX12_pair_91 (by decide) h (fun h => ?_) (fun h => ?_)
        · exact r_vret C M dX12_pair_98 h
        · refine r_aload_n C dX12_pair_94 rfl 0 rfl ?_
          refine r_callVN C M h [] [] mlX12_390 mcX12_transparent (fun q9 e9 => s_X12_transparent hD (fun i9 T9 q9 e9 => hG i9 T9 q9 e9)   e9) kq_133 rfl (by omega) (by decide) rfl rfl (Nat.le_of_ble_eq_true rfl) dX12_pair_95 (fun _ T1 h => ?_)
          exact r_vret C M dX12_pair_98 h
      · refine r_aload_n C dX12_pair_72 rfl 0 rfl ?_
        refine r_aload_n C dX12_pair_73 rfl 0 rfl ?_
        refine r_getp (f := 1200) (j := 134) C flX12_9 dX12_pair_74 kq_133 (by decide) rfl (fun W => pt_1200 kq_133 W) ?_
        refine r_bipush (v := 6) C dX12_pair_77 (by decide) ?_
        refine r_ialdc (n := 192) C 6 dX12_pair_79 kq_134 lq_134 (vp_lit (by decide)) (by decide) ?_
        show Jr _ _ _ _ _ _ 80 _
        refine r_iconst (v := 2) C dX12_pair_80 (by decide) ?_
        refine r_idiv C dX12_pair_81 (by decide) rfl ?_
        refine r_callVN C M h [.int ((gA T 134 6) / 2)] [] mlX12_304 mcX12_line (fun q9 e9 => s_X12_line hD (fun i9 T9 q9 e9 => hG i9 T9 q9 e9) ((gA T 134 6) / 2)  e9) kq_133 rfl (by omega) (by decide) rfl rfl (Nat.le_of_ble_eq_true rfl) dX12_pair_82 (fun _ T2 h => ?_)
        refine r_goto (tgt := 98) C dX12_pair_85 (by decide) ?_
        exact r_vret C M dX12_pair_98 h
    · refine r_aload_n C dX12_pair_43 rfl 0 rfl ?_
      refine r_getp (f := 1200) (j := 134) C flX12_9 dX12_pair_44 kq_133 (by decide) rfl (fun W => pt_1200 kq_133 W) ?_
      refine r_iconst (v := 2) C dX12_pair_47 (by decide) ?_
      refine r_iconst (v := 0) C dX12_pair_48 (by decide) ?_
      refine r_iastc (n := 192) C 2 dX12_pair_49 kq_134 lq_134 (vp_lit (by decide)) (by decide) h (fun T3 h => ?_)
      show Jr _ _ _ _ _ _ 50 _
      refine r_aload_n C dX12_pair_50 rfl 0 rfl ?_
      refine r_getp (f := 1200) (j := 134) C flX12_9 dX12_pair_51 kq_133 (by decide) rfl (fun W => pt_1200 kq_133 W) ?_
      refine r_iconst (v := 3) C dX12_pair_54 (by decide) ?_
      refine r_bipush (v := 96) C dX12_pair_55 (by decide) ?_
      refine r_aload_n C dX12_pair_57 rfl 0 rfl ?_
      refine r_callVI C M h [] [.int 96, .int 3, .ref (ad 134)] mlX12_172 mcX12_wide (fun q9 e9 => s_X12_wide   e9) kq_133 rfl (by omega) (by decide) rfl rfl (Nat.le_of_ble_eq_true rfl) dX12_pair_58 (fun v4 T5 h => ?_)
      show Jr _ _ _ _ _ _ 61 _
      refine r_imul C dX12_pair_61 rfl ?_
      refine r_iastc (n := 192) C 3 dX12_pair_62 kq_134 lq_134 (vp_lit (by decide)) (by decide) h (fun T6 h => ?_)
      refine r_goto (tgt := 98) C dX12_pair_63 (by decide) ?_
      exact r_vret C M dX12_pair_98 h
  · refine r_aload_n C dX12_pair_6 rfl 0 rfl ?_
    refine r_geti (f := 1230) C flX12_279 dX12_pair_7 kq_133 (by decide) (by decide) rfl ?_
    refine r_if_ne (tgt := 98) C dX12_pair_10 (by decide) h (fun h => ?_) (fun h => ?_)
    · exact r_vret C M dX12_pair_98 h
    · refine r_aload_n C dX12_pair_13 rfl 0 rfl ?_
      refine r_callVN C M h [] [] mlX12_307 mcX12_eject (fun q9 e9 => s_X12_eject hD (fun i9 T9 q9 e9 => hG i9 T9 q9 e9)   e9) kq_133 rfl (by omega) (by decide) rfl rfl (Nat.le_of_ble_eq_true rfl) dX12_pair_14 (fun _ T7 h => ?_)
      refine r_aload_n C dX12_pair_17 rfl 0 rfl ?_
      refine r_geti (f := 1233) C flX12_191 dX12_pair_18 kq_133 (by decide) (by decide) rfl ?_
      refine r_if_ne (tgt := 98) C dX12_pair_21 (by decide) h (fun h => ?_) (fun h => ?_)
      · exact r_vret C M dX12_pair_98 h
      · refine r_aload_n C dX12_pair_24 rfl 0 rfl ?_
        refine r_iconst (v := 1) C dX12_pair_25 (by decide) ?_
        refine r_iconst (v := 0) C dX12_pair_26 (by decide) ?_
        refine r_callVN C M h [.int 1, .int 0] [] mlX12_228 mcX12_reset (fun q9 e9 => s_X12_reset 1 0  e9) kq_133 rfl (by omega) (by decide) rfl rfl (Nat.le_of_ble_eq_true rfl) dX12_pair_27 (fun _ T8 h => ?_)
        refine r_aload_n C dX12_pair_30 rfl 0 rfl ?_
        show Jr _ _ _ _ _ _ 31 _
        refine r_callVN C M h [] [] mlX12_387 mcX12_temporaryGo (fun q9 e9 => s_X12_temporaryGo   e9) kq_133 rfl (by omega) (by decide) rfl rfl (Nat.le_of_ble_eq_true rfl) dX12_pair_31 (fun _ T9 h => ?_)
        refine r_goto (tgt := 98) C dX12_pair_34 (by decide) ?_
        exact r_vret C M dX12_pair_98 h
theorem dX12_readValue_0 : decode cX12_readValue 0 = .ok (.aload_n 0, 1) := by decide +kernel
theorem dX12_readValue_1 : decode cX12_readValue 1 = .ok (.iconst 0, 1) := by decide +kernel
theorem dX12_readValue_2 : decode cX12_readValue 2 = .ok (.putfield 376, 3) := by decide +kernel
theorem dX12_readValue_5 : decode cX12_readValue 5 = .ok (.iconst 0, 1) := by decide +kernel
theorem dX12_readValue_6 : decode cX12_readValue 6 = .ok (.istore_n 1, 1) := by decide +kernel
theorem dX12_readValue_7 : decode cX12_readValue 7 = .ok (.aload_n 0, 1) := by decide +kernel
theorem dX12_readValue_8 : decode cX12_readValue 8 = .ok (.invokevirtual 358, 3) := by decide +kernel
theorem dX12_readValue_11 : decode cX12_readValue 11 = .ok (.istore_n 2, 1) := by decide +kernel
theorem dX12_readValue_12 : decode cX12_readValue 12 = .ok (.iload_n 2, 1) := by decide +kernel
theorem dX12_readValue_13 : decode cX12_readValue 13 = .ok (.bipush 43, 2) := by decide +kernel
theorem dX12_readValue_15 : decode cX12_readValue 15 = .ok (.if_icmp .eq 9, 3) := by decide +kernel
theorem dX12_readValue_18 : decode cX12_readValue 18 = .ok (.iload_n 2, 1) := by decide +kernel
theorem dX12_readValue_19 : decode cX12_readValue 19 = .ok (.bipush 45, 2) := by decide +kernel
theorem dX12_readValue_21 : decode cX12_readValue 21 = .ok (.if_icmp .ne 25, 3) := by decide +kernel
theorem dX12_readValue_24 : decode cX12_readValue 24 = .ok (.aload_n 0, 1) := by decide +kernel
theorem dX12_readValue_25 : decode cX12_readValue 25 = .ok (.iconst 1, 1) := by decide +kernel
theorem dX12_readValue_26 : decode cX12_readValue 26 = .ok (.putfield 376, 3) := by decide +kernel
theorem dX12_readValue_29 : decode cX12_readValue 29 = .ok (.iload_n 2, 1) := by decide +kernel
theorem dX12_readValue_30 : decode cX12_readValue 30 = .ok (.bipush 45, 2) := by decide +kernel
theorem dX12_readValue_32 : decode cX12_readValue 32 = .ok (.if_icmp .ne 7, 3) := by decide +kernel
theorem dX12_readValue_35 : decode cX12_readValue 35 = .ok (.iconst 1, 1) := by decide +kernel
theorem dX12_readValue_36 : decode cX12_readValue 36 = .ok (.goto 4, 3) := by decide +kernel
theorem dX12_readValue_39 : decode cX12_readValue 39 = .ok (.iconst 0, 1) := by decide +kernel
theorem dX12_readValue_40 : decode cX12_readValue 40 = .ok (.istore_n 1, 1) := by decide +kernel
theorem dX12_readValue_41 : decode cX12_readValue 41 = .ok (.aload_n 0, 1) := by decide +kernel
theorem dX12_readValue_42 : decode cX12_readValue 42 = .ok (.invokevirtual 289, 3) := by decide +kernel
theorem dX12_readValue_45 : decode cX12_readValue 45 = .ok (.istore_n 2, 1) := by decide +kernel
theorem dX12_readValue_46 : decode cX12_readValue 46 = .ok (.iconst 0, 1) := by decide +kernel
theorem dX12_readValue_47 : decode cX12_readValue 47 = .ok (.istore_n 3, 1) := by decide +kernel
theorem dX12_readValue_48 : decode cX12_readValue 48 = .ok (.iconst 0, 1) := by decide +kernel
theorem dX12_readValue_49 : decode cX12_readValue 49 = .ok (.istore 4, 2) := by decide +kernel
theorem dX12_readValue_51 : decode cX12_readValue 51 = .ok (.aload_n 0, 1) := by decide +kernel
theorem dX12_readValue_52 : decode cX12_readValue 52 = .ok (.invokevirtual 358, 3) := by decide +kernel
theorem dX12_readValue_55 : decode cX12_readValue 55 = .ok (.bipush 48, 2) := by decide +kernel
theorem dX12_readValue_57 : decode cX12_readValue 57 = .ok (.if_icmp .lt 58, 3) := by decide +kernel
theorem dX12_readValue_60 : decode cX12_readValue 60 = .ok (.aload_n 0, 1) := by decide +kernel
theorem dX12_readValue_61 : decode cX12_readValue 61 = .ok (.invokevirtual 358, 3) := by decide +kernel
theorem dX12_readValue_64 : decode cX12_readValue 64 = .ok (.bipush 57, 2) := by decide +kernel
theorem dX12_readValue_66 : decode cX12_readValue 66 = .ok (.if_icmp .gt 49, 3) := by decide +kernel
theorem dX12_readValue_69 : decode cX12_readValue 69 = .ok (.aload_n 0, 1) := by decide +kernel
theorem dX12_readValue_70 : decode cX12_readValue 70 = .ok (.getfield 191, 3) := by decide +kernel
theorem dX12_readValue_73 : decode cX12_readValue 73 = .ok (.ifCond .ne 42, 3) := by decide +kernel
theorem dX12_readValue_76 : decode cX12_readValue 76 = .ok (.aload_n 0, 1) := by decide +kernel
theorem dX12_readValue_77 : decode cX12_readValue 77 = .ok (.invokevirtual 289, 3) := by decide +kernel
theorem dX12_readValue_80 : decode cX12_readValue 80 = .ok (.bipush 48, 2) := by decide +kernel
theorem dX12_readValue_82 : decode cX12_readValue 82 = .ok (.isub, 1) := by decide +kernel
theorem dX12_readValue_83 : decode cX12_readValue 83 = .ok (.istore 5, 2) := by decide +kernel
theorem dX12_readValue_85 : decode cX12_readValue 85 = .ok (.iload_n 3, 1) := by decide +kernel
theorem dX12_readValue_86 : decode cX12_readValue 86 = .ok (.bipush 10, 2) := by decide +kernel
theorem dX12_readValue_88 : decode cX12_readValue 88 = .ok (.imul, 1) := by decide +kernel
theorem dX12_readValue_89 : decode cX12_readValue 89 = .ok (.iload 5, 2) := by decide +kernel
theorem dX12_readValue_91 : decode cX12_readValue 91 = .ok (.iadd, 1) := by decide +kernel
theorem dX12_readValue_92 : decode cX12_readValue 92 = .ok (.sipush 32767, 3) := by decide +kernel
theorem dX12_readValue_95 : decode cX12_readValue 95 = .ok (.if_icmp .le 9, 3) := by decide +kernel
theorem dX12_readValue_98 : decode cX12_readValue 98 = .ok (.sipush 32767, 3) := by decide +kernel
theorem dX12_readValue_101 : decode cX12_readValue 101 = .ok (.goto 10, 3) := by decide +kernel
theorem dX12_readValue_104 : decode cX12_readValue 104 = .ok (.iload_n 3, 1) := by decide +kernel
theorem dX12_readValue_105 : decode cX12_readValue 105 = .ok (.bipush 10, 2) := by decide +kernel
theorem dX12_readValue_107 : decode cX12_readValue 107 = .ok (.imul, 1) := by decide +kernel
theorem dX12_readValue_108 : decode cX12_readValue 108 = .ok (.iload 5, 2) := by decide +kernel
theorem dX12_readValue_110 : decode cX12_readValue 110 = .ok (.iadd, 1) := by decide +kernel
theorem dX12_readValue_111 : decode cX12_readValue 111 = .ok (.istore_n 3, 1) := by decide +kernel
theorem dX12_readValue_112 : decode cX12_readValue 112 = .ok (.goto (-61), 3) := by decide +kernel
theorem dX12_readValue_115 : decode cX12_readValue 115 = .ok (.iconst 0, 1) := by decide +kernel
theorem dX12_readValue_116 : decode cX12_readValue 116 = .ok (.istore 5, 2) := by decide +kernel
theorem dX12_readValue_118 : decode cX12_readValue 118 = .ok (.aload_n 0, 1) := by decide +kernel
theorem dX12_readValue_119 : decode cX12_readValue 119 = .ok (.invokevirtual 358, 3) := by decide +kernel
theorem dX12_readValue_122 : decode cX12_readValue 122 = .ok (.bipush 46, 2) := by decide +kernel
theorem dX12_readValue_124 : decode cX12_readValue 124 = .ok (.if_icmp .ne 71, 3) := by decide +kernel
theorem dX12_readValue_127 : decode cX12_readValue 127 = .ok (.aload_n 0, 1) := by decide +kernel
theorem dX12_readValue_128 : decode cX12_readValue 128 = .ok (.getfield 191, 3) := by decide +kernel
theorem dX12_readValue_131 : decode cX12_readValue 131 = .ok (.ifCond .ne 64, 3) := by decide +kernel
theorem dX12_readValue_134 : decode cX12_readValue 134 = .ok (.aload_n 0, 1) := by decide +kernel
theorem dX12_readValue_135 : decode cX12_readValue 135 = .ok (.invokevirtual 289, 3) := by decide +kernel
theorem dX12_readValue_138 : decode cX12_readValue 138 = .ok (.istore_n 2, 1) := by decide +kernel
theorem dX12_readValue_139 : decode cX12_readValue 139 = .ok (.aload_n 0, 1) := by decide +kernel
theorem dX12_readValue_140 : decode cX12_readValue 140 = .ok (.invokevirtual 358, 3) := by decide +kernel
theorem dX12_readValue_143 : decode cX12_readValue 143 = .ok (.bipush 48, 2) := by decide +kernel
theorem dX12_readValue_145 : decode cX12_readValue 145 = .ok (.if_icmp .lt 50, 3) := by decide +kernel
theorem dX12_readValue_148 : decode cX12_readValue 148 = .ok (.aload_n 0, 1) := by decide +kernel
theorem dX12_readValue_149 : decode cX12_readValue 149 = .ok (.invokevirtual 358, 3) := by decide +kernel
theorem dX12_readValue_152 : decode cX12_readValue 152 = .ok (.bipush 57, 2) := by decide +kernel
theorem dX12_readValue_154 : decode cX12_readValue 154 = .ok (.if_icmp .gt 41, 3) := by decide +kernel
theorem dX12_readValue_157 : decode cX12_readValue 157 = .ok (.aload_n 0, 1) := by decide +kernel
theorem dX12_readValue_158 : decode cX12_readValue 158 = .ok (.getfield 191, 3) := by decide +kernel
theorem dX12_readValue_161 : decode cX12_readValue 161 = .ok (.ifCond .ne 34, 3) := by decide +kernel
theorem dX12_readValue_164 : decode cX12_readValue 164 = .ok (.aload_n 0, 1) := by decide +kernel
theorem dX12_readValue_165 : decode cX12_readValue 165 = .ok (.invokevirtual 289, 3) := by decide +kernel
theorem dX12_readValue_168 : decode cX12_readValue 168 = .ok (.bipush 48, 2) := by decide +kernel
theorem dX12_readValue_170 : decode cX12_readValue 170 = .ok (.isub, 1) := by decide +kernel
theorem dX12_readValue_171 : decode cX12_readValue 171 = .ok (.istore 6, 2) := by decide +kernel
theorem dX12_readValue_173 : decode cX12_readValue 173 = .ok (.iload 4, 2) := by decide +kernel
theorem dX12_readValue_175 : decode cX12_readValue 175 = .ok (.iconst 4, 1) := by decide +kernel
theorem dX12_readValue_176 : decode cX12_readValue 176 = .ok (.if_icmp .ge 16, 3) := by decide +kernel
theorem dX12_readValue_179 : decode cX12_readValue 179 = .ok (.iload 5, 2) := by decide +kernel
theorem dX12_readValue_181 : decode cX12_readValue 181 = .ok (.bipush 10, 2) := by decide +kernel
theorem dX12_readValue_183 : decode cX12_readValue 183 = .ok (.imul, 1) := by decide +kernel
theorem dX12_readValue_184 : decode cX12_readValue 184 = .ok (.iload 6, 2) := by decide +kernel
theorem dX12_readValue_186 : decode cX12_readValue 186 = .ok (.iadd, 1) := by decide +kernel
theorem dX12_readValue_187 : decode cX12_readValue 187 = .ok (.istore 5, 2) := by decide +kernel
theorem dX12_readValue_189 : decode cX12_readValue 189 = .ok (.iinc 4 1, 3) := by decide +kernel
theorem dX12_readValue_192 : decode cX12_readValue 192 = .ok (.goto (-53), 3) := by decide +kernel
theorem dX12_readValue_195 : decode cX12_readValue 195 = .ok (.iload 4, 2) := by decide +kernel
theorem dX12_readValue_197 : decode cX12_readValue 197 = .ok (.iconst 4, 1) := by decide +kernel
theorem dX12_readValue_198 : decode cX12_readValue 198 = .ok (.if_icmp .ge 16, 3) := by decide +kernel
theorem dX12_readValue_201 : decode cX12_readValue 201 = .ok (.iload 5, 2) := by decide +kernel
theorem dX12_readValue_203 : decode cX12_readValue 203 = .ok (.bipush 10, 2) := by decide +kernel
theorem dX12_readValue_205 : decode cX12_readValue 205 = .ok (.imul, 1) := by decide +kernel
theorem dX12_readValue_206 : decode cX12_readValue 206 = .ok (.istore 5, 2) := by decide +kernel
theorem dX12_readValue_208 : decode cX12_readValue 208 = .ok (.iinc 4 1, 3) := by decide +kernel
theorem dX12_readValue_211 : decode cX12_readValue 211 = .ok (.goto (-16), 3) := by decide +kernel
theorem dX12_readValue_214 : decode cX12_readValue 214 = .ok (.aload_n 0, 1) := by decide +kernel
theorem dX12_readValue_215 : decode cX12_readValue 215 = .ok (.iload_n 1, 1) := by decide +kernel
theorem dX12_readValue_216 : decode cX12_readValue 216 = .ok (.ifCond .eq 8, 3) := by decide +kernel
theorem dX12_readValue_219 : decode cX12_readValue 219 = .ok (.iload_n 3, 1) := by decide +kernel
theorem dX12_readValue_220 : decode cX12_readValue 220 = .ok (.ineg, 1) := by decide +kernel
theorem dX12_readValue_221 : decode cX12_readValue 221 = .ok (.goto 4, 3) := by decide +kernel
theorem dX12_readValue_224 : decode cX12_readValue 224 = .ok (.iload_n 3, 1) := by decide +kernel
theorem dX12_readValue_225 : decode cX12_readValue 225 = .ok (.putfield 379, 3) := by decide +kernel
theorem dX12_readValue_228 : decode cX12_readValue 228 = .ok (.aload_n 0, 1) := by decide +kernel
theorem dX12_readValue_229 : decode cX12_readValue 229 = .ok (.iload_n 1, 1) := by decide +kernel
theorem dX12_readValue_230 : decode cX12_readValue 230 = .ok (.ifCond .eq 17, 3) := by decide +kernel
theorem dX12_readValue_233 : decode cX12_readValue 233 = .ok (.iload_n 3, 1) := by decide +kernel
theorem dX12_readValue_234 : decode cX12_readValue 234 = .ok (.i2l, 1) := by decide +kernel
theorem dX12_readValue_235 : decode cX12_readValue 235 = .ok (.ldc2_w 382, 3) := by decide +kernel
theorem dX12_readValue_238 : decode cX12_readValue 238 = .ok (.lmul, 1) := by decide +kernel
theorem dX12_readValue_239 : decode cX12_readValue 239 = .ok (.iload 5, 2) := by decide +kernel
theorem dX12_readValue_241 : decode cX12_readValue 241 = .ok (.i2l, 1) := by decide +kernel
theorem dX12_readValue_242 : decode cX12_readValue 242 = .ok (.ladd, 1) := by decide +kernel
theorem dX12_readValue_243 : decode cX12_readValue 243 = .ok (.lneg, 1) := by decide +kernel
theorem dX12_readValue_244 : decode cX12_readValue 244 = .ok (.goto 13, 3) := by decide +kernel
theorem dX12_readValue_247 : decode cX12_readValue 247 = .ok (.iload_n 3, 1) := by decide +kernel
theorem dX12_readValue_248 : decode cX12_readValue 248 = .ok (.i2l, 1) := by decide +kernel
theorem dX12_readValue_249 : decode cX12_readValue 249 = .ok (.ldc2_w 382, 3) := by decide +kernel
theorem dX12_readValue_252 : decode cX12_readValue 252 = .ok (.lmul, 1) := by decide +kernel
theorem dX12_readValue_253 : decode cX12_readValue 253 = .ok (.iload 5, 2) := by decide +kernel
theorem dX12_readValue_255 : decode cX12_readValue 255 = .ok (.i2l, 1) := by decide +kernel
theorem dX12_readValue_256 : decode cX12_readValue 256 = .ok (.ladd, 1) := by decide +kernel
theorem dX12_readValue_257 : decode cX12_readValue 257 = .ok (.putfield 384, 3) := by decide +kernel
theorem dX12_readValue_260 : decode cX12_readValue 260 = .ok (.return_, 1) := by decide +kernel
noncomputable def f_X12_readValue_225 (a1 : Int32) (a3 : Int32) (a5 : Int32) (b0 : Int32) (T : Mm) : Option (Unit × Mm) :=
  lb (uI T 1251 133 b0) fun T1 =>
  if a1 = 0 then (lb (uJ T1 1253 133 ((((a3).toInt64) * 10000) + ((a5).toInt64))) fun T2 =>
  some ((), T2))
  else (lb (uJ T1 1253 133 (-((((a3).toInt64) * 10000) + ((a5).toInt64)))) fun T3 =>
  some ((), T3))
set_option maxRecDepth 100000 in
set_option maxHeartbeats 4000000 in
theorem s_X12_readValue_225 {x : JX} {ad : Nat → Nat} {U : Mm} {S0 : Hp} {q : Unit × Mm}  (hn9 : x_n x = 7) (C : CB x RX12 cX12_readValue) (M : CMr x 3 none S0 ad false U eV q) (a1 : Int32) (a3 : Int32) (a5 : Int32) (b0 : Int32) (T : Mm) (h : f_X12_readValue_225  a1 a3 a5 b0 T = some q) : Jr x ad false U T [(0, .ref (ad 133)), (1, .int a1), (3, .int a3), (5, .int a5)] 225 [.int b0, .ref (ad 133)] := by
  unfold f_X12_readValue_225 at h
  refine r_puti (f := 1251) C flX12_379 (by decide) rfl rfl dX12_readValue_225 kq_133 rfl h (fun T1 h => ?_)
  refine r_aload_n C dX12_readValue_228 rfl 0 rfl ?_
  refine r_iload_n C dX12_readValue_229 rfl 1 rfl ?_
  refine r_if_eq (tgt := 247) C dX12_readValue_230 (by decide) h (fun h => ?_) (fun h => ?_)
  · refine r_iload_n C dX12_readValue_247 rfl 2 rfl ?_
    refine r_i2l C dX12_readValue_248 rfl ?_
    refine r_ldc2 (v := 10000) C dX12_readValue_249 kcX12_382 ?_
    refine r_lmul C dX12_readValue_252 rfl ?_
    refine r_iload C dX12_readValue_253 3 rfl ?_
    show Jr _ _ _ _ _ _ 255 _
    refine r_i2l C dX12_readValue_255 rfl ?_
    refine r_ladd C dX12_readValue_256 rfl ?_
    refine r_putl (f := 1253) C flX12_384 (by decide) rfl rfl dX12_readValue_257 kq_133 rfl h (fun T2 h => ?_)
    exact r_vret C M dX12_readValue_260 h
  · refine r_iload_n C dX12_readValue_233 rfl 2 rfl ?_
    refine r_i2l C dX12_readValue_234 rfl ?_
    refine r_ldc2 (v := 10000) C dX12_readValue_235 kcX12_382 ?_
    refine r_lmul C dX12_readValue_238 rfl ?_
    refine r_iload C dX12_readValue_239 3 rfl ?_
    show Jr _ _ _ _ _ _ 241 _
    refine r_i2l C dX12_readValue_241 rfl ?_
    refine r_ladd C dX12_readValue_242 rfl ?_
    refine r_lneg C dX12_readValue_243 rfl ?_
    refine r_goto (tgt := 257) C dX12_readValue_244 (by decide) ?_
    refine r_putl (f := 1253) C flX12_384 (by decide) rfl rfl dX12_readValue_257 kq_133 rfl h (fun T3 h => ?_)
    exact r_vret C M dX12_readValue_260 h
noncomputable def f_X12_readValue_b195 (k195 : Int32 → Int32 → Int32 → Int32 → Mm → Option (Unit × Mm)) (a1 : Int32) (a3 : Int32) (a4 : Int32) (a5 : Int32) (T : Mm) : Option (Unit × Mm) :=
  if 4 ≤ a4 then (if a1 = 0 then (f_X12_readValue_225 a1 a3 a5 a3 T)
  else (f_X12_readValue_225 a1 a3 a5 (-a3) T))
  else (lb ((a5 * 10)) fun v1 =>
  k195 a1 a3 (a4 + 1) v1 T)
set_option maxRecDepth 100000 in
set_option maxHeartbeats 4000000 in
theorem s_X12_readValue_b195 {x : JX} {ad : Nat → Nat} {U : Mm} {S0 : Hp} {q : Unit × Mm}  {k195 : Int32 → Int32 → Int32 → Int32 → Mm → Option (Unit × Mm)} (hn9 : x_n x = 7) (C : CB x RX12 cX12_readValue) (M : CMr x 3 none S0 ad false U eV q) (hk195 : ∀ (a1 : Int32) (a3 : Int32) (a4 : Int32) (a5 : Int32) (T : Mm), k195 a1 a3 a4 a5 T = some q → Jr x ad false U T [(0, .ref (ad 133)), (1, .int a1), (3, .int a3), (4, .int a4), (5, .int a5)] 195 []) (a1 : Int32) (a3 : Int32) (a4 : Int32) (a5 : Int32) (T : Mm) (h : f_X12_readValue_b195 k195 a1 a3 a4 a5 T = some q) : Jr x ad false U T [(0, .ref (ad 133)), (1, .int a1), (3, .int a3), (4, .int a4), (5, .int a5)] 195 [] := by
  unfold f_X12_readValue_b195 at h
  refine r_iload C dX12_readValue_195 3 rfl ?_
  refine r_iconst (v := 4) C dX12_readValue_197 (by decide) ?_
  refine r_ic_ge (tgt := 214) C dX12_readValue_198 (by decide) h (fun h => ?_) (fun h => ?_)
  · refine r_aload_n C dX12_readValue_214 rfl 0 rfl ?_
    refine r_iload_n C dX12_readValue_215 rfl 1 rfl ?_
    refine r_if_eq (tgt := 224) C dX12_readValue_216 (by decide) h (fun h => ?_) (fun h => ?_)
    · refine r_iload_n C dX12_readValue_224 rfl 2 rfl ?_
      refine Jr.sub [0, 1, 2, 4] (lv' := [(0, .ref (ad 133)), (1, .int a1), (3, .int a3), (5, .int a5)]) rfl ?_
      exact s_X12_readValue_225 hn9 C M  a1 a3 a5 a3 T h
    · refine r_iload_n C dX12_readValue_219 rfl 2 rfl ?_
      refine r_ineg C dX12_readValue_220 rfl ?_
      refine r_goto (tgt := 225) C dX12_readValue_221 (by decide) ?_
      refine Jr.sub [0, 1, 2, 4] (lv' := [(0, .ref (ad 133)), (1, .int a1), (3, .int a3), (5, .int a5)]) rfl ?_
      exact s_X12_readValue_225 hn9 C M  a1 a3 a5 (-a3) T h
  · refine r_iload C dX12_readValue_201 4 rfl ?_
    refine r_bipush (v := 10) C dX12_readValue_203 (by decide) ?_
    refine r_imul C dX12_readValue_205 rfl ?_
    refine r_lbI h (fun v1 h => ?_)
    refine r_istore (lv' := [(5, .int v1), (0, .ref (ad 133)), (1, .int a1), (3, .int a3), (4, .int a4)]) C dX12_readValue_206 (by rw [hn9]; decide) rfl ?_
    refine r_iinc (q := 4) (v := (a4 + 1)) (lv' := [(4, .int (a4 + 1)), (5, .int v1), (0, .ref (ad 133)), (1, .int a1), (3, .int a3)]) C dX12_readValue_208 rfl (by rw [show Int32.ofInt (1) = 1 by decide]) (by rw [hn9]; decide) rfl ?_
    show Jr _ _ _ _ _ _ 211 _
    refine r_goto (tgt := 195) C dX12_readValue_211 (by decide) ?_
    refine Jr.sub [2, 3, 4, 0, 1] (lv' := [(0, .ref (ad 133)), (1, .int a1), (3, .int a3), (4, .int (a4 + 1)), (5, .int v1)]) rfl ?_
    exact hk195 a1 a3 (a4 + 1) v1 T h
noncomputable def f_X12_readValue_l195 (n : Nat) : Int32 → Int32 → Int32 → Int32 → Mm → Option (Unit × Mm) := Nat.rec (fun _ _ _ _ _ => none) (fun _ ih => f_X12_readValue_b195 ih) n
theorem s_X12_readValue_l195 {x : JX} {ad : Nat → Nat} {U : Mm} {S0 : Hp} {q : Unit × Mm}  (hn9 : x_n x = 7) (C : CB x RX12 cX12_readValue) (M : CMr x 3 none S0 ad false U eV q) : ∀ (n : Nat), ∀ (a1 : Int32) (a3 : Int32) (a4 : Int32) (a5 : Int32) (T : Mm), f_X12_readValue_l195  n a1 a3 a4 a5 T = some q → Jr x ad false U T [(0, .ref (ad 133)), (1, .int a1), (3, .int a3), (4, .int a4), (5, .int a5)] 195 [] := by
  intro n
  induction n with
  | zero => intro a1 a3 a4 a5 T  h; exact absurd h (by intro h; cases h)
  | succ n ih => exact fun a1 a3 a4 a5 T  h => s_X12_readValue_b195 hn9 C M (ih) a1 a3 a4 a5 T  h
noncomputable def f_X12_readValue_b139 (k139 : Int32 → Int32 → Int32 → Int32 → Mm → Option (Unit × Mm)) (a1 : Int32) (a3 : Int32) (a4 : Int32) (a5 : Int32) (T : Mm) : Option (Unit × Mm) :=
  bd (f_X12_peek T) fun v1 T2 =>
  if v1 < 48 then (f_X12_readValue_l195 FU a1 a3 a4 a5 T2)
  else (bd (f_X12_peek T2) fun v3 T4 =>
  if 57 < v3 then (f_X12_readValue_l195 FU a1 a3 a4 a5 T4)
  else (if (gI T4 1233 133) = 0 then (bd (f_X12_next T4) fun v5 T6 =>
  lb ((v5 - 48)) fun v7 =>
  if 4 ≤ a4 then (k139 a1 a3 a4 a5 T6)
  else (lb (((a5 * 10) + v7)) fun v8 =>
  k139 a1 a3 (a4 + 1) v8 T6))
  else (f_X12_readValue_l195 FU a1 a3 a4 a5 T4)))
set_option maxRecDepth 100000 in
set_option maxHeartbeats 4000000 in
theorem s_X12_readValue_b139 {x : JX} {ad : Nat → Nat} {U : Mm} {S0 : Hp} {q : Unit × Mm}  {k139 : Int32 → Int32 → Int32 → Int32 → Mm → Option (Unit × Mm)} (hn9 : x_n x = 7) (C : CB x RX12 cX12_readValue) (M : CMr x 3 none S0 ad false U eV q) (hk139 : ∀ (a1 : Int32) (a3 : Int32) (a4 : Int32) (a5 : Int32) (T : Mm), k139 a1 a3 a4 a5 T = some q → Jr x ad false U T [(0, .ref (ad 133)), (1, .int a1), (3, .int a3), (4, .int a4), (5, .int a5)] 139 []) (a1 : Int32) (a3 : Int32) (a4 : Int32) (a5 : Int32) (T : Mm) (h : f_X12_readValue_b139 k139 a1 a3 a4 a5 T = some q) : Jr x ad false U T [(0, .ref (ad 133)), (1, .int a1), (3, .int a3), (4, .int a4), (5, .int a5)] 139 [] := by
  unfold f_X12_readValue_b139 at h
  refine r_aload_n C dX12_readValue_139 rfl 0 rfl ?_
  refine r_callVI C M h [] [] mlX12_358 mcX12_peek (fun q9 e9 => s_X12_peek   e9) kq_133 rfl (by decide) (by decide) rfl rfl (Nat.le_of_ble_eq_true rfl) dX12_readValue_140 (fun v1 T2 h => ?_)
  refine r_bipush (v := 48) C dX12_readValue_143 (by decide) ?_
  refine r_ic_lt (tgt := 195) C dX12_readValue_145 (by decide) h (fun h => ?_) (fun h => ?_)
  · exact s_X12_readValue_l195 hn9 C M  FU a1 a3 a4 a5 T2 h
  · refine r_aload_n C dX12_readValue_148 rfl 0 rfl ?_
    refine r_callVI C M h [] [] mlX12_358 mcX12_peek (fun q9 e9 => s_X12_peek   e9) kq_133 rfl (by decide) (by decide) rfl rfl (Nat.le_of_ble_eq_true rfl) dX12_readValue_149 (fun v3 T4 h => ?_)
    refine r_bipush (v := 57) C dX12_readValue_152 (by decide) ?_
    refine r_ic_gt (tgt := 195) C dX12_readValue_154 (by decide) h (fun h => ?_) (fun h => ?_)
    · exact s_X12_readValue_l195 hn9 C M  FU a1 a3 a4 a5 T4 h
    · refine r_aload_n C dX12_readValue_157 rfl 0 rfl ?_
      refine r_geti (f := 1233) C flX12_191 dX12_readValue_158 kq_133 (by decide) (by decide) rfl ?_
      refine r_if_ne (tgt := 195) C dX12_readValue_161 (by decide) h (fun h => ?_) (fun h => ?_)
      · exact s_X12_readValue_l195 hn9 C M  FU a1 a3 a4 a5 T4 h
      · refine r_aload_n C dX12_readValue_164 rfl 0 rfl ?_
        refine r_callVI C M h [] [] mlX12_289 mcX12_next (fun q9 e9 => s_X12_next   e9) kq_133 rfl (by decide) (by decide) rfl rfl (Nat.le_of_ble_eq_true rfl) dX12_readValue_165 (fun v5 T6 h => ?_)
        refine r_bipush (v := 48) C dX12_readValue_168 (by decide) ?_
        refine r_isub C dX12_readValue_170 rfl ?_
        refine r_lbI h (fun v7 h => ?_)
        refine r_istore (lv' := [(6, .int v7), (0, .ref (ad 133)), (1, .int a1), (3, .int a3), (4, .int a4), (5, .int a5)]) C dX12_readValue_171 (by rw [hn9]; decide) rfl ?_
        show Jr _ _ _ _ _ _ 173 _
        refine r_iload C dX12_readValue_173 4 rfl ?_
        refine r_iconst (v := 4) C dX12_readValue_175 (by decide) ?_
        refine r_ic_ge (tgt := 192) C dX12_readValue_176 (by decide) h (fun h => ?_) (fun h => ?_)
        · refine r_goto (tgt := 139) C dX12_readValue_192 (by decide) ?_
          refine Jr.sub [1, 2, 3, 4, 5] (lv' := [(0, .ref (ad 133)), (1, .int a1), (3, .int a3), (4, .int a4), (5, .int a5)]) rfl ?_
          exact hk139 a1 a3 a4 a5 T6 h
        · refine r_iload C dX12_readValue_179 5 rfl ?_
          refine r_bipush (v := 10) C dX12_readValue_181 (by decide) ?_
          refine r_imul C dX12_readValue_183 rfl ?_
          refine r_iload C dX12_readValue_184 0 rfl ?_
          refine r_iadd C dX12_readValue_186 rfl ?_
          show Jr _ _ _ _ _ _ 187 _
          refine r_lbI h (fun v8 h => ?_)
          refine r_istore (lv' := [(5, .int v8), (6, .int v7), (0, .ref (ad 133)), (1, .int a1), (3, .int a3), (4, .int a4)]) C dX12_readValue_187 (by rw [hn9]; decide) rfl ?_
          refine r_iinc (q := 5) (v := (a4 + 1)) (lv' := [(4, .int (a4 + 1)), (5, .int v8), (6, .int v7), (0, .ref (ad 133)), (1, .int a1), (3, .int a3)]) C dX12_readValue_189 rfl (by rw [show Int32.ofInt (1) = 1 by decide]) (by rw [hn9]; decide) rfl ?_
          refine r_goto (tgt := 139) C dX12_readValue_192 (by decide) ?_
          refine Jr.sub [3, 4, 5, 0, 1] (lv' := [(0, .ref (ad 133)), (1, .int a1), (3, .int a3), (4, .int (a4 + 1)), (5, .int v8)]) rfl ?_
          exact hk139 a1 a3 (a4 + 1) v8 T6 h
noncomputable def f_X12_readValue_l139 (n : Nat) : Int32 → Int32 → Int32 → Int32 → Mm → Option (Unit × Mm) := Nat.rec (fun _ _ _ _ _ => none) (fun _ ih => f_X12_readValue_b139 ih) n
theorem s_X12_readValue_l139 {x : JX} {ad : Nat → Nat} {U : Mm} {S0 : Hp} {q : Unit × Mm}  (hn9 : x_n x = 7) (C : CB x RX12 cX12_readValue) (M : CMr x 3 none S0 ad false U eV q) : ∀ (n : Nat), ∀ (a1 : Int32) (a3 : Int32) (a4 : Int32) (a5 : Int32) (T : Mm), f_X12_readValue_l139  n a1 a3 a4 a5 T = some q → Jr x ad false U T [(0, .ref (ad 133)), (1, .int a1), (3, .int a3), (4, .int a4), (5, .int a5)] 139 [] := by
  intro n
  induction n with
  | zero => intro a1 a3 a4 a5 T  h; exact absurd h (by intro h; cases h)
  | succ n ih => exact fun a1 a3 a4 a5 T  h => s_X12_readValue_b139 hn9 C M (ih) a1 a3 a4 a5 T  h
noncomputable def f_X12_readValue_115 (a1 : Int32) (a3 : Int32) (a4 : Int32) (T : Mm) : Option (Unit × Mm) :=
  bd (f_X12_peek T) fun v1 T2 =>
  if v1 = 46 then (if (gI T2 1233 133) = 0 then (bd (f_X12_next T2) fun v3 T4 =>
  f_X12_readValue_l139 FU a1 a3 a4 0 T4)
  else (f_X12_readValue_l195 FU a1 a3 a4 0 T2))
  else (f_X12_readValue_l195 FU a1 a3 a4 0 T2)
set_option maxRecDepth 100000 in
set_option maxHeartbeats 4000000 in
theorem s_X12_readValue_115 {x : JX} {ad : Nat → Nat} {U : Mm} {S0 : Hp} {q : Unit × Mm}  (hn9 : x_n x = 7) (C : CB x RX12 cX12_readValue) (M : CMr x 3 none S0 ad false U eV q) (a1 : Int32) (a3 : Int32) (a4 : Int32) (T : Mm) (h : f_X12_readValue_115  a1 a3 a4 T = some q) : Jr x ad false U T [(0, .ref (ad 133)), (1, .int a1), (3, .int a3), (4, .int a4)] 115 [] := by
  unfold f_X12_readValue_115 at h
  refine r_iconst (v := 0) C dX12_readValue_115 (by decide) ?_
  refine r_istore (lv' := [(5, .int 0), (0, .ref (ad 133)), (1, .int a1), (3, .int a3), (4, .int a4)]) C dX12_readValue_116 (by rw [hn9]; decide) rfl ?_
  refine r_aload_n C dX12_readValue_118 rfl 1 rfl ?_
  refine r_callVI C M h [] [] mlX12_358 mcX12_peek (fun q9 e9 => s_X12_peek   e9) kq_133 rfl (by decide) (by decide) rfl rfl (Nat.le_of_ble_eq_true rfl) dX12_readValue_119 (fun v1 T2 h => ?_)
  refine r_bipush (v := 46) C dX12_readValue_122 (by decide) ?_
  show Jr _ _ _ _ _ _ 124 _
  refine r_ic_ne (tgt := 195) C dX12_readValue_124 (by decide) h (fun h => ?_) (fun h => ?_)
  · refine Jr.sub [1, 2, 3, 4, 0] (lv' := [(0, .ref (ad 133)), (1, .int a1), (3, .int a3), (4, .int a4), (5, .int 0)]) rfl ?_
    exact s_X12_readValue_l195 hn9 C M  FU a1 a3 a4 0 T2 h
  · refine r_aload_n C dX12_readValue_127 rfl 1 rfl ?_
    refine r_geti (f := 1233) C flX12_191 dX12_readValue_128 kq_133 (by decide) (by decide) rfl ?_
    refine r_if_ne (tgt := 195) C dX12_readValue_131 (by decide) h (fun h => ?_) (fun h => ?_)
    · refine Jr.sub [1, 2, 3, 4, 0] (lv' := [(0, .ref (ad 133)), (1, .int a1), (3, .int a3), (4, .int a4), (5, .int 0)]) rfl ?_
      exact s_X12_readValue_l195 hn9 C M  FU a1 a3 a4 0 T2 h
    · refine r_aload_n C dX12_readValue_134 rfl 1 rfl ?_
      refine r_callVI C M h [] [] mlX12_289 mcX12_next (fun q9 e9 => s_X12_next   e9) kq_133 rfl (by decide) (by decide) rfl rfl (Nat.le_of_ble_eq_true rfl) dX12_readValue_135 (fun v3 T4 h => ?_)
      refine r_istore_n (lv' := [(2, .int v3), (5, .int 0), (0, .ref (ad 133)), (1, .int a1), (3, .int a3), (4, .int a4)]) C dX12_readValue_138 rfl (by rw [hn9]; decide) rfl ?_
      refine Jr.sub [2, 3, 4, 5, 1] (lv' := [(0, .ref (ad 133)), (1, .int a1), (3, .int a3), (4, .int a4), (5, .int 0)]) rfl ?_
      exact s_X12_readValue_l139 hn9 C M  FU a1 a3 a4 0 T4 h
noncomputable def f_X12_readValue_b51 (k51 : Int32 → Int32 → Int32 → Mm → Option (Unit × Mm)) (a1 : Int32) (a3 : Int32) (a4 : Int32) (T : Mm) : Option (Unit × Mm) :=
  bd (f_X12_peek T) fun v1 T2 =>
  if v1 < 48 then (f_X12_readValue_115 a1 a3 a4 T2)
  else (bd (f_X12_peek T2) fun v3 T4 =>
  if 57 < v3 then (f_X12_readValue_115 a1 a3 a4 T4)
  else (if (gI T4 1233 133) = 0 then (bd (f_X12_next T4) fun v5 T6 =>
  lb ((v5 - 48)) fun v7 =>
  if ((a3 * 10) + v7) ≤ 32767 then (lb (((a3 * 10) + v7)) fun v8 =>
  k51 a1 v8 a4 T6)
  else (k51 a1 32767 a4 T6))
  else (f_X12_readValue_115 a1 a3 a4 T4)))
set_option maxRecDepth 100000 in
set_option maxHeartbeats 4000000 in
theorem s_X12_readValue_b51 {x : JX} {ad : Nat → Nat} {U : Mm} {S0 : Hp} {q : Unit × Mm}  {k51 : Int32 → Int32 → Int32 → Mm → Option (Unit × Mm)} (hn9 : x_n x = 7) (C : CB x RX12 cX12_readValue) (M : CMr x 3 none S0 ad false U eV q) (hk51 : ∀ (a1 : Int32) (a3 : Int32) (a4 : Int32) (T : Mm), k51 a1 a3 a4 T = some q → Jr x ad false U T [(0, .ref (ad 133)), (1, .int a1), (3, .int a3), (4, .int a4)] 51 []) (a1 : Int32) (a3 : Int32) (a4 : Int32) (T : Mm) (h : f_X12_readValue_b51 k51 a1 a3 a4 T = some q) : Jr x ad false U T [(0, .ref (ad 133)), (1, .int a1), (3, .int a3), (4, .int a4)] 51 [] := by
  unfold f_X12_readValue_b51 at h
  refine r_aload_n C dX12_readValue_51 rfl 0 rfl ?_
  refine r_callVI C M h [] [] mlX12_358 mcX12_peek (fun q9 e9 => s_X12_peek   e9) kq_133 rfl (by decide) (by decide) rfl rfl (Nat.le_of_ble_eq_true rfl) dX12_readValue_52 (fun v1 T2 h => ?_)
  refine r_bipush (v := 48) C dX12_readValue_55 (by decide) ?_
  refine r_ic_lt (tgt := 115) C dX12_readValue_57 (by decide) h (fun h => ?_) (fun h => ?_)
  · exact s_X12_readValue_115 hn9 C M  a1 a3 a4 T2 h
  · refine r_aload_n C dX12_readValue_60 rfl 0 rfl ?_
    refine r_callVI C M h [] [] mlX12_358 mcX12_peek (fun q9 e9 => s_X12_peek   e9) kq_133 rfl (by decide) (by decide) rfl rfl (Nat.le_of_ble_eq_true rfl) dX12_readValue_61 (fun v3 T4 h => ?_)
    refine r_bipush (v := 57) C dX12_readValue_64 (by decide) ?_
    refine r_ic_gt (tgt := 115) C dX12_readValue_66 (by decide) h (fun h => ?_) (fun h => ?_)
    · exact s_X12_readValue_115 hn9 C M  a1 a3 a4 T4 h
    · refine r_aload_n C dX12_readValue_69 rfl 0 rfl ?_
      refine r_geti (f := 1233) C flX12_191 dX12_readValue_70 kq_133 (by decide) (by decide) rfl ?_
      refine r_if_ne (tgt := 115) C dX12_readValue_73 (by decide) h (fun h => ?_) (fun h => ?_)
      · exact s_X12_readValue_115 hn9 C M  a1 a3 a4 T4 h
      · refine r_aload_n C dX12_readValue_76 rfl 0 rfl ?_
        refine r_callVI C M h [] [] mlX12_289 mcX12_next (fun q9 e9 => s_X12_next   e9) kq_133 rfl (by decide) (by decide) rfl rfl (Nat.le_of_ble_eq_true rfl) dX12_readValue_77 (fun v5 T6 h => ?_)
        refine r_bipush (v := 48) C dX12_readValue_80 (by decide) ?_
        refine r_isub C dX12_readValue_82 rfl ?_
        refine r_lbI h (fun v7 h => ?_)
        refine r_istore (lv' := [(5, .int v7), (0, .ref (ad 133)), (1, .int a1), (3, .int a3), (4, .int a4)]) C dX12_readValue_83 (by rw [hn9]; decide) rfl ?_
        show Jr _ _ _ _ _ _ 85 _
        refine r_iload_n C dX12_readValue_85 rfl 3 rfl ?_
        refine r_bipush (v := 10) C dX12_readValue_86 (by decide) ?_
        refine r_imul C dX12_readValue_88 rfl ?_
        refine r_iload C dX12_readValue_89 0 rfl ?_
        refine r_iadd C dX12_readValue_91 rfl ?_
        refine r_sipush (v := 32767) C dX12_readValue_92 (by decide) ?_
        show Jr _ _ _ _ _ _ 95 _
        refine r_ic_le (tgt := 104) C dX12_readValue_95 (by decide) h (fun h => ?_) (fun h => ?_)
        · refine r_iload_n C dX12_readValue_104 rfl 3 rfl ?_
          refine r_bipush (v := 10) C dX12_readValue_105 (by decide) ?_
          refine r_imul C dX12_readValue_107 rfl ?_
          refine r_iload C dX12_readValue_108 0 rfl ?_
          refine r_iadd C dX12_readValue_110 rfl ?_
          show Jr _ _ _ _ _ _ 111 _
          refine r_lbI h (fun v8 h => ?_)
          refine r_istore_n (lv' := [(3, .int v8), (5, .int v7), (0, .ref (ad 133)), (1, .int a1), (4, .int a4)]) C dX12_readValue_111 rfl (by rw [hn9]; decide) rfl ?_
          refine r_goto (tgt := 51) C dX12_readValue_112 (by decide) ?_
          refine Jr.sub [2, 3, 0, 4] (lv' := [(0, .ref (ad 133)), (1, .int a1), (3, .int v8), (4, .int a4)]) rfl ?_
          exact hk51 a1 v8 a4 T6 h
        · refine r_sipush (v := 32767) C dX12_readValue_98 (by decide) ?_
          refine r_goto (tgt := 111) C dX12_readValue_101 (by decide) ?_
          refine r_istore_n (lv' := [(3, .int 32767), (5, .int v7), (0, .ref (ad 133)), (1, .int a1), (4, .int a4)]) C dX12_readValue_111 rfl (by rw [hn9]; decide) rfl ?_
          refine r_goto (tgt := 51) C dX12_readValue_112 (by decide) ?_
          refine Jr.sub [2, 3, 0, 4] (lv' := [(0, .ref (ad 133)), (1, .int a1), (3, .int 32767), (4, .int a4)]) rfl ?_
          exact hk51 a1 32767 a4 T6 h
noncomputable def f_X12_readValue_l51 (n : Nat) : Int32 → Int32 → Int32 → Mm → Option (Unit × Mm) := Nat.rec (fun _ _ _ _ => none) (fun _ ih => f_X12_readValue_b51 ih) n
theorem s_X12_readValue_l51 {x : JX} {ad : Nat → Nat} {U : Mm} {S0 : Hp} {q : Unit × Mm}  (hn9 : x_n x = 7) (C : CB x RX12 cX12_readValue) (M : CMr x 3 none S0 ad false U eV q) : ∀ (n : Nat), ∀ (a1 : Int32) (a3 : Int32) (a4 : Int32) (T : Mm), f_X12_readValue_l51  n a1 a3 a4 T = some q → Jr x ad false U T [(0, .ref (ad 133)), (1, .int a1), (3, .int a3), (4, .int a4)] 51 [] := by
  intro n
  induction n with
  | zero => intro a1 a3 a4 T  h; exact absurd h (by intro h; cases h)
  | succ n ih => exact fun a1 a3 a4 T  h => s_X12_readValue_b51 hn9 C M (ih) a1 a3 a4 T  h
noncomputable def f_X12_readValue_24 (a2 : Int32) (T : Mm) : Option (Unit × Mm) :=
  lb (uI T 1254 133 1) fun T1 =>
  if a2 = 45 then (bd (f_X12_next T1) fun v4 T5 =>
  f_X12_readValue_l51 FU 1 0 0 T5)
  else (bd (f_X12_next T1) fun v2 T3 =>
  f_X12_readValue_l51 FU 0 0 0 T3)
set_option maxRecDepth 100000 in
set_option maxHeartbeats 4000000 in
theorem s_X12_readValue_24 {x : JX} {ad : Nat → Nat} {U : Mm} {S0 : Hp} {q : Unit × Mm}  (hn9 : x_n x = 7) (C : CB x RX12 cX12_readValue) (M : CMr x 3 none S0 ad false U eV q) (a2 : Int32) (T : Mm) (h : f_X12_readValue_24  a2 T = some q) : Jr x ad false U T [(0, .ref (ad 133)), (2, .int a2)] 24 [] := by
  unfold f_X12_readValue_24 at h
  refine r_aload_n C dX12_readValue_24 rfl 0 rfl ?_
  refine r_iconst (v := 1) C dX12_readValue_25 (by decide) ?_
  refine r_putz (f := 1254) C flX12_376 (by decide) rfl rfl (by decide) dX12_readValue_26 kq_133 rfl h (fun T1 h => ?_)
  refine r_iload_n C dX12_readValue_29 rfl 1 rfl ?_
  refine r_bipush (v := 45) C dX12_readValue_30 (by decide) ?_
  show Jr _ _ _ _ _ _ 32 _
  refine r_ic_ne (tgt := 39) C dX12_readValue_32 (by decide) h (fun h => ?_) (fun h => ?_)
  · refine r_iconst (v := 0) C dX12_readValue_39 (by decide) ?_
    refine r_istore_n (lv' := [(1, .int 0), (0, .ref (ad 133)), (2, .int a2)]) C dX12_readValue_40 rfl (by rw [hn9]; decide) rfl ?_
    refine r_aload_n C dX12_readValue_41 rfl 1 rfl ?_
    refine r_callVI C M h [] [] mlX12_289 mcX12_next (fun q9 e9 => s_X12_next   e9) kq_133 rfl (by decide) (by decide) rfl rfl (Nat.le_of_ble_eq_true rfl) dX12_readValue_42 (fun v2 T3 h => ?_)
    refine r_istore_n (lv' := [(2, .int v2), (1, .int 0), (0, .ref (ad 133))]) C dX12_readValue_45 rfl (by rw [hn9]; decide) rfl ?_
    show Jr _ _ _ _ _ _ 46 _
    refine r_iconst (v := 0) C dX12_readValue_46 (by decide) ?_
    refine r_istore_n (lv' := [(3, .int 0), (2, .int v2), (1, .int 0), (0, .ref (ad 133))]) C dX12_readValue_47 rfl (by rw [hn9]; decide) rfl ?_
    refine r_iconst (v := 0) C dX12_readValue_48 (by decide) ?_
    refine r_istore (lv' := [(4, .int 0), (3, .int 0), (2, .int v2), (1, .int 0), (0, .ref (ad 133))]) C dX12_readValue_49 (by rw [hn9]; decide) rfl ?_
    refine Jr.sub [4, 3, 1, 0] (lv' := [(0, .ref (ad 133)), (1, .int 0), (3, .int 0), (4, .int 0)]) rfl ?_
    exact s_X12_readValue_l51 hn9 C M  FU 0 0 0 T3 h
  · refine r_iconst (v := 1) C dX12_readValue_35 (by decide) ?_
    refine r_goto (tgt := 40) C dX12_readValue_36 (by decide) ?_
    refine r_istore_n (lv' := [(1, .int 1), (0, .ref (ad 133)), (2, .int a2)]) C dX12_readValue_40 rfl (by rw [hn9]; decide) rfl ?_
    refine r_aload_n C dX12_readValue_41 rfl 1 rfl ?_
    refine r_callVI C M h [] [] mlX12_289 mcX12_next (fun q9 e9 => s_X12_next   e9) kq_133 rfl (by decide) (by decide) rfl rfl (Nat.le_of_ble_eq_true rfl) dX12_readValue_42 (fun v4 T5 h => ?_)
    show Jr _ _ _ _ _ _ 45 _
    refine r_istore_n (lv' := [(2, .int v4), (1, .int 1), (0, .ref (ad 133))]) C dX12_readValue_45 rfl (by rw [hn9]; decide) rfl ?_
    refine r_iconst (v := 0) C dX12_readValue_46 (by decide) ?_
    refine r_istore_n (lv' := [(3, .int 0), (2, .int v4), (1, .int 1), (0, .ref (ad 133))]) C dX12_readValue_47 rfl (by rw [hn9]; decide) rfl ?_
    refine r_iconst (v := 0) C dX12_readValue_48 (by decide) ?_
    refine r_istore (lv' := [(4, .int 0), (3, .int 0), (2, .int v4), (1, .int 1), (0, .ref (ad 133))]) C dX12_readValue_49 (by rw [hn9]; decide) rfl ?_
    refine Jr.sub [4, 3, 1, 0] (lv' := [(0, .ref (ad 133)), (1, .int 1), (3, .int 0), (4, .int 0)]) rfl ?_
    exact s_X12_readValue_l51 hn9 C M  FU 1 0 0 T5 h
noncomputable def f_X12_readValue (T : Mm) : Option (Unit × Mm) :=
  lb (uI T 1254 133 0) fun T1 =>
  bd (f_X12_peek T1) fun v2 T3 =>
  if v2 = 43 then (f_X12_readValue_24 v2 T3)
  else (if v2 = 45 then (f_X12_readValue_24 v2 T3)
  else (f_X12_readValue_l51 FU 0 0 0 T3))
set_option maxRecDepth 100000 in
set_option maxHeartbeats 4000000 in
theorem s_X12_readValue {ad : Nat → Nat} {U T : Mm} {q : Unit × Mm}  (h : f_X12_readValue  T = some q) : Cr 3 yX12_readValue cX12_readValue 7 none [.ref (ad 133)] ad false U T eV q := by
  refine cr_of (by decide) (Nat.le_of_ble_eq_true rfl) fun x S0 hn9 C M => ?_
  have C : CB x RX12 cX12_readValue := C
  refine Jr.eq (lv' := [(0, .ref (ad 133))]) (st' := []) rfl rfl ?_
  unfold f_X12_readValue at h
  refine r_aload_n C dX12_readValue_0 rfl 0 rfl ?_
  refine r_iconst (v := 0) C dX12_readValue_1 (by decide) ?_
  refine r_putz (f := 1254) C flX12_376 (by decide) rfl rfl (by decide) dX12_readValue_2 kq_133 rfl h (fun T1 h => ?_)
  refine r_iconst (v := 0) C dX12_readValue_5 (by decide) ?_
  refine r_istore_n (lv' := [(1, .int 0), (0, .ref (ad 133))]) C dX12_readValue_6 rfl (by rw [hn9]; decide) rfl ?_
  show Jr _ _ _ _ _ _ 7 _
  refine r_aload_n C dX12_readValue_7 rfl 1 rfl ?_
  refine r_callVI C M h [] [] mlX12_358 mcX12_peek (fun q9 e9 => s_X12_peek   e9) kq_133 rfl (by decide) (by decide) rfl rfl (Nat.le_of_ble_eq_true rfl) dX12_readValue_8 (fun v2 T3 h => ?_)
  refine r_istore_n (lv' := [(2, .int v2), (1, .int 0), (0, .ref (ad 133))]) C dX12_readValue_11 rfl (by rw [hn9]; decide) rfl ?_
  refine r_iload_n C dX12_readValue_12 rfl 0 rfl ?_
  refine r_bipush (v := 43) C dX12_readValue_13 (by decide) ?_
  refine r_ic_eq (tgt := 24) C dX12_readValue_15 (by decide) h (fun h => ?_) (fun h => ?_)
  · refine Jr.sub [2, 0] (lv' := [(0, .ref (ad 133)), (2, .int v2)]) rfl ?_
    exact s_X12_readValue_24 hn9 C M  v2 T3 h
  · refine r_iload_n C dX12_readValue_18 rfl 0 rfl ?_
    refine r_bipush (v := 45) C dX12_readValue_19 (by decide) ?_
    refine r_ic_ne (tgt := 46) C dX12_readValue_21 (by decide) h (fun h => ?_) (fun h => ?_)
    · refine r_iconst (v := 0) C dX12_readValue_46 (by decide) ?_
      refine r_istore_n (lv' := [(3, .int 0), (2, .int v2), (1, .int 0), (0, .ref (ad 133))]) C dX12_readValue_47 rfl (by rw [hn9]; decide) rfl ?_
      refine r_iconst (v := 0) C dX12_readValue_48 (by decide) ?_
      refine r_istore (lv' := [(4, .int 0), (3, .int 0), (2, .int v2), (1, .int 0), (0, .ref (ad 133))]) C dX12_readValue_49 (by rw [hn9]; decide) rfl ?_
      refine Jr.sub [4, 3, 1, 0] (lv' := [(0, .ref (ad 133)), (1, .int 0), (3, .int 0), (4, .int 0)]) rfl ?_
      exact s_X12_readValue_l51 hn9 C M  FU 0 0 0 T3 h
    · refine Jr.sub [2, 0] (lv' := [(0, .ref (ad 133)), (2, .int v2)]) rfl ?_
      exact s_X12_readValue_24 hn9 C M  v2 T3 h
theorem dX12_dataAt_0 : decode cX12_dataAt 0 = .ok (.aload_n 0, 1) := by decide +kernel
theorem dX12_dataAt_1 : decode cX12_dataAt 1 = .ok (.getfield 272, 3) := by decide +kernel
theorem dX12_dataAt_4 : decode cX12_dataAt 4 = .ok (.aload_n 0, 1) := by decide +kernel
theorem dX12_dataAt_5 : decode cX12_dataAt 5 = .ok (.getfield 263, 3) := by decide +kernel
theorem dX12_dataAt_8 : decode cX12_dataAt 8 = .ok (.iload_n 1, 1) := by decide +kernel
theorem dX12_dataAt_9 : decode cX12_dataAt 9 = .ok (.iadd, 1) := by decide +kernel
theorem dX12_dataAt_10 : decode cX12_dataAt 10 = .ok (.baload, 1) := by decide +kernel
theorem dX12_dataAt_11 : decode cX12_dataAt 11 = .ok (.sipush 255, 3) := by decide +kernel
theorem dX12_dataAt_14 : decode cX12_dataAt 14 = .ok (.iand, 1) := by decide +kernel
theorem dX12_dataAt_15 : decode cX12_dataAt 15 = .ok (.ireturn, 1) := by decide +kernel
noncomputable def f_X12_dataAt (p1 : Int32) (T : Mm) : Option (Int32 × Mm) :=
  rf false (gR T 1226 133) 13 fun j1 =>
  ix ((gI T 1227 133) + p1) (LN j1) fun j3 =>
  some (((gA T j1 j3) &&& 255), T)
set_option maxRecDepth 100000 in
set_option maxHeartbeats 4000000 in
theorem s_X12_dataAt {ad : Nat → Nat} {U T : Mm} {q : Int32 × Mm}  (p1 : Int32) (h : f_X12_dataAt p1 T = some q) : Cr 1 yX12_dataAt cX12_dataAt 2 (some .int) [.ref (ad 133), .int p1] ad false U T eI q := by
  refine cr_of (by decide) (Nat.le_of_ble_eq_true rfl) fun x S0 hn9 C M => ?_
  have C : CB x RX12 cX12_dataAt := C
  refine Jr.eq (lv' := [(0, .ref (ad 133)), (1, .int p1)]) (st' := []) rfl rfl ?_
  unfold f_X12_dataAt at h
  refine r_aload_n C dX12_dataAt_0 rfl 0 rfl ?_
  refine r_getr (f := 1226) (c := 13) C flX12_272 dX12_dataAt_1 kq_133 (by decide) rfl h (fun j1 hj2 h => ?_)
  refine r_aload_n C dX12_dataAt_4 rfl 0 rfl ?_
  refine r_geti (f := 1227) C flX12_263 dX12_dataAt_5 kq_133 (by decide) (by decide) rfl ?_
  refine r_iload_n C dX12_dataAt_8 rfl 1 rfl ?_
  show Jr _ _ _ _ _ _ 9 _
  refine r_iadd C dX12_dataAt_9 rfl ?_
  refine r_bald (n := (LN j1)) C dX12_dataAt_10 hj2 rfl h (fun j3 hj4 h => ?_)
  refine r_sipush (v := 255) C dX12_dataAt_11 (by decide) ?_
  refine r_iand C dX12_dataAt_14 rfl ?_
  exact r_iret C M dX12_dataAt_15 h
theorem dX12_signedAt_0 : decode cX12_signedAt 0 = .ok (.aload_n 0, 1) := by decide +kernel
theorem dX12_signedAt_1 : decode cX12_signedAt 1 = .ok (.getfield 272, 3) := by decide +kernel
theorem dX12_signedAt_4 : decode cX12_signedAt 4 = .ok (.aload_n 0, 1) := by decide +kernel
theorem dX12_signedAt_5 : decode cX12_signedAt 5 = .ok (.getfield 263, 3) := by decide +kernel
theorem dX12_signedAt_8 : decode cX12_signedAt 8 = .ok (.iload_n 1, 1) := by decide +kernel
theorem dX12_signedAt_9 : decode cX12_signedAt 9 = .ok (.iadd, 1) := by decide +kernel
theorem dX12_signedAt_10 : decode cX12_signedAt 10 = .ok (.baload, 1) := by decide +kernel
theorem dX12_signedAt_11 : decode cX12_signedAt 11 = .ok (.ireturn, 1) := by decide +kernel
noncomputable def f_X12_signedAt (p1 : Int32) (T : Mm) : Option (Int32 × Mm) :=
  rf false (gR T 1226 133) 13 fun j1 =>
  ix ((gI T 1227 133) + p1) (LN j1) fun j3 =>
  some ((gA T j1 j3), T)
set_option maxRecDepth 100000 in
set_option maxHeartbeats 4000000 in
theorem s_X12_signedAt {ad : Nat → Nat} {U T : Mm} {q : Int32 × Mm}  (p1 : Int32) (h : f_X12_signedAt p1 T = some q) : Cr 1 yX12_signedAt cX12_signedAt 2 (some .int) [.ref (ad 133), .int p1] ad false U T eI q := by
  refine cr_of (by decide) (Nat.le_of_ble_eq_true rfl) fun x S0 hn9 C M => ?_
  have C : CB x RX12 cX12_signedAt := C
  refine Jr.eq (lv' := [(0, .ref (ad 133)), (1, .int p1)]) (st' := []) rfl rfl ?_
  unfold f_X12_signedAt at h
  refine r_aload_n C dX12_signedAt_0 rfl 0 rfl ?_
  refine r_getr (f := 1226) (c := 13) C flX12_272 dX12_signedAt_1 kq_133 (by decide) rfl h (fun j1 hj2 h => ?_)
  refine r_aload_n C dX12_signedAt_4 rfl 0 rfl ?_
  refine r_geti (f := 1227) C flX12_263 dX12_signedAt_5 kq_133 (by decide) (by decide) rfl ?_
  refine r_iload_n C dX12_signedAt_8 rfl 1 rfl ?_
  show Jr _ _ _ _ _ _ 9 _
  refine r_iadd C dX12_signedAt_9 rfl ?_
  refine r_bald (n := (LN j1)) C dX12_signedAt_10 hj2 rfl h (fun j3 hj4 h => ?_)
  exact r_iret C M dX12_signedAt_11 h
theorem dX12_fontData_0 : decode cX12_fontData 0 = .ok (.iload_n 1, 1) := by decide +kernel
theorem dX12_fontData_1 : decode cX12_fontData 1 = .ok (.bipush 9, 2) := by decide +kernel
theorem dX12_fontData_3 : decode cX12_fontData 3 = .ok (.if_icmp .ge 7, 3) := by decide +kernel
theorem dX12_fontData_6 : decode cX12_fontData 6 = .ok (.iconst 0, 1) := by decide +kernel
theorem dX12_fontData_7 : decode cX12_fontData 7 = .ok (.goto 18, 3) := by decide +kernel
theorem dX12_fontData_10 : decode cX12_fontData 10 = .ok (.aload_n 0, 1) := by decide +kernel
theorem dX12_fontData_11 : decode cX12_fontData 11 = .ok (.iconst 1, 1) := by decide +kernel
theorem dX12_fontData_12 : decode cX12_fontData 12 = .ok (.invokevirtual 484, 3) := by decide +kernel
theorem dX12_fontData_15 : decode cX12_fontData 15 = .ok (.sipush 256, 3) := by decide +kernel
theorem dX12_fontData_18 : decode cX12_fontData 18 = .ok (.imul, 1) := by decide +kernel
theorem dX12_fontData_19 : decode cX12_fontData 19 = .ok (.aload_n 0, 1) := by decide +kernel
theorem dX12_fontData_20 : decode cX12_fontData 20 = .ok (.iconst 2, 1) := by decide +kernel
theorem dX12_fontData_21 : decode cX12_fontData 21 = .ok (.invokevirtual 484, 3) := by decide +kernel
theorem dX12_fontData_24 : decode cX12_fontData 24 = .ok (.iadd, 1) := by decide +kernel
theorem dX12_fontData_25 : decode cX12_fontData 25 = .ok (.istore_n 2, 1) := by decide +kernel
theorem dX12_fontData_26 : decode cX12_fontData 26 = .ok (.iload_n 2, 1) := by decide +kernel
theorem dX12_fontData_27 : decode cX12_fontData 27 = .ok (.iconst 1, 1) := by decide +kernel
theorem dX12_fontData_28 : decode cX12_fontData 28 = .ok (.if_icmp .lt 10, 3) := by decide +kernel
theorem dX12_fontData_31 : decode cX12_fontData 31 = .ok (.iload_n 2, 1) := by decide +kernel
theorem dX12_fontData_32 : decode cX12_fontData 32 = .ok (.sipush 7200, 3) := by decide +kernel
theorem dX12_fontData_35 : decode cX12_fontData 35 = .ok (.if_icmp .le 4, 3) := by decide +kernel
theorem dX12_fontData_38 : decode cX12_fontData 38 = .ok (.return_, 1) := by decide +kernel
theorem dX12_fontData_39 : decode cX12_fontData 39 = .ok (.aload_n 0, 1) := by decide +kernel
theorem dX12_fontData_40 : decode cX12_fontData 40 = .ok (.getfield 9, 3) := by decide +kernel
theorem dX12_fontData_43 : decode cX12_fontData 43 = .ok (.sipush 142, 3) := by decide +kernel
theorem dX12_fontData_46 : decode cX12_fontData 46 = .ok (.iaload, 1) := by decide +kernel
theorem dX12_fontData_47 : decode cX12_fontData 47 = .ok (.istore_n 3, 1) := by decide +kernel
theorem dX12_fontData_48 : decode cX12_fontData 48 = .ok (.aload_n 0, 1) := by decide +kernel
theorem dX12_fontData_49 : decode cX12_fontData 49 = .ok (.iload_n 3, 1) := by decide +kernel
theorem dX12_fontData_50 : decode cX12_fontData 50 = .ok (.invokevirtual 254, 3) := by decide +kernel
theorem dX12_fontData_53 : decode cX12_fontData 53 = .ok (.aload_n 0, 1) := by decide +kernel
theorem dX12_fontData_54 : decode cX12_fontData 54 = .ok (.getfield 16, 3) := by decide +kernel
theorem dX12_fontData_57 : decode cX12_fontData 57 = .ok (.iload_n 3, 1) := by decide +kernel
theorem dX12_fontData_58 : decode cX12_fontData 58 = .ok (.iconst 1, 1) := by decide +kernel
theorem dX12_fontData_59 : decode cX12_fontData 59 = .ok (.bastore, 1) := by decide +kernel
theorem dX12_fontData_60 : decode cX12_fontData 60 = .ok (.aload_n 0, 1) := by decide +kernel
theorem dX12_fontData_61 : decode cX12_fontData 61 = .ok (.getfield 20, 3) := by decide +kernel
theorem dX12_fontData_64 : decode cX12_fontData 64 = .ok (.iload_n 3, 1) := by decide +kernel
theorem dX12_fontData_65 : decode cX12_fontData 65 = .ok (.iconst 1, 1) := by decide +kernel
theorem dX12_fontData_66 : decode cX12_fontData 66 = .ok (.bastore, 1) := by decide +kernel
theorem dX12_fontData_67 : decode cX12_fontData 67 = .ok (.aload_n 0, 1) := by decide +kernel
theorem dX12_fontData_68 : decode cX12_fontData 68 = .ok (.getfield 23, 3) := by decide +kernel
theorem dX12_fontData_71 : decode cX12_fontData 71 = .ok (.bipush 7, 2) := by decide +kernel
theorem dX12_fontData_73 : decode cX12_fontData 73 = .ok (.iload_n 3, 1) := by decide +kernel
theorem dX12_fontData_74 : decode cX12_fontData 74 = .ok (.imul, 1) := by decide +kernel
theorem dX12_fontData_75 : decode cX12_fontData 75 = .ok (.aload_n 0, 1) := by decide +kernel
theorem dX12_fontData_76 : decode cX12_fontData 76 = .ok (.iconst 0, 1) := by decide +kernel
theorem dX12_fontData_77 : decode cX12_fontData 77 = .ok (.invokevirtual 484, 3) := by decide +kernel
theorem dX12_fontData_80 : decode cX12_fontData 80 = .ok (.ifCond .ne 7, 3) := by decide +kernel
theorem dX12_fontData_83 : decode cX12_fontData 83 = .ok (.iconst 0, 1) := by decide +kernel
theorem dX12_fontData_84 : decode cX12_fontData 84 = .ok (.goto 4, 3) := by decide +kernel
theorem dX12_fontData_87 : decode cX12_fontData 87 = .ok (.iconst 1, 1) := by decide +kernel
theorem dX12_fontData_88 : decode cX12_fontData 88 = .ok (.iastore, 1) := by decide +kernel
theorem dX12_fontData_89 : decode cX12_fontData 89 = .ok (.aload_n 0, 1) := by decide +kernel
theorem dX12_fontData_90 : decode cX12_fontData 90 = .ok (.getfield 23, 3) := by decide +kernel
theorem dX12_fontData_93 : decode cX12_fontData 93 = .ok (.bipush 7, 2) := by decide +kernel
theorem dX12_fontData_95 : decode cX12_fontData 95 = .ok (.iload_n 3, 1) := by decide +kernel
theorem dX12_fontData_96 : decode cX12_fontData 96 = .ok (.imul, 1) := by decide +kernel
theorem dX12_fontData_97 : decode cX12_fontData 97 = .ok (.iconst 1, 1) := by decide +kernel
theorem dX12_fontData_98 : decode cX12_fontData 98 = .ok (.iadd, 1) := by decide +kernel
theorem dX12_fontData_99 : decode cX12_fontData 99 = .ok (.iload_n 2, 1) := by decide +kernel
theorem dX12_fontData_100 : decode cX12_fontData 100 = .ok (.iastore, 1) := by decide +kernel
theorem dX12_fontData_101 : decode cX12_fontData 101 = .ok (.aload_n 0, 1) := by decide +kernel
theorem dX12_fontData_102 : decode cX12_fontData 102 = .ok (.getfield 23, 3) := by decide +kernel
theorem dX12_fontData_105 : decode cX12_fontData 105 = .ok (.bipush 7, 2) := by decide +kernel
theorem dX12_fontData_107 : decode cX12_fontData 107 = .ok (.iload_n 3, 1) := by decide +kernel
theorem dX12_fontData_108 : decode cX12_fontData 108 = .ok (.imul, 1) := by decide +kernel
theorem dX12_fontData_109 : decode cX12_fontData 109 = .ok (.iconst 2, 1) := by decide +kernel
theorem dX12_fontData_110 : decode cX12_fontData 110 = .ok (.iadd, 1) := by decide +kernel
theorem dX12_fontData_111 : decode cX12_fontData 111 = .ok (.aload_n 0, 1) := by decide +kernel
theorem dX12_fontData_112 : decode cX12_fontData 112 = .ok (.iconst 3, 1) := by decide +kernel
theorem dX12_fontData_113 : decode cX12_fontData 113 = .ok (.invokevirtual 484, 3) := by decide +kernel
theorem dX12_fontData_116 : decode cX12_fontData 116 = .ok (.iastore, 1) := by decide +kernel
theorem dX12_fontData_117 : decode cX12_fontData 117 = .ok (.aload_n 0, 1) := by decide +kernel
theorem dX12_fontData_118 : decode cX12_fontData 118 = .ok (.getfield 23, 3) := by decide +kernel
theorem dX12_fontData_121 : decode cX12_fontData 121 = .ok (.bipush 7, 2) := by decide +kernel
theorem dX12_fontData_123 : decode cX12_fontData 123 = .ok (.iload_n 3, 1) := by decide +kernel
theorem dX12_fontData_124 : decode cX12_fontData 124 = .ok (.imul, 1) := by decide +kernel
theorem dX12_fontData_125 : decode cX12_fontData 125 = .ok (.iconst 3, 1) := by decide +kernel
theorem dX12_fontData_126 : decode cX12_fontData 126 = .ok (.iadd, 1) := by decide +kernel
theorem dX12_fontData_127 : decode cX12_fontData 127 = .ok (.aload_n 0, 1) := by decide +kernel
theorem dX12_fontData_128 : decode cX12_fontData 128 = .ok (.iconst 4, 1) := by decide +kernel
theorem dX12_fontData_129 : decode cX12_fontData 129 = .ok (.invokevirtual 484, 3) := by decide +kernel
theorem dX12_fontData_132 : decode cX12_fontData 132 = .ok (.iastore, 1) := by decide +kernel
theorem dX12_fontData_133 : decode cX12_fontData 133 = .ok (.aload_n 0, 1) := by decide +kernel
theorem dX12_fontData_134 : decode cX12_fontData 134 = .ok (.getfield 23, 3) := by decide +kernel
theorem dX12_fontData_137 : decode cX12_fontData 137 = .ok (.bipush 7, 2) := by decide +kernel
theorem dX12_fontData_139 : decode cX12_fontData 139 = .ok (.iload_n 3, 1) := by decide +kernel
theorem dX12_fontData_140 : decode cX12_fontData 140 = .ok (.imul, 1) := by decide +kernel
theorem dX12_fontData_141 : decode cX12_fontData 141 = .ok (.iconst 4, 1) := by decide +kernel
theorem dX12_fontData_142 : decode cX12_fontData 142 = .ok (.iadd, 1) := by decide +kernel
theorem dX12_fontData_143 : decode cX12_fontData 143 = .ok (.aload_n 0, 1) := by decide +kernel
theorem dX12_fontData_144 : decode cX12_fontData 144 = .ok (.iconst 5, 1) := by decide +kernel
theorem dX12_fontData_145 : decode cX12_fontData 145 = .ok (.invokevirtual 487, 3) := by decide +kernel
theorem dX12_fontData_148 : decode cX12_fontData 148 = .ok (.iastore, 1) := by decide +kernel
theorem dX12_fontData_149 : decode cX12_fontData 149 = .ok (.aload_n 0, 1) := by decide +kernel
theorem dX12_fontData_150 : decode cX12_fontData 150 = .ok (.getfield 23, 3) := by decide +kernel
theorem dX12_fontData_153 : decode cX12_fontData 153 = .ok (.bipush 7, 2) := by decide +kernel
theorem dX12_fontData_155 : decode cX12_fontData 155 = .ok (.iload_n 3, 1) := by decide +kernel
theorem dX12_fontData_156 : decode cX12_fontData 156 = .ok (.imul, 1) := by decide +kernel
theorem dX12_fontData_157 : decode cX12_fontData 157 = .ok (.iconst 5, 1) := by decide +kernel
theorem dX12_fontData_158 : decode cX12_fontData 158 = .ok (.iadd, 1) := by decide +kernel
theorem dX12_fontData_159 : decode cX12_fontData 159 = .ok (.aload_n 0, 1) := by decide +kernel
theorem dX12_fontData_160 : decode cX12_fontData 160 = .ok (.bipush 6, 2) := by decide +kernel
theorem dX12_fontData_162 : decode cX12_fontData 162 = .ok (.invokevirtual 484, 3) := by decide +kernel
theorem dX12_fontData_165 : decode cX12_fontData 165 = .ok (.iastore, 1) := by decide +kernel
theorem dX12_fontData_166 : decode cX12_fontData 166 = .ok (.aload_n 0, 1) := by decide +kernel
theorem dX12_fontData_167 : decode cX12_fontData 167 = .ok (.getfield 23, 3) := by decide +kernel
theorem dX12_fontData_170 : decode cX12_fontData 170 = .ok (.bipush 7, 2) := by decide +kernel
theorem dX12_fontData_172 : decode cX12_fontData 172 = .ok (.iload_n 3, 1) := by decide +kernel
theorem dX12_fontData_173 : decode cX12_fontData 173 = .ok (.imul, 1) := by decide +kernel
theorem dX12_fontData_174 : decode cX12_fontData 174 = .ok (.bipush 6, 2) := by decide +kernel
theorem dX12_fontData_176 : decode cX12_fontData 176 = .ok (.iadd, 1) := by decide +kernel
theorem dX12_fontData_177 : decode cX12_fontData 177 = .ok (.aload_n 0, 1) := by decide +kernel
theorem dX12_fontData_178 : decode cX12_fontData 178 = .ok (.bipush 7, 2) := by decide +kernel
theorem dX12_fontData_180 : decode cX12_fontData 180 = .ok (.invokevirtual 484, 3) := by decide +kernel
theorem dX12_fontData_183 : decode cX12_fontData 183 = .ok (.sipush 256, 3) := by decide +kernel
theorem dX12_fontData_186 : decode cX12_fontData 186 = .ok (.imul, 1) := by decide +kernel
theorem dX12_fontData_187 : decode cX12_fontData 187 = .ok (.aload_n 0, 1) := by decide +kernel
theorem dX12_fontData_188 : decode cX12_fontData 188 = .ok (.bipush 8, 2) := by decide +kernel
theorem dX12_fontData_190 : decode cX12_fontData 190 = .ok (.invokevirtual 484, 3) := by decide +kernel
theorem dX12_fontData_193 : decode cX12_fontData 193 = .ok (.iadd, 1) := by decide +kernel
theorem dX12_fontData_194 : decode cX12_fontData 194 = .ok (.iastore, 1) := by decide +kernel
theorem dX12_fontData_195 : decode cX12_fontData 195 = .ok (.return_, 1) := by decide +kernel
noncomputable def f_X12_fontData_88 (a2 : Int32) (a3 : Int32) (b0 : Int32) (b1 : Int32) (T : Mm) : Option (Unit × Mm) :=
  ix b1 119 fun j1 => lb (uA T 138 j1 (b0)) fun T3 =>
  ix (((7 : Int32) * a3) + 1) 119 fun j4 => lb (uA T3 138 j4 (a2)) fun T6 =>
  bd (f_X12_dataAt 3 T6) fun v7 T8 =>
  ix (((7 : Int32) * a3) + 2) 119 fun j9 => lb (uA T8 138 j9 (v7)) fun T11 =>
  bd (f_X12_dataAt 4 T11) fun v12 T13 =>
  ix (((7 : Int32) * a3) + 3) 119 fun j14 => lb (uA T13 138 j14 (v12)) fun T16 =>
  bd (f_X12_signedAt 5 T16) fun v17 T18 =>
  ix (((7 : Int32) * a3) + 4) 119 fun j19 => lb (uA T18 138 j19 (v17)) fun T21 =>
  bd (f_X12_dataAt 6 T21) fun v22 T23 =>
  ix (((7 : Int32) * a3) + 5) 119 fun j24 => lb (uA T23 138 j24 (v22)) fun T26 =>
  bd (f_X12_dataAt 7 T26) fun v27 T28 =>
  bd (f_X12_dataAt 8 T28) fun v29 T30 =>
  ix (((7 : Int32) * a3) + 6) 119 fun j31 => lb (uA T30 138 j31 (((v27 * 256) + v29))) fun T33 =>
  some ((), T33)
set_option maxRecDepth 100000 in
set_option maxHeartbeats 4000000 in
theorem s_X12_fontData_88 {x : JX} {ad : Nat → Nat} {U : Mm} {S0 : Hp} {q : Unit × Mm}  (hn9 : x_n x = 4) (C : CB x RX12 cX12_fontData) (M : CMr x 3 none S0 ad false U eV q) (a2 : Int32) (a3 : Int32) (b0 : Int32) (b1 : Int32) (T : Mm) (h : f_X12_fontData_88  a2 a3 b0 b1 T = some q) : Jr x ad false U T [(0, .ref (ad 133)), (2, .int a2), (3, .int a3)] 88 [.int b0, .int b1, .ref (ad 138)] := by
  unfold f_X12_fontData_88 at h
  refine r_iast (n := 119) C dX12_fontData_88 kq_138 lq_138 h (fun j1 T3 hj2 h => ?_)
  refine r_aload_n C dX12_fontData_89 rfl 0 rfl ?_
  refine r_getp (f := 1204) (j := 138) C flX12_23 dX12_fontData_90 kq_133 (by decide) rfl (fun W => pt_1204 kq_133 W) ?_
  refine r_bipush (v := 7) C dX12_fontData_93 (by decide) ?_
  refine r_iload_n C dX12_fontData_95 rfl 2 rfl ?_
  show Jr _ _ _ _ _ _ 96 _
  refine r_imul C dX12_fontData_96 rfl ?_
  refine r_iconst (v := 1) C dX12_fontData_97 (by decide) ?_
  refine r_iadd C dX12_fontData_98 rfl ?_
  refine r_iload_n C dX12_fontData_99 rfl 1 rfl ?_
  refine r_iast (n := 119) C dX12_fontData_100 kq_138 lq_138 h (fun j4 T6 hj5 h => ?_)
  refine r_aload_n C dX12_fontData_101 rfl 0 rfl ?_
  show Jr _ _ _ _ _ _ 102 _
  refine r_getp (f := 1204) (j := 138) C flX12_23 dX12_fontData_102 kq_133 (by decide) rfl (fun W => pt_1204 kq_133 W) ?_
  refine r_bipush (v := 7) C dX12_fontData_105 (by decide) ?_
  refine r_iload_n C dX12_fontData_107 rfl 2 rfl ?_
  refine r_imul C dX12_fontData_108 rfl ?_
  refine r_iconst (v := 2) C dX12_fontData_109 (by decide) ?_
  refine r_iadd C dX12_fontData_110 rfl ?_
  show Jr _ _ _ _ _ _ 111 _
  refine r_aload_n C dX12_fontData_111 rfl 0 rfl ?_
  refine r_iconst (v := 3) C dX12_fontData_112 (by decide) ?_
  refine r_callVI C M h [.int 3] [.int (((7 : Int32) * a3) + 2), .ref (ad 138)] mlX12_484 mcX12_dataAt (fun q9 e9 => s_X12_dataAt 3  e9) kq_133 rfl (by decide) (by decide) rfl rfl (Nat.le_of_ble_eq_true rfl) dX12_fontData_113 (fun v7 T8 h => ?_)
  refine r_iast (n := 119) C dX12_fontData_116 kq_138 lq_138 h (fun j9 T11 hj10 h => ?_)
  refine r_aload_n C dX12_fontData_117 rfl 0 rfl ?_
  refine r_getp (f := 1204) (j := 138) C flX12_23 dX12_fontData_118 kq_133 (by decide) rfl (fun W => pt_1204 kq_133 W) ?_
  show Jr _ _ _ _ _ _ 121 _
  refine r_bipush (v := 7) C dX12_fontData_121 (by decide) ?_
  refine r_iload_n C dX12_fontData_123 rfl 2 rfl ?_
  refine r_imul C dX12_fontData_124 rfl ?_
  refine r_iconst (v := 3) C dX12_fontData_125 (by decide) ?_
  refine r_iadd C dX12_fontData_126 rfl ?_
  refine r_aload_n C dX12_fontData_127 rfl 0 rfl ?_
  show Jr _ _ _ _ _ _ 128 _
  refine r_iconst (v := 4) C dX12_fontData_128 (by decide) ?_
  refine r_callVI C M h [.int 4] [.int (((7 : Int32) * a3) + 3), .ref (ad 138)] mlX12_484 mcX12_dataAt (fun q9 e9 => s_X12_dataAt 4  e9) kq_133 rfl (by decide) (by decide) rfl rfl (Nat.le_of_ble_eq_true rfl) dX12_fontData_129 (fun v12 T13 h => ?_)
  refine r_iast (n := 119) C dX12_fontData_132 kq_138 lq_138 h (fun j14 T16 hj15 h => ?_)
  refine r_aload_n C dX12_fontData_133 rfl 0 rfl ?_
  refine r_getp (f := 1204) (j := 138) C flX12_23 dX12_fontData_134 kq_133 (by decide) rfl (fun W => pt_1204 kq_133 W) ?_
  refine r_bipush (v := 7) C dX12_fontData_137 (by decide) ?_
  show Jr _ _ _ _ _ _ 139 _
  refine r_iload_n C dX12_fontData_139 rfl 2 rfl ?_
  refine r_imul C dX12_fontData_140 rfl ?_
  refine r_iconst (v := 4) C dX12_fontData_141 (by decide) ?_
  refine r_iadd C dX12_fontData_142 rfl ?_
  refine r_aload_n C dX12_fontData_143 rfl 0 rfl ?_
  refine r_iconst (v := 5) C dX12_fontData_144 (by decide) ?_
  show Jr _ _ _ _ _ _ 145 _
  refine r_callVI C M h [.int 5] [.int (((7 : Int32) * a3) + 4), .ref (ad 138)] mlX12_487 mcX12_signedAt (fun q9 e9 => s_X12_signedAt 5  e9) kq_133 rfl (by decide) (by decide) rfl rfl (Nat.le_of_ble_eq_true rfl) dX12_fontData_145 (fun v17 T18 h => ?_)
  refine r_iast (n := 119) C dX12_fontData_148 kq_138 lq_138 h (fun j19 T21 hj20 h => ?_)
  refine r_aload_n C dX12_fontData_149 rfl 0 rfl ?_
  refine r_getp (f := 1204) (j := 138) C flX12_23 dX12_fontData_150 kq_133 (by decide) rfl (fun W => pt_1204 kq_133 W) ?_
  refine r_bipush (v := 7) C dX12_fontData_153 (by decide) ?_
  refine r_iload_n C dX12_fontData_155 rfl 2 rfl ?_
  show Jr _ _ _ _ _ _ 156 _
  refine r_imul C dX12_fontData_156 rfl ?_
  refine r_iconst (v := 5) C dX12_fontData_157 (by decide) ?_
  refine r_iadd C dX12_fontData_158 rfl ?_
  refine r_aload_n C dX12_fontData_159 rfl 0 rfl ?_
  refine r_bipush (v := 6) C dX12_fontData_160 (by decide) ?_
  refine r_callVI C M h [.int 6] [.int (((7 : Int32) * a3) + 5), .ref (ad 138)] mlX12_484 mcX12_dataAt (fun q9 e9 => s_X12_dataAt 6  e9) kq_133 rfl (by decide) (by decide) rfl rfl (Nat.le_of_ble_eq_true rfl) dX12_fontData_162 (fun v22 T23 h => ?_)
  show Jr _ _ _ _ _ _ 165 _
  refine r_iast (n := 119) C dX12_fontData_165 kq_138 lq_138 h (fun j24 T26 hj25 h => ?_)
  refine r_aload_n C dX12_fontData_166 rfl 0 rfl ?_
  refine r_getp (f := 1204) (j := 138) C flX12_23 dX12_fontData_167 kq_133 (by decide) rfl (fun W => pt_1204 kq_133 W) ?_
  refine r_bipush (v := 7) C dX12_fontData_170 (by decide) ?_
  refine r_iload_n C dX12_fontData_172 rfl 2 rfl ?_
  refine r_imul C dX12_fontData_173 rfl ?_
  show Jr _ _ _ _ _ _ 174 _
  refine r_bipush (v := 6) C dX12_fontData_174 (by decide) ?_
  refine r_iadd C dX12_fontData_176 rfl ?_
  refine r_aload_n C dX12_fontData_177 rfl 0 rfl ?_
  refine r_bipush (v := 7) C dX12_fontData_178 (by decide) ?_
  refine r_callVI C M h [.int 7] [.int (((7 : Int32) * a3) + 6), .ref (ad 138)] mlX12_484 mcX12_dataAt (fun q9 e9 => s_X12_dataAt 7  e9) kq_133 rfl (by decide) (by decide) rfl rfl (Nat.le_of_ble_eq_true rfl) dX12_fontData_180 (fun v27 T28 h => ?_)
  refine r_sipush (v := 256) C dX12_fontData_183 (by decide) ?_
  show Jr _ _ _ _ _ _ 186 _
  refine r_imul C dX12_fontData_186 rfl ?_
  refine r_aload_n C dX12_fontData_187 rfl 0 rfl ?_
  refine r_bipush (v := 8) C dX12_fontData_188 (by decide) ?_
  refine r_callVI C M h [.int 8] [.int (v27 * 256), .int (((7 : Int32) * a3) + 6), .ref (ad 138)] mlX12_484 mcX12_dataAt (fun q9 e9 => s_X12_dataAt 8  e9) kq_133 rfl (by decide) (by decide) rfl rfl (Nat.le_of_ble_eq_true rfl) dX12_fontData_190 (fun v29 T30 h => ?_)
  refine r_iadd C dX12_fontData_193 rfl ?_
  refine r_iast (n := 119) C dX12_fontData_194 kq_138 lq_138 h (fun j31 T33 hj32 h => ?_)
  show Jr _ _ _ _ _ _ 195 _
  exact r_vret C M dX12_fontData_195 h
noncomputable def f_X12_fontData_25 (b0 : Int32) (T : Mm) : Option (Unit × Mm) :=
  if b0 < 1 then (some ((), T))
  else (if b0 ≤ 7200 then (lb ((gA T 134 142)) fun v1 =>
  bd (f_X12_fontGoes v1 T) fun _ T2 =>
  ix v1 17 fun j3 => lb (uA T2 136 j3 (1)) fun T5 =>
  ix v1 17 fun j6 => lb (uA T5 137 j6 (1)) fun T8 =>
  bd (f_X12_dataAt 0 T8) fun v9 T10 =>
  if v9 = 0 then (f_X12_fontData_88 b0 v1 0 ((7 : Int32) * v1) T10)
  else (f_X12_fontData_88 b0 v1 1 ((7 : Int32) * v1) T10))
  else (some ((), T)))
set_option maxRecDepth 100000 in
set_option maxHeartbeats 4000000 in
theorem s_X12_fontData_25 {x : JX} {ad : Nat → Nat} {U : Mm} {S0 : Hp} {q : Unit × Mm}  (hn9 : x_n x = 4) (C : CB x RX12 cX12_fontData) (M : CMr x 3 none S0 ad false U eV q) (b0 : Int32) (T : Mm) (h : f_X12_fontData_25  b0 T = some q) : Jr x ad false U T [(0, .ref (ad 133))] 25 [.int b0] := by
  unfold f_X12_fontData_25 at h
  refine r_istore_n (lv' := [(2, .int b0), (0, .ref (ad 133))]) C dX12_fontData_25 rfl (by rw [hn9]; decide) rfl ?_
  refine r_iload_n C dX12_fontData_26 rfl 0 rfl ?_
  refine r_iconst (v := 1) C dX12_fontData_27 (by decide) ?_
  refine r_ic_lt (tgt := 38) C dX12_fontData_28 (by decide) h (fun h => ?_) (fun h => ?_)
  · exact r_vret C M dX12_fontData_38 h
  · refine r_iload_n C dX12_fontData_31 rfl 0 rfl ?_
    refine r_sipush (v := 7200) C dX12_fontData_32 (by decide) ?_
    refine r_ic_le (tgt := 39) C dX12_fontData_35 (by decide) h (fun h => ?_) (fun h => ?_)
    · refine r_aload_n C dX12_fontData_39 rfl 1 rfl ?_
      refine r_getp (f := 1200) (j := 134) C flX12_9 dX12_fontData_40 kq_133 (by decide) rfl (fun W => pt_1200 kq_133 W) ?_
      refine r_sipush (v := 142) C dX12_fontData_43 (by decide) ?_
      refine r_ialdc (n := 192) C 142 dX12_fontData_46 kq_134 lq_134 (vp_lit (by decide)) (by decide) ?_
      refine r_lbI h (fun v1 h => ?_)
      refine r_istore_n (lv' := [(3, .int v1), (2, .int b0), (0, .ref (ad 133))]) C dX12_fontData_47 rfl (by rw [hn9]; decide) rfl ?_
      show Jr _ _ _ _ _ _ 48 _
      refine r_aload_n C dX12_fontData_48 rfl 2 rfl ?_
      refine r_iload_n C dX12_fontData_49 rfl 0 rfl ?_
      refine r_callVN C M h [.int v1] [] mlX12_254 mcX12_fontGoes (fun q9 e9 => s_X12_fontGoes v1  e9) kq_133 rfl (by decide) (by decide) rfl rfl (Nat.le_of_ble_eq_true rfl) dX12_fontData_50 (fun _ T2 h => ?_)
      refine r_aload_n C dX12_fontData_53 rfl 2 rfl ?_
      refine r_getp (f := 1202) (j := 136) C flX12_16 dX12_fontData_54 kq_133 (by decide) rfl (fun W => pt_1202 kq_133 W) ?_
      refine r_iload_n C dX12_fontData_57 rfl 0 rfl ?_
      show Jr _ _ _ _ _ _ 58 _
      refine r_iconst (v := 1) C dX12_fontData_58 (by decide) ?_
      refine r_zast (n := 17) C dX12_fontData_59 kq_136 lq_136 (by decide) h (fun j3 T5 hj4 h => ?_)
      refine r_aload_n C dX12_fontData_60 rfl 2 rfl ?_
      refine r_getp (f := 1203) (j := 137) C flX12_20 dX12_fontData_61 kq_133 (by decide) rfl (fun W => pt_1203 kq_133 W) ?_
      refine r_iload_n C dX12_fontData_64 rfl 0 rfl ?_
      refine r_iconst (v := 1) C dX12_fontData_65 (by decide) ?_
      show Jr _ _ _ _ _ _ 66 _
      refine r_zast (n := 17) C dX12_fontData_66 kq_137 lq_137 (by decide) h (fun j6 T8 hj7 h => ?_)
      refine r_aload_n C dX12_fontData_67 rfl 2 rfl ?_
      refine r_getp (f := 1204) (j := 138) C flX12_23 dX12_fontData_68 kq_133 (by decide) rfl (fun W => pt_1204 kq_133 W) ?_
      refine r_bipush (v := 7) C dX12_fontData_71 (by decide) ?_
      refine r_iload_n C dX12_fontData_73 rfl 0 rfl ?_
      refine r_imul C dX12_fontData_74 rfl ?_
      show Jr _ _ _ _ _ _ 75 _
      refine r_aload_n C dX12_fontData_75 rfl 2 rfl ?_
      refine r_iconst (v := 0) C dX12_fontData_76 (by decide) ?_
      refine r_callVI C M h [.int 0] [.int ((7 : Int32) * v1), .ref (ad 138)] mlX12_484 mcX12_dataAt (fun q9 e9 => s_X12_dataAt 0  e9) kq_133 rfl (by decide) (by decide) rfl rfl (Nat.le_of_ble_eq_true rfl) dX12_fontData_77 (fun v9 T10 h => ?_)
      refine r_if_ne (tgt := 87) C dX12_fontData_80 (by decide) h (fun h => ?_) (fun h => ?_)
      · refine r_iconst (v := 1) C dX12_fontData_87 (by decide) ?_
        refine Jr.sub [2, 1, 0] (lv' := [(0, .ref (ad 133)), (2, .int b0), (3, .int v1)]) rfl ?_
        exact s_X12_fontData_88 hn9 C M  b0 v1 1 ((7 : Int32) * v1) T10 h
      · refine r_iconst (v := 0) C dX12_fontData_83 (by decide) ?_
        refine r_goto (tgt := 88) C dX12_fontData_84 (by decide) ?_
        refine Jr.sub [2, 1, 0] (lv' := [(0, .ref (ad 133)), (2, .int b0), (3, .int v1)]) rfl ?_
        exact s_X12_fontData_88 hn9 C M  b0 v1 0 ((7 : Int32) * v1) T10 h
    · exact r_vret C M dX12_fontData_38 h
noncomputable def f_X12_fontData (p1 : Int32) (T : Mm) : Option (Unit × Mm) :=
  if 9 ≤ p1 then (bd (f_X12_dataAt 1 T) fun v1 T2 =>
  bd (f_X12_dataAt 2 T2) fun v3 T4 =>
  f_X12_fontData_25 ((v1 * 256) + v3) T4)
  else (f_X12_fontData_25 0 T)
set_option maxRecDepth 100000 in
set_option maxHeartbeats 4000000 in
theorem s_X12_fontData {ad : Nat → Nat} {U T : Mm} {q : Unit × Mm}  (p1 : Int32) (h : f_X12_fontData p1 T = some q) : Cr 3 yX12_fontData cX12_fontData 4 none [.ref (ad 133), .int p1] ad false U T eV q := by
  refine cr_of (by decide) (Nat.le_of_ble_eq_true rfl) fun x S0 hn9 C M => ?_
  have C : CB x RX12 cX12_fontData := C
  refine Jr.eq (lv' := [(0, .ref (ad 133)), (1, .int p1)]) (st' := []) rfl rfl ?_
  unfold f_X12_fontData at h
  refine r_iload_n C dX12_fontData_0 rfl 1 rfl ?_
  refine r_bipush (v := 9) C dX12_fontData_1 (by decide) ?_
  refine r_ic_ge (tgt := 10) C dX12_fontData_3 (by decide) h (fun h => ?_) (fun h => ?_)
  · refine r_aload_n C dX12_fontData_10 rfl 0 rfl ?_
    refine r_iconst (v := 1) C dX12_fontData_11 (by decide) ?_
    refine r_callVI C M h [.int 1] [] mlX12_484 mcX12_dataAt (fun q9 e9 => s_X12_dataAt 1  e9) kq_133 rfl (by decide) (by decide) rfl rfl (Nat.le_of_ble_eq_true rfl) dX12_fontData_12 (fun v1 T2 h => ?_)
    refine r_sipush (v := 256) C dX12_fontData_15 (by decide) ?_
    refine r_imul C dX12_fontData_18 rfl ?_
    show Jr _ _ _ _ _ _ 19 _
    refine r_aload_n C dX12_fontData_19 rfl 0 rfl ?_
    refine r_iconst (v := 2) C dX12_fontData_20 (by decide) ?_
    refine r_callVI C M h [.int 2] [.int (v1 * 256)] mlX12_484 mcX12_dataAt (fun q9 e9 => s_X12_dataAt 2  e9) kq_133 rfl (by decide) (by decide) rfl rfl (Nat.le_of_ble_eq_true rfl) dX12_fontData_21 (fun v3 T4 h => ?_)
    refine r_iadd C dX12_fontData_24 rfl ?_
    refine Jr.sub [0] (lv' := [(0, .ref (ad 133))]) rfl ?_
    exact s_X12_fontData_25 hn9 C M  ((v1 * 256) + v3) T4 h
  · refine r_iconst (v := 0) C dX12_fontData_6 (by decide) ?_
    refine r_goto (tgt := 25) C dX12_fontData_7 (by decide) ?_
    refine Jr.sub [0] (lv' := [(0, .ref (ad 133))]) rfl ?_
    exact s_X12_fontData_25 hn9 C M  0 T h
