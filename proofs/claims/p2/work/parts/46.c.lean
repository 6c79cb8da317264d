theorem dX9_showAll_0 : decode cX9_showAll 0 = .ok (.aload_n 0, 1) := by decide +kernel
theorem dX9_showAll_1 : decode cX9_showAll 1 = .ok (.getfield 82, 3) := by decide +kernel
theorem dX9_showAll_4 : decode cX9_showAll 4 = .ok (.astore_n 1, 1) := by decide +kernel
theorem dX9_showAll_5 : decode cX9_showAll 5 = .ok (.iconst 0, 1) := by decide +kernel
theorem dX9_showAll_6 : decode cX9_showAll 6 = .ok (.istore_n 2, 1) := by decide +kernel
theorem dX9_showAll_7 : decode cX9_showAll 7 = .ok (.iconst 0, 1) := by decide +kernel
theorem dX9_showAll_8 : decode cX9_showAll 8 = .ok (.istore_n 3, 1) := by decide +kernel
theorem dX9_showAll_9 : decode cX9_showAll 9 = .ok (.iload_n 3, 1) := by decide +kernel
theorem dX9_showAll_10 : decode cX9_showAll 10 = .ok (.ldc 210, 2) := by decide +kernel
theorem dX9_showAll_12 : decode cX9_showAll 12 = .ok (.if_icmp .ge 113, 3) := by decide +kernel
theorem dX9_showAll_15 : decode cX9_showAll 15 = .ok (.iload_n 2, 1) := by decide +kernel
theorem dX9_showAll_16 : decode cX9_showAll 16 = .ok (.ifCond .ne 109, 3) := by decide +kernel
theorem dX9_showAll_19 : decode cX9_showAll 19 = .ok (.aload_n 1, 1) := by decide +kernel
theorem dX9_showAll_20 : decode cX9_showAll 20 = .ok (.invokevirtual 211, 3) := by decide +kernel
theorem dX9_showAll_23 : decode cX9_showAll 23 = .ok (.ifCond .eq 102, 3) := by decide +kernel
theorem dX9_showAll_26 : decode cX9_showAll 26 = .ok (.aload_n 0, 1) := by decide +kernel
theorem dX9_showAll_27 : decode cX9_showAll 27 = .ok (.invokevirtual 118, 3) := by decide +kernel
theorem dX9_showAll_30 : decode cX9_showAll 30 = .ok (.ifCond .ne 95, 3) := by decide +kernel
theorem dX9_showAll_33 : decode cX9_showAll 33 = .ok (.aload_n 1, 1) := by decide +kernel
theorem dX9_showAll_34 : decode cX9_showAll 34 = .ok (.invokevirtual 214, 3) := by decide +kernel
theorem dX9_showAll_37 : decode cX9_showAll 37 = .ok (.istore 4, 2) := by decide +kernel
theorem dX9_showAll_39 : decode cX9_showAll 39 = .ok (.iload 4, 2) := by decide +kernel
theorem dX9_showAll_41 : decode cX9_showAll 41 = .ok (.bipush 27, 2) := by decide +kernel
theorem dX9_showAll_43 : decode cX9_showAll 43 = .ok (.if_icmp .ne 22, 3) := by decide +kernel
theorem dX9_showAll_46 : decode cX9_showAll 46 = .ok (.aload_n 1, 1) := by decide +kernel
theorem dX9_showAll_47 : decode cX9_showAll 47 = .ok (.aload_n 1, 1) := by decide +kernel
theorem dX9_showAll_48 : decode cX9_showAll 48 = .ok (.getfield 201, 3) := by decide +kernel
theorem dX9_showAll_51 : decode cX9_showAll 51 = .ok (.iconst 1, 1) := by decide +kernel
theorem dX9_showAll_52 : decode cX9_showAll 52 = .ok (.iadd, 1) := by decide +kernel
theorem dX9_showAll_53 : decode cX9_showAll 53 = .ok (.invokevirtual 311, 3) := by decide +kernel
theorem dX9_showAll_56 : decode cX9_showAll 56 = .ok (.bipush 90, 2) := by decide +kernel
theorem dX9_showAll_58 : decode cX9_showAll 58 = .ok (.if_icmp .ne 7, 3) := by decide +kernel
theorem dX9_showAll_61 : decode cX9_showAll 61 = .ok (.iconst 1, 1) := by decide +kernel
theorem dX9_showAll_62 : decode cX9_showAll 62 = .ok (.goto 4, 3) := by decide +kernel
theorem dX9_showAll_65 : decode cX9_showAll 65 = .ok (.iconst 0, 1) := by decide +kernel
theorem dX9_showAll_66 : decode cX9_showAll 66 = .ok (.istore_n 2, 1) := by decide +kernel
theorem dX9_showAll_67 : decode cX9_showAll 67 = .ok (.iload_n 2, 1) := by decide +kernel
theorem dX9_showAll_68 : decode cX9_showAll 68 = .ok (.ifCond .eq 12, 3) := by decide +kernel
theorem dX9_showAll_71 : decode cX9_showAll 71 = .ok (.aload_n 0, 1) := by decide +kernel
theorem dX9_showAll_72 : decode cX9_showAll 72 = .ok (.iconst 2, 1) := by decide +kernel
theorem dX9_showAll_73 : decode cX9_showAll 73 = .ok (.invokevirtual 315, 3) := by decide +kernel
theorem dX9_showAll_76 : decode cX9_showAll 76 = .ok (.pop, 1) := by decide +kernel
theorem dX9_showAll_77 : decode cX9_showAll 77 = .ok (.goto 42, 3) := by decide +kernel
theorem dX9_showAll_80 : decode cX9_showAll 80 = .ok (.aload_n 0, 1) := by decide +kernel
theorem dX9_showAll_81 : decode cX9_showAll 81 = .ok (.iconst 1, 1) := by decide +kernel
theorem dX9_showAll_82 : decode cX9_showAll 82 = .ok (.invokevirtual 204, 3) := by decide +kernel
theorem dX9_showAll_85 : decode cX9_showAll 85 = .ok (.ifCond .eq 34, 3) := by decide +kernel
theorem dX9_showAll_88 : decode cX9_showAll 88 = .ok (.iload 4, 2) := by decide +kernel
theorem dX9_showAll_90 : decode cX9_showAll 90 = .ok (.bipush 13, 2) := by decide +kernel
theorem dX9_showAll_92 : decode cX9_showAll 92 = .ok (.if_icmp .ne 21, 3) := by decide +kernel
theorem dX9_showAll_95 : decode cX9_showAll 95 = .ok (.aload_n 0, 1) := by decide +kernel
theorem dX9_showAll_96 : decode cX9_showAll 96 = .ok (.invokevirtual 262, 3) := by decide +kernel
theorem dX9_showAll_99 : decode cX9_showAll 99 = .ok (.aload_n 0, 1) := by decide +kernel
theorem dX9_showAll_100 : decode cX9_showAll 100 = .ok (.aload_n 0, 1) := by decide +kernel
theorem dX9_showAll_101 : decode cX9_showAll 101 = .ok (.getfield 57, 3) := by decide +kernel
theorem dX9_showAll_104 : decode cX9_showAll 104 = .ok (.getfield 129, 3) := by decide +kernel
theorem dX9_showAll_107 : decode cX9_showAll 107 = .ok (.getfield 144, 3) := by decide +kernel
theorem dX9_showAll_110 : decode cX9_showAll 110 = .ok (.invokevirtual 253, 3) := by decide +kernel
theorem dX9_showAll_113 : decode cX9_showAll 113 = .ok (.aload_n 0, 1) := by decide +kernel
theorem dX9_showAll_114 : decode cX9_showAll 114 = .ok (.iload 4, 2) := by decide +kernel
theorem dX9_showAll_116 : decode cX9_showAll 116 = .ok (.invokevirtual 277, 3) := by decide +kernel
theorem dX9_showAll_119 : decode cX9_showAll 119 = .ok (.iinc 3 1, 3) := by decide +kernel
theorem dX9_showAll_122 : decode cX9_showAll 122 = .ok (.goto (-113), 3) := by decide +kernel
theorem dX9_showAll_125 : decode cX9_showAll 125 = .ok (.return_, 1) := by decide +kernel
noncomputable def f_X9_showAll_66 (G : Int32 → Mm → Option (Unit × Mm)) (k9 : Nat → Int32 → Int32 → Mm → Option (Unit × Mm)) (a1 : Nat) (a3 : Int32) (a4 : Int32) (b0 : Int32) (T : Mm) : Option (Unit × Mm) :=
  if b0 = 0 then (bd (f_X9_pass 1 T) fun v1 T2 =>
  if v1 = 0 then (k9 a1 b0 (a3 + 1) T2)
  else (if a4 = 13 then (bd (f_X9_carriageReturn T2) fun _ T4 =>
  bd (f_X9_line G (gI T4 708 46) T4) fun _ T5 =>
  bd (f_X9_show G a4 T5) fun _ T6 =>
  k9 a1 b0 (a3 + 1) T6)
  else (bd (f_X9_show G a4 T2) fun _ T3 =>
  k9 a1 b0 (a3 + 1) T3)))
  else (bd (f_X9_passEach 2 T) fun v7 T8 =>
  k9 a1 b0 (a3 + 1) T8)
set_option maxRecDepth 100000 in
set_option maxHeartbeats 4000000 in
theorem s_X9_showAll_66 {x : JX} {ad : Nat → Nat} {U : Mm} {S0 : Hp} {q : Unit × Mm} {D : Nat} {G : Int32 → Mm → Option (Unit × Mm)}  {k9 : Nat → Int32 → Int32 → Mm → Option (Unit × Mm)} (hn9 : x_n x = 5) (C : CB x RX9 cX9_showAll) (M : CMr x (D + 5) none S0 ad true U eV q) (hD : 40 ≤ D) (hG : ∀ (i : Int32) (T : Mm) (q : Unit × Mm), G i T = some q → Cr D yX9_goMacro cX9_goMacro 3 none [.ref (ad 23), .int i] ad true U T eV q) (hk9 : ∀ (a1 : Nat) (a2 : Int32) (a3 : Int32) (T : Mm) (_ : kS true a1 = 5), k9 a1 a2 a3 T = some q → Jr x ad true U T [(0, .ref (ad 23)), (1, .ref (ad a1)), (2, .int a2), (3, .int a3)] 9 []) (a1 : Nat) (a3 : Int32) (a4 : Int32) (b0 : Int32) (T : Mm) (ha1 : kS true a1 = 5) (h : f_X9_showAll_66 G k9 a1 a3 a4 b0 T = some q) : Jr x ad true U T [(0, .ref (ad 23)), (1, .ref (ad a1)), (3, .int a3), (4, .int a4)] 66 [.int b0] := by
  unfold f_X9_showAll_66 at h
  refine r_istore_n (lv' := [(2, .int b0), (0, .ref (ad 23)), (1, .ref (ad a1)), (3, .int a3), (4, .int a4)]) C dX9_showAll_66 rfl (by rw [hn9]; decide) rfl ?_
  refine r_iload_n C dX9_showAll_67 rfl 0 rfl ?_
  refine r_if_eq (tgt := 80) C dX9_showAll_68 (by decide) h (fun h => ?_) (fun h => ?_)
  · refine r_aload_n C dX9_showAll_80 rfl 1 rfl ?_
    refine r_iconst (v := 1) C dX9_showAll_81 (by decide) ?_
    refine r_callVI C M h [.int 1] [] mlX9_204 mcX9_pass (fun q9 e9 => s_X9_pass 1  e9) kq_23 rfl (by omega) (by decide) rfl rfl (Nat.le_of_ble_eq_true rfl) dX9_showAll_82 (fun v1 T2 h => ?_)
    refine r_if_eq (tgt := 119) C dX9_showAll_85 (by decide) h (fun h => ?_) (fun h => ?_)
    · refine r_iinc (q := 3) (v := (a3 + 1)) (lv' := [(3, .int (a3 + 1)), (2, .int b0), (0, .ref (ad 23)), (1, .ref (ad a1)), (4, .int a4)]) C dX9_showAll_119 rfl (by rw [show Int32.ofInt (1) = 1 by decide]) (by rw [hn9]; decide) rfl ?_
      refine r_goto (tgt := 9) C dX9_showAll_122 (by decide) ?_
      refine Jr.sub [2, 3, 1, 0] (lv' := [(0, .ref (ad 23)), (1, .ref (ad a1)), (2, .int b0), (3, .int (a3 + 1))]) rfl ?_
      exact hk9 a1 b0 (a3 + 1) T2 ha1 h
    · refine r_iload C dX9_showAll_88 4 rfl ?_
      refine r_bipush (v := 13) C dX9_showAll_90 (by decide) ?_
      refine r_ic_ne (tgt := 113) C dX9_showAll_92 (by decide) h (fun h => ?_) (fun h => ?_)
      · refine r_aload_n C dX9_showAll_113 rfl 1 rfl ?_
        refine r_iload C dX9_showAll_114 4 rfl ?_
        refine r_callVN C M h [.int a4] [] mlX9_277 mcX9_show (fun q9 e9 => s_X9_show hD (fun i9 T9 q9 e9 => hG i9 T9 q9 e9) a4  e9) kq_23 rfl (by omega) (by decide) rfl rfl (Nat.le_of_ble_eq_true rfl) dX9_showAll_116 (fun _ T3 h => ?_)
        refine r_iinc (q := 3) (v := (a3 + 1)) (lv' := [(3, .int (a3 + 1)), (2, .int b0), (0, .ref (ad 23)), (1, .ref (ad a1)), (4, .int a4)]) C dX9_showAll_119 rfl (by rw [show Int32.ofInt (1) = 1 by decide]) (by rw [hn9]; decide) rfl ?_
        refine r_goto (tgt := 9) C dX9_showAll_122 (by decide) ?_
        refine Jr.sub [2, 3, 1, 0] (lv' := [(0, .ref (ad 23)), (1, .ref (ad a1)), (2, .int b0), (3, .int (a3 + 1))]) rfl ?_
        exact hk9 a1 b0 (a3 + 1) T3 ha1 h
      · refine r_aload_n C dX9_showAll_95 rfl 1 rfl ?_
        refine r_callVN C M h [] [] mlX9_262 mcX9_carriageReturn (fun q9 e9 => s_X9_carriageReturn   e9) kq_23 rfl (by omega) (by decide) rfl rfl (Nat.le_of_ble_eq_true rfl) dX9_showAll_96 (fun _ T4 h => ?_)
        refine r_aload_n C dX9_showAll_99 rfl 1 rfl ?_
        refine r_aload_n C dX9_showAll_100 rfl 1 rfl ?_
        refine r_getp (f := 909) (j := 45) C flX9_57 dX9_showAll_101 kq_23 (by decide) rfl (fun W => pt_909 kq_23 W) ?_
        show Jr _ _ _ _ _ _ 104 _
        refine r_getp (f := 100) (j := 46) C flX9_129 dX9_showAll_104 kq_45 (by decide) rfl (fun W => pt_100 kq_45 W) ?_
        refine r_geti (f := 708) C flX9_144 dX9_showAll_107 kq_46 (by decide) (by decide) rfl ?_
        refine r_callVN C M h [.int (gI T4 708 46)] [] mlX9_253 mcX9_line (fun q9 e9 => s_X9_line hD (fun i9 T9 q9 e9 => hG i9 T9 q9 e9) (gI T4 708 46)  e9) kq_23 rfl (by omega) (by decide) rfl rfl (Nat.le_of_ble_eq_true rfl) dX9_showAll_110 (fun _ T5 h => ?_)
        refine r_aload_n C dX9_showAll_113 rfl 1 rfl ?_
        refine r_iload C dX9_showAll_114 4 rfl ?_
        refine r_callVN C M h [.int a4] [] mlX9_277 mcX9_show (fun q9 e9 => s_X9_show hD (fun i9 T9 q9 e9 => hG i9 T9 q9 e9) a4  e9) kq_23 rfl (by omega) (by decide) rfl rfl (Nat.le_of_ble_eq_true rfl) dX9_showAll_116 (fun _ T6 h => ?_)
        show Jr _ _ _ _ _ _ 119 _
        refine r_iinc (q := 3) (v := (a3 + 1)) (lv' := [(3, .int (a3 + 1)), (2, .int b0), (0, .ref (ad 23)), (1, .ref (ad a1)), (4, .int a4)]) C dX9_showAll_119 rfl (by rw [show Int32.ofInt (1) = 1 by decide]) (by rw [hn9]; decide) rfl ?_
        refine r_goto (tgt := 9) C dX9_showAll_122 (by decide) ?_
        refine Jr.sub [2, 3, 1, 0] (lv' := [(0, .ref (ad 23)), (1, .ref (ad a1)), (2, .int b0), (3, .int (a3 + 1))]) rfl ?_
        exact hk9 a1 b0 (a3 + 1) T6 ha1 h
  · refine r_aload_n C dX9_showAll_71 rfl 1 rfl ?_
    refine r_iconst (v := 2) C dX9_showAll_72 (by decide) ?_
    refine r_callVI C M h [.int 2] [] mlX9_315 mcX9_passEach (fun q9 e9 => s_X9_passEach 2  e9) kq_23 rfl (by omega) (by decide) rfl rfl (Nat.le_of_ble_eq_true rfl) dX9_showAll_73 (fun v7 T8 h => ?_)
    refine r_pop C dX9_showAll_76 rfl ?_
    refine r_goto (tgt := 119) C dX9_showAll_77 (by decide) ?_
    show Jr _ _ _ _ _ _ 119 _
    refine r_iinc (q := 3) (v := (a3 + 1)) (lv' := [(3, .int (a3 + 1)), (2, .int b0), (0, .ref (ad 23)), (1, .ref (ad a1)), (4, .int a4)]) C dX9_showAll_119 rfl (by rw [show Int32.ofInt (1) = 1 by decide]) (by rw [hn9]; decide) rfl ?_
    refine r_goto (tgt := 9) C dX9_showAll_122 (by decide) ?_
    refine Jr.sub [2, 3, 1, 0] (lv' := [(0, .ref (ad 23)), (1, .ref (ad a1)), (2, .int b0), (3, .int (a3 + 1))]) rfl ?_
    exact hk9 a1 b0 (a3 + 1) T8 ha1 h
noncomputable def f_X9_showAll_b9 (G : Int32 → Mm → Option (Unit × Mm)) (k9 : Nat → Int32 → Int32 → Mm → Option (Unit × Mm)) (a1 : Nat) (a2 : Int32) (a3 : Int32) (T : Mm) : Option (Unit × Mm) :=
  if 1000000 ≤ a3 then (some ((), T))
  else (if a2 = 0 then (bd (f_X5_hasMore a1 T) fun v1 T2 =>
  if v1 = 0 then (some ((), T2))
  else (bd (f_X9_isMuch T2) fun v3 T4 =>
  if v3 = 0 then (bd (f_X5_next a1 T4) fun v5 T6 =>
  if v5 = 27 then (bd (f_X5_byteAt a1 ((gI T6 501 a1) + 1) T6) fun v7 T8 =>
  if v7 = 90 then (f_X9_showAll_66 G k9 a1 a3 v5 1 T8)
  else (f_X9_showAll_66 G k9 a1 a3 v5 0 T8))
  else (f_X9_showAll_66 G k9 a1 a3 v5 0 T6))
  else (some ((), T4))))
  else (some ((), T)))
set_option maxRecDepth 100000 in
set_option maxHeartbeats 4000000 in
theorem s_X9_showAll_b9 {x : JX} {ad : Nat → Nat} {U : Mm} {S0 : Hp} {q : Unit × Mm} {D : Nat} {G : Int32 → Mm → Option (Unit × Mm)}  {k9 : Nat → Int32 → Int32 → Mm → Option (Unit × Mm)} (hn9 : x_n x = 5) (C : CB x RX9 cX9_showAll) (M : CMr x (D + 5) none S0 ad true U eV q) (hD : 40 ≤ D) (hG : ∀ (i : Int32) (T : Mm) (q : Unit × Mm), G i T = some q → Cr D yX9_goMacro cX9_goMacro 3 none [.ref (ad 23), .int i] ad true U T eV q) (hk9 : ∀ (a1 : Nat) (a2 : Int32) (a3 : Int32) (T : Mm) (_ : kS true a1 = 5), k9 a1 a2 a3 T = some q → Jr x ad true U T [(0, .ref (ad 23)), (1, .ref (ad a1)), (2, .int a2), (3, .int a3)] 9 []) (a1 : Nat) (a2 : Int32) (a3 : Int32) (T : Mm) (ha1 : kS true a1 = 5) (h : f_X9_showAll_b9 G k9 a1 a2 a3 T = some q) : Jr x ad true U T [(0, .ref (ad 23)), (1, .ref (ad a1)), (2, .int a2), (3, .int a3)] 9 [] := by
  unfold f_X9_showAll_b9 at h
  refine r_iload_n C dX9_showAll_9 rfl 3 rfl ?_
  refine r_ldc (v := 1000000) C dX9_showAll_10 kcX9_210 ?_
  refine r_ic_ge (tgt := 125) C dX9_showAll_12 (by decide) h (fun h => ?_) (fun h => ?_)
  · exact r_vret C M dX9_showAll_125 h
  · refine r_iload_n C dX9_showAll_15 rfl 2 rfl ?_
    refine r_if_ne (tgt := 125) C dX9_showAll_16 (by decide) h (fun h => ?_) (fun h => ?_)
    · exact r_vret C M dX9_showAll_125 h
    · refine r_aload_n C dX9_showAll_19 rfl 1 rfl ?_
      refine r_callVI C M h [] [] mlX9_211 mcX5_hasMore (fun q9 e9 => s_X5_hasMore a1 ha1 e9) ha1 rfl (by omega) (by decide) rfl rfl (Nat.le_of_ble_eq_true rfl) dX9_showAll_20 (fun v1 T2 h => ?_)
      refine r_if_eq (tgt := 125) C dX9_showAll_23 (by decide) h (fun h => ?_) (fun h => ?_)
      · exact r_vret C M dX9_showAll_125 h
      · refine r_aload_n C dX9_showAll_26 rfl 0 rfl ?_
        refine r_callVI C M h [] [] mlX9_118 mcX9_isMuch (fun q9 e9 => s_X9_isMuch   e9) kq_23 rfl (by omega) (by decide) rfl rfl (Nat.le_of_ble_eq_true rfl) dX9_showAll_27 (fun v3 T4 h => ?_)
        refine r_if_ne (tgt := 125) C dX9_showAll_30 (by decide) h (fun h => ?_) (fun h => ?_)
        · exact r_vret C M dX9_showAll_125 h
        · refine r_aload_n C dX9_showAll_33 rfl 1 rfl ?_
          refine r_callVI C M h [] [] mlX9_214 mcX5_next (fun q9 e9 => s_X5_next a1 ha1 e9) ha1 rfl (by omega) (by decide) rfl rfl (Nat.le_of_ble_eq_true rfl) dX9_showAll_34 (fun v5 T6 h => ?_)
          refine r_istore (lv' := [(4, .int v5), (0, .ref (ad 23)), (1, .ref (ad a1)), (2, .int a2), (3, .int a3)]) C dX9_showAll_37 (by rw [hn9]; decide) rfl ?_
          refine r_iload C dX9_showAll_39 0 rfl ?_
          refine r_bipush (v := 27) C dX9_showAll_41 (by decide) ?_
          show Jr _ _ _ _ _ _ 43 _
          refine r_ic_ne (tgt := 65) C dX9_showAll_43 (by decide) h (fun h => ?_) (fun h => ?_)
          · refine r_iconst (v := 0) C dX9_showAll_65 (by decide) ?_
            refine Jr.sub [1, 2, 4, 0] (lv' := [(0, .ref (ad 23)), (1, .ref (ad a1)), (3, .int a3), (4, .int v5)]) rfl ?_
            exact s_X9_showAll_66 hn9 C M hD hG hk9 a1 a3 v5 0 T6 ha1 h
          · refine r_aload_n C dX9_showAll_46 rfl 2 rfl ?_
            refine r_aload_n C dX9_showAll_47 rfl 2 rfl ?_
            refine r_geti (f := 501) C flX9_201 dX9_showAll_48 ha1 (by decide) (by decide) rfl ?_
            refine r_iconst (v := 1) C dX9_showAll_51 (by decide) ?_
            refine r_iadd C dX9_showAll_52 rfl ?_
            show Jr _ _ _ _ _ _ 53 _
            refine r_callVI C M h [.int ((gI T6 501 a1) + 1)] [] mlX9_311 mcX5_byteAt (fun q9 e9 => s_X5_byteAt a1 ((gI T6 501 a1) + 1) ha1 e9) ha1 rfl (by omega) (by decide) rfl rfl (Nat.le_of_ble_eq_true rfl) dX9_showAll_53 (fun v7 T8 h => ?_)
            refine r_bipush (v := 90) C dX9_showAll_56 (by decide) ?_
            refine r_ic_ne (tgt := 65) C dX9_showAll_58 (by decide) h (fun h => ?_) (fun h => ?_)
            · refine r_iconst (v := 0) C dX9_showAll_65 (by decide) ?_
              refine Jr.sub [1, 2, 4, 0] (lv' := [(0, .ref (ad 23)), (1, .ref (ad a1)), (3, .int a3), (4, .int v5)]) rfl ?_
              exact s_X9_showAll_66 hn9 C M hD hG hk9 a1 a3 v5 0 T8 ha1 h
            · refine r_iconst (v := 1) C dX9_showAll_61 (by decide) ?_
              refine r_goto (tgt := 66) C dX9_showAll_62 (by decide) ?_
              refine Jr.sub [1, 2, 4, 0] (lv' := [(0, .ref (ad 23)), (1, .ref (ad a1)), (3, .int a3), (4, .int v5)]) rfl ?_
              exact s_X9_showAll_66 hn9 C M hD hG hk9 a1 a3 v5 1 T8 ha1 h
noncomputable def f_X9_showAll_l9 (G : Int32 → Mm → Option (Unit × Mm)) (n : Nat) : Nat → Int32 → Int32 → Mm → Option (Unit × Mm) := Nat.rec (fun _ _ _ _ => none) (fun _ ih => f_X9_showAll_b9 G ih) n
theorem s_X9_showAll_l9 {x : JX} {ad : Nat → Nat} {U : Mm} {S0 : Hp} {q : Unit × Mm} {D : Nat} {G : Int32 → Mm → Option (Unit × Mm)}  (hn9 : x_n x = 5) (C : CB x RX9 cX9_showAll) (M : CMr x (D + 5) none S0 ad true U eV q) (hD : 40 ≤ D) (hG : ∀ (i : Int32) (T : Mm) (q : Unit × Mm), G i T = some q → Cr D yX9_goMacro cX9_goMacro 3 none [.ref (ad 23), .int i] ad true U T eV q) : ∀ (n : Nat), ∀ (a1 : Nat) (a2 : Int32) (a3 : Int32) (T : Mm) (_ : kS true a1 = 5), f_X9_showAll_l9 G  n a1 a2 a3 T = some q → Jr x ad true U T [(0, .ref (ad 23)), (1, .ref (ad a1)), (2, .int a2), (3, .int a3)] 9 [] := by
  intro n
  induction n with
  | zero => intro a1 a2 a3 T _ h; exact absurd h (by intro h; cases h)
  | succ n ih => exact fun a1 a2 a3 T ha1 h => s_X9_showAll_b9 hn9 C M hD hG (ih) a1 a2 a3 T ha1 h
noncomputable def f_X9_showAll (G : Int32 → Mm → Option (Unit × Mm)) (T : Mm) : Option (Unit × Mm) :=
  rf true (gR T 913 23) 5 fun j1 =>
  f_X9_showAll_l9 G FU j1 0 0 T
set_option maxRecDepth 100000 in
set_option maxHeartbeats 4000000 in
theorem s_X9_showAll {ad : Nat → Nat} {U T : Mm} {q : Unit × Mm} {D : Nat} {G : Int32 → Mm → Option (Unit × Mm)}  (hD : 40 ≤ D) (hG : ∀ (i : Int32) (T : Mm) (q : Unit × Mm), G i T = some q → Cr D yX9_goMacro cX9_goMacro 3 none [.ref (ad 23), .int i] ad true U T eV q) (h : f_X9_showAll G  T = some q) : Cr (D + 5) yX9_showAll cX9_showAll 5 none [.ref (ad 23)] ad true U T eV q := by
  refine cr_of (by decide) (Nat.le_of_ble_eq_true rfl) fun x S0 hn9 C M => ?_
  have C : CB x RX9 cX9_showAll := C
  refine Jr.eq (lv' := [(0, .ref (ad 23))]) (st' := []) rfl rfl ?_
  unfold f_X9_showAll at h
  refine r_aload_n C dX9_showAll_0 rfl 0 rfl ?_
  refine r_getr (f := 913) (c := 5) C flX9_82 dX9_showAll_1 kq_23 (by decide) rfl h (fun j1 hj2 h => ?_)
  refine r_astore_n (lv' := [(1, .ref (ad j1)), (0, .ref (ad 23))]) C dX9_showAll_4 rfl (by rw [hn9]; decide) rfl ?_
  refine r_iconst (v := 0) C dX9_showAll_5 (by decide) ?_
  refine r_istore_n (lv' := [(2, .int 0), (1, .ref (ad j1)), (0, .ref (ad 23))]) C dX9_showAll_6 rfl (by rw [hn9]; decide) rfl ?_
  show Jr _ _ _ _ _ _ 7 _
  refine r_iconst (v := 0) C dX9_showAll_7 (by decide) ?_
  refine r_istore_n (lv' := [(3, .int 0), (2, .int 0), (1, .ref (ad j1)), (0, .ref (ad 23))]) C dX9_showAll_8 rfl (by rw [hn9]; decide) rfl ?_
  refine Jr.sub [3, 2, 1, 0] (lv' := [(0, .ref (ad 23)), (1, .ref (ad j1)), (2, .int 0), (3, .int 0)]) rfl ?_
  exact s_X9_showAll_l9 hn9 C M hD hG  FU j1 0 0 T hj2 h
theorem dX9_twoBytes_0 : decode cX9_twoBytes 0 = .ok (.iload_n 1, 1) := by decide +kernel
theorem dX9_twoBytes_1 : decode cX9_twoBytes 1 = .ok (.lookupswitch 96 #[(57, 57), (61, 70), (69, 43), (89, 89)], 43) := by decide +kernel
theorem dX9_twoBytes_44 : decode cX9_twoBytes 44 = .ok (.aload_n 0, 1) := by decide +kernel
theorem dX9_twoBytes_45 : decode cX9_twoBytes 45 = .ok (.getfield 108, 3) := by decide +kernel
theorem dX9_twoBytes_48 : decode cX9_twoBytes 48 = .ok (.ifCond .ne 49, 3) := by decide +kernel
theorem dX9_twoBytes_51 : decode cX9_twoBytes 51 = .ok (.aload_n 0, 1) := by decide +kernel
theorem dX9_twoBytes_52 : decode cX9_twoBytes 52 = .ok (.invokevirtual 124, 3) := by decide +kernel
theorem dX9_twoBytes_55 : decode cX9_twoBytes 55 = .ok (.goto 42, 3) := by decide +kernel
theorem dX9_twoBytes_58 : decode cX9_twoBytes 58 = .ok (.aload_n 0, 1) := by decide +kernel
theorem dX9_twoBytes_59 : decode cX9_twoBytes 59 = .ok (.getfield 57, 3) := by decide +kernel
theorem dX9_twoBytes_62 : decode cX9_twoBytes 62 = .ok (.getfield 129, 3) := by decide +kernel
theorem dX9_twoBytes_65 : decode cX9_twoBytes 65 = .ok (.invokevirtual 302, 3) := by decide +kernel
theorem dX9_twoBytes_68 : decode cX9_twoBytes 68 = .ok (.goto 29, 3) := by decide +kernel
theorem dX9_twoBytes_71 : decode cX9_twoBytes 71 = .ok (.aload_n 0, 1) := by decide +kernel
theorem dX9_twoBytes_72 : decode cX9_twoBytes 72 = .ok (.aload_n 0, 1) := by decide +kernel
theorem dX9_twoBytes_73 : decode cX9_twoBytes 73 = .ok (.getfield 57, 3) := by decide +kernel
theorem dX9_twoBytes_76 : decode cX9_twoBytes 76 = .ok (.getfield 129, 3) := by decide +kernel
theorem dX9_twoBytes_79 : decode cX9_twoBytes 79 = .ok (.getfield 144, 3) := by decide +kernel
theorem dX9_twoBytes_82 : decode cX9_twoBytes 82 = .ok (.iconst 2, 1) := by decide +kernel
theorem dX9_twoBytes_83 : decode cX9_twoBytes 83 = .ok (.idiv, 1) := by decide +kernel
theorem dX9_twoBytes_84 : decode cX9_twoBytes 84 = .ok (.invokevirtual 253, 3) := by decide +kernel
theorem dX9_twoBytes_87 : decode cX9_twoBytes 87 = .ok (.goto 10, 3) := by decide +kernel
theorem dX9_twoBytes_90 : decode cX9_twoBytes 90 = .ok (.aload_n 0, 1) := by decide +kernel
theorem dX9_twoBytes_91 : decode cX9_twoBytes 91 = .ok (.invokevirtual 305, 3) := by decide +kernel
theorem dX9_twoBytes_94 : decode cX9_twoBytes 94 = .ok (.goto 3, 3) := by decide +kernel
theorem dX9_twoBytes_97 : decode cX9_twoBytes 97 = .ok (.return_, 1) := by decide +kernel
noncomputable def f_X9_twoBytes (G : Int32 → Mm → Option (Unit × Mm)) (p1 : Int32) (T : Mm) : Option (Unit × Mm) :=
  if p1 = 57 then (bd (f_X7_clearMargins 46 T) fun _ T2 =>
  some ((), T2))
  else if p1 = 61 then (bd (f_X9_line G ((gI T 708 46) / 2) T) fun _ T4 =>
  some ((), T4))
  else if p1 = 69 then (if (gI T 914 23) = 0 then (bd (f_X9_reset G T) fun _ T6 =>
  some ((), T6))
  else (some ((), T)))
  else if p1 = 89 then (bd (f_X9_showAll G T) fun _ T8 =>
  some ((), T8))
  else (some ((), T))
set_option maxRecDepth 100000 in
set_option maxHeartbeats 4000000 in
theorem s_X9_twoBytes {ad : Nat → Nat} {U T : Mm} {q : Unit × Mm} {D : Nat} {G : Int32 → Mm → Option (Unit × Mm)}  (hD : 40 ≤ D) (hG : ∀ (i : Int32) (T : Mm) (q : Unit × Mm), G i T = some q → Cr D yX9_goMacro cX9_goMacro 3 none [.ref (ad 23), .int i] ad true U T eV q) (p1 : Int32) (h : f_X9_twoBytes G p1 T = some q) : Cr (D + 6) yX9_twoBytes cX9_twoBytes 2 none [.ref (ad 23), .int p1] ad true U T eV q := by
  refine cr_of (by decide) (Nat.le_of_ble_eq_true rfl) fun x S0 hn9 C M => ?_
  have C : CB x RX9 cX9_twoBytes := C
  refine Jr.eq (lv' := [(0, .ref (ad 23)), (1, .int p1)]) (st' := []) rfl rfl ?_
  unfold f_X9_twoBytes at h
  refine r_iload_n C dX9_twoBytes_0 rfl 1 rfl ?_
  by_cases hs1 : p1 = 57
  · rw [if_pos hs1] at h
    refine r_top hs1 ?_
    refine r_look (off := 57) (tgt := 58) C dX9_twoBytes_1 (by decide) (by decide) (by decide) ?_
    refine r_aload_n C dX9_twoBytes_58 rfl 0 rfl ?_
    refine r_getp (f := 909) (j := 45) C flX9_57 dX9_twoBytes_59 kq_23 (by decide) rfl (fun W => pt_909 kq_23 W) ?_
    refine r_getp (f := 100) (j := 46) C flX9_129 dX9_twoBytes_62 kq_45 (by decide) rfl (fun W => pt_100 kq_45 W) ?_
    refine r_callVN C M h [] [] mlX9_302 mcX7_clearMargins (fun q9 e9 => s_X7_clearMargins 46 kq_46 e9) kq_46 rfl (by omega) (by decide) rfl rfl (Nat.le_of_ble_eq_true rfl) dX9_twoBytes_65 (fun _ T2 h => ?_)
    refine r_goto (tgt := 97) C dX9_twoBytes_68 (by decide) ?_
    show Jr _ _ _ _ _ _ 97 _
    exact r_vret C M dX9_twoBytes_97 h
  rw [if_neg hs1] at h
  by_cases hs3 : p1 = 61
  · rw [if_pos hs3] at h
    refine r_top hs3 ?_
    refine r_look (off := 70) (tgt := 71) C dX9_twoBytes_1 (by decide) (by decide) (by decide) ?_
    refine r_aload_n C dX9_twoBytes_71 rfl 0 rfl ?_
    refine r_aload_n C dX9_twoBytes_72 rfl 0 rfl ?_
    refine r_getp (f := 909) (j := 45) C flX9_57 dX9_twoBytes_73 kq_23 (by decide) rfl (fun W => pt_909 kq_23 W) ?_
    refine r_getp (f := 100) (j := 46) C flX9_129 dX9_twoBytes_76 kq_45 (by decide) rfl (fun W => pt_100 kq_45 W) ?_
    refine r_geti (f := 708) C flX9_144 dX9_twoBytes_79 kq_46 (by decide) (by decide) rfl ?_
    show Jr _ _ _ _ _ _ 82 _
    refine r_iconst (v := 2) C dX9_twoBytes_82 (by decide) ?_
    refine r_idiv C dX9_twoBytes_83 (by decide) rfl ?_
    refine r_callVN C M h [.int ((gI T 708 46) / 2)] [] mlX9_253 mcX9_line (fun q9 e9 => s_X9_line hD (fun i9 T9 q9 e9 => hG i9 T9 q9 e9) ((gI T 708 46) / 2)  e9) kq_23 rfl (by omega) (by decide) rfl rfl (Nat.le_of_ble_eq_true rfl) dX9_twoBytes_84 (fun _ T4 h => ?_)
    refine r_goto (tgt := 97) C dX9_twoBytes_87 (by decide) ?_
    exact r_vret C M dX9_twoBytes_97 h
  rw [if_neg hs3] at h
  by_cases hs5 : p1 = 69
  · rw [if_pos hs5] at h
    refine r_top hs5 ?_
    refine r_look (off := 43) (tgt := 44) C dX9_twoBytes_1 (by decide) (by decide) (by decide) ?_
    refine r_aload_n C dX9_twoBytes_44 rfl 0 rfl ?_
    refine r_geti (f := 914) C flX9_108 dX9_twoBytes_45 kq_23 (by decide) (by decide) rfl ?_
    refine r_if_ne (tgt := 97) C dX9_twoBytes_48 (by decide) h (fun h => ?_) (fun h => ?_)
    · exact r_vret C M dX9_twoBytes_97 h
    · refine r_aload_n C dX9_twoBytes_51 rfl 0 rfl ?_
      refine r_callVN C M h [] [] mlX9_124 mcX9_reset (fun q9 e9 => s_X9_reset hD (fun i9 T9 q9 e9 => hG i9 T9 q9 e9)   e9) kq_23 rfl (by omega) (by decide) rfl rfl (Nat.le_of_ble_eq_true rfl) dX9_twoBytes_52 (fun _ T6 h => ?_)
      refine r_goto (tgt := 97) C dX9_twoBytes_55 (by decide) ?_
      exact r_vret C M dX9_twoBytes_97 h
  rw [if_neg hs5] at h
  by_cases hs7 : p1 = 89
  · rw [if_pos hs7] at h
    refine r_top hs7 ?_
    refine r_look (off := 89) (tgt := 90) C dX9_twoBytes_1 (by decide) (by decide) (by decide) ?_
    refine r_aload_n C dX9_twoBytes_90 rfl 0 rfl ?_
    refine r_callVN C M h [] [] mlX9_305 mcX9_showAll (fun q9 e9 => s_X9_showAll hD (fun i9 T9 q9 e9 => hG i9 T9 q9 e9)   e9) kq_23 rfl (by omega) (by decide) rfl rfl (Nat.le_of_ble_eq_true rfl) dX9_twoBytes_91 (fun _ T8 h => ?_)
    refine r_goto (tgt := 97) C dX9_twoBytes_94 (by decide) ?_
    exact r_vret C M dX9_twoBytes_97 h
  rw [if_neg hs7] at h
  refine r_look (tgt := 97) (off := 96) C dX9_twoBytes_1 (by decide) (by rw [lv_osw hs1 (by decide), lv_osw hs3 (by decide), lv_osw hs5 (by decide), lv_osw hs7 (by decide)]; rfl) (by decide) ?_
  exact r_vret C M dX9_twoBytes_97 h
theorem dX9_beginSequence_0 : decode cX9_beginSequence 0 = .ok (.aload_n 0, 1) := by decide +kernel
theorem dX9_beginSequence_1 : decode cX9_beginSequence 1 = .ok (.getfield 82, 3) := by decide +kernel
theorem dX9_beginSequence_4 : decode cX9_beginSequence 4 = .ok (.invokevirtual 214, 3) := by decide +kernel
theorem dX9_beginSequence_7 : decode cX9_beginSequence 7 = .ok (.istore_n 1, 1) := by decide +kernel
theorem dX9_beginSequence_8 : decode cX9_beginSequence 8 = .ok (.iload_n 1, 1) := by decide +kernel
theorem dX9_beginSequence_9 : decode cX9_beginSequence 9 = .ok (.bipush 48, 2) := by decide +kernel
theorem dX9_beginSequence_11 : decode cX9_beginSequence 11 = .ok (.if_icmp .lt 25, 3) := by decide +kernel
theorem dX9_beginSequence_14 : decode cX9_beginSequence 14 = .ok (.iload_n 1, 1) := by decide +kernel
theorem dX9_beginSequence_15 : decode cX9_beginSequence 15 = .ok (.bipush 126, 2) := by decide +kernel
theorem dX9_beginSequence_17 : decode cX9_beginSequence 17 = .ok (.if_icmp .gt 19, 3) := by decide +kernel
theorem dX9_beginSequence_20 : decode cX9_beginSequence 20 = .ok (.aload_n 0, 1) := by decide +kernel
theorem dX9_beginSequence_21 : decode cX9_beginSequence 21 = .ok (.iconst 1, 1) := by decide +kernel
theorem dX9_beginSequence_22 : decode cX9_beginSequence 22 = .ok (.invokevirtual 204, 3) := by decide +kernel
theorem dX9_beginSequence_25 : decode cX9_beginSequence 25 = .ok (.ifCond .eq 83, 3) := by decide +kernel
theorem dX9_beginSequence_28 : decode cX9_beginSequence 28 = .ok (.aload_n 0, 1) := by decide +kernel
theorem dX9_beginSequence_29 : decode cX9_beginSequence 29 = .ok (.iload_n 1, 1) := by decide +kernel
theorem dX9_beginSequence_30 : decode cX9_beginSequence 30 = .ok (.invokevirtual 296, 3) := by decide +kernel
theorem dX9_beginSequence_33 : decode cX9_beginSequence 33 = .ok (.goto 75, 3) := by decide +kernel
theorem dX9_beginSequence_36 : decode cX9_beginSequence 36 = .ok (.iload_n 1, 1) := by decide +kernel
theorem dX9_beginSequence_37 : decode cX9_beginSequence 37 = .ok (.bipush 33, 2) := by decide +kernel
theorem dX9_beginSequence_39 : decode cX9_beginSequence 39 = .ok (.if_icmp .lt 69, 3) := by decide +kernel
theorem dX9_beginSequence_42 : decode cX9_beginSequence 42 = .ok (.iload_n 1, 1) := by decide +kernel
theorem dX9_beginSequence_43 : decode cX9_beginSequence 43 = .ok (.bipush 47, 2) := by decide +kernel
theorem dX9_beginSequence_45 : decode cX9_beginSequence 45 = .ok (.if_icmp .gt 63, 3) := by decide +kernel
theorem dX9_beginSequence_48 : decode cX9_beginSequence 48 = .ok (.aload_n 0, 1) := by decide +kernel
theorem dX9_beginSequence_49 : decode cX9_beginSequence 49 = .ok (.iconst 1, 1) := by decide +kernel
theorem dX9_beginSequence_50 : decode cX9_beginSequence 50 = .ok (.invokevirtual 204, 3) := by decide +kernel
theorem dX9_beginSequence_53 : decode cX9_beginSequence 53 = .ok (.ifCond .eq 55, 3) := by decide +kernel
theorem dX9_beginSequence_56 : decode cX9_beginSequence 56 = .ok (.aload_n 0, 1) := by decide +kernel
theorem dX9_beginSequence_57 : decode cX9_beginSequence 57 = .ok (.getfield 82, 3) := by decide +kernel
theorem dX9_beginSequence_60 : decode cX9_beginSequence 60 = .ok (.iload_n 1, 1) := by decide +kernel
theorem dX9_beginSequence_61 : decode cX9_beginSequence 61 = .ok (.putfield 217, 3) := by decide +kernel
theorem dX9_beginSequence_64 : decode cX9_beginSequence 64 = .ok (.aload_n 0, 1) := by decide +kernel
theorem dX9_beginSequence_65 : decode cX9_beginSequence 65 = .ok (.getfield 82, 3) := by decide +kernel
theorem dX9_beginSequence_68 : decode cX9_beginSequence 68 = .ok (.iconst 0, 1) := by decide +kernel
theorem dX9_beginSequence_69 : decode cX9_beginSequence 69 = .ok (.putfield 299, 3) := by decide +kernel
theorem dX9_beginSequence_72 : decode cX9_beginSequence 72 = .ok (.aload_n 0, 1) := by decide +kernel
theorem dX9_beginSequence_73 : decode cX9_beginSequence 73 = .ok (.getfield 82, 3) := by decide +kernel
theorem dX9_beginSequence_76 : decode cX9_beginSequence 76 = .ok (.invokevirtual 214, 3) := by decide +kernel
theorem dX9_beginSequence_79 : decode cX9_beginSequence 79 = .ok (.istore_n 2, 1) := by decide +kernel
theorem dX9_beginSequence_80 : decode cX9_beginSequence 80 = .ok (.iload_n 2, 1) := by decide +kernel
theorem dX9_beginSequence_81 : decode cX9_beginSequence 81 = .ok (.bipush 96, 2) := by decide +kernel
theorem dX9_beginSequence_83 : decode cX9_beginSequence 83 = .ok (.if_icmp .lt 25, 3) := by decide +kernel
theorem dX9_beginSequence_86 : decode cX9_beginSequence 86 = .ok (.iload_n 2, 1) := by decide +kernel
theorem dX9_beginSequence_87 : decode cX9_beginSequence 87 = .ok (.bipush 126, 2) := by decide +kernel
theorem dX9_beginSequence_89 : decode cX9_beginSequence 89 = .ok (.if_icmp .gt 19, 3) := by decide +kernel
theorem dX9_beginSequence_92 : decode cX9_beginSequence 92 = .ok (.aload_n 0, 1) := by decide +kernel
theorem dX9_beginSequence_93 : decode cX9_beginSequence 93 = .ok (.iconst 1, 1) := by decide +kernel
theorem dX9_beginSequence_94 : decode cX9_beginSequence 94 = .ok (.invokevirtual 204, 3) := by decide +kernel
theorem dX9_beginSequence_97 : decode cX9_beginSequence 97 = .ok (.ifCond .eq 11, 3) := by decide +kernel
theorem dX9_beginSequence_100 : decode cX9_beginSequence 100 = .ok (.aload_n 0, 1) := by decide +kernel
theorem dX9_beginSequence_101 : decode cX9_beginSequence 101 = .ok (.getfield 82, 3) := by decide +kernel
theorem dX9_beginSequence_104 : decode cX9_beginSequence 104 = .ok (.iload_n 2, 1) := by decide +kernel
theorem dX9_beginSequence_105 : decode cX9_beginSequence 105 = .ok (.putfield 299, 3) := by decide +kernel
theorem dX9_beginSequence_108 : decode cX9_beginSequence 108 = .ok (.return_, 1) := by decide +kernel
noncomputable def f_X9_beginSequence_36 (G : Int32 → Mm → Option (Unit × Mm)) (a1 : Int32) (T : Mm) : Option (Unit × Mm) :=
  if a1 < 33 then (some ((), T))
  else (if 47 < a1 then (some ((), T))
  else (bd (f_X9_pass 1 T) fun v1 T2 =>
  if v1 = 0 then (some ((), T2))
  else (rf true (gR T2 913 23) 5 fun j3 =>
  lb (uI T2 503 j3 a1) fun T5 =>
  rf true (gR T5 913 23) 5 fun j6 =>
  lb (uI T5 504 j6 0) fun T8 =>
  rf true (gR T8 913 23) 5 fun j9 =>
  bd (f_X5_next j9 T8) fun v11 T12 =>
  if v11 < 96 then (some ((), T12))
  else (if 126 < v11 then (some ((), T12))
  else (bd (f_X9_pass 1 T12) fun v13 T14 =>
  if v13 = 0 then (some ((), T14))
  else (rf true (gR T14 913 23) 5 fun j15 =>
  lb (uI T14 504 j15 v11) fun T17 =>
  some ((), T17)))))))
set_option maxRecDepth 100000 in
set_option maxHeartbeats 4000000 in
theorem s_X9_beginSequence_36 {x : JX} {ad : Nat → Nat} {U : Mm} {S0 : Hp} {q : Unit × Mm} {D : Nat} {G : Int32 → Mm → Option (Unit × Mm)}  (hn9 : x_n x = 3) (C : CB x RX9 cX9_beginSequence) (M : CMr x (D + 7) none S0 ad true U eV q) (hD : 40 ≤ D) (hG : ∀ (i : Int32) (T : Mm) (q : Unit × Mm), G i T = some q → Cr D yX9_goMacro cX9_goMacro 3 none [.ref (ad 23), .int i] ad true U T eV q) (a1 : Int32) (T : Mm) (h : f_X9_beginSequence_36 G  a1 T = some q) : Jr x ad true U T [(0, .ref (ad 23)), (1, .int a1)] 36 [] := by
  unfold f_X9_beginSequence_36 at h
  refine r_iload_n C dX9_beginSequence_36 rfl 1 rfl ?_
  refine r_bipush (v := 33) C dX9_beginSequence_37 (by decide) ?_
  refine r_ic_lt (tgt := 108) C dX9_beginSequence_39 (by decide) h (fun h => ?_) (fun h => ?_)
  · exact r_vret C M dX9_beginSequence_108 h
  · refine r_iload_n C dX9_beginSequence_42 rfl 1 rfl ?_
    refine r_bipush (v := 47) C dX9_beginSequence_43 (by decide) ?_
    refine r_ic_gt (tgt := 108) C dX9_beginSequence_45 (by decide) h (fun h => ?_) (fun h => ?_)
    · exact r_vret C M dX9_beginSequence_108 h
    · refine r_aload_n C dX9_beginSequence_48 rfl 0 rfl ?_
      refine r_iconst (v := 1) C dX9_beginSequence_49 (by decide) ?_
      refine r_callVI C M h [.int 1] [] mlX9_204 mcX9_pass (fun q9 e9 => s_X9_pass 1  e9) kq_23 rfl (by omega) (by decide) rfl rfl (Nat.le_of_ble_eq_true rfl) dX9_beginSequence_50 (fun v1 T2 h => ?_)
      refine r_if_eq (tgt := 108) C dX9_beginSequence_53 (by decide) h (fun h => ?_) (fun h => ?_)
      · exact r_vret C M dX9_beginSequence_108 h
      · refine r_aload_n C dX9_beginSequence_56 rfl 0 rfl ?_
        refine r_getr (f := 913) (c := 5) C flX9_82 dX9_beginSequence_57 kq_23 (by decide) rfl h (fun j3 hj4 h => ?_)
        refine r_iload_n C dX9_beginSequence_60 rfl 1 rfl ?_
        refine r_puti (f := 503) C flX9_217 (by decide) rfl rfl dX9_beginSequence_61 hj4 rfl h (fun T5 h => ?_)
        refine r_aload_n C dX9_beginSequence_64 rfl 0 rfl ?_
        show Jr _ _ _ _ _ _ 65 _
        refine r_getr (f := 913) (c := 5) C flX9_82 dX9_beginSequence_65 kq_23 (by decide) rfl h (fun j6 hj7 h => ?_)
        refine r_iconst (v := 0) C dX9_beginSequence_68 (by decide) ?_
        refine r_puti (f := 504) C flX9_299 (by decide) rfl rfl dX9_beginSequence_69 hj7 rfl h (fun T8 h => ?_)
        refine r_aload_n C dX9_beginSequence_72 rfl 0 rfl ?_
        refine r_getr (f := 913) (c := 5) C flX9_82 dX9_beginSequence_73 kq_23 (by decide) rfl h (fun j9 hj10 h => ?_)
        refine r_callVI C M h [] [] mlX9_214 mcX5_next (fun q9 e9 => s_X5_next j9 hj10 e9) hj10 rfl (by omega) (by decide) rfl rfl (Nat.le_of_ble_eq_true rfl) dX9_beginSequence_76 (fun v11 T12 h => ?_)
        show Jr _ _ _ _ _ _ 79 _
        refine r_istore_n (lv' := [(2, .int v11), (0, .ref (ad 23)), (1, .int a1)]) C dX9_beginSequence_79 rfl (by rw [hn9]; decide) rfl ?_
        refine r_iload_n C dX9_beginSequence_80 rfl 0 rfl ?_
        refine r_bipush (v := 96) C dX9_beginSequence_81 (by decide) ?_
        refine r_ic_lt (tgt := 108) C dX9_beginSequence_83 (by decide) h (fun h => ?_) (fun h => ?_)
        · exact r_vret C M dX9_beginSequence_108 h
        · refine r_iload_n C dX9_beginSequence_86 rfl 0 rfl ?_
          refine r_bipush (v := 126) C dX9_beginSequence_87 (by decide) ?_
          refine r_ic_gt (tgt := 108) C dX9_beginSequence_89 (by decide) h (fun h => ?_) (fun h => ?_)
          · exact r_vret C M dX9_beginSequence_108 h
          · refine r_aload_n C dX9_beginSequence_92 rfl 1 rfl ?_
            refine r_iconst (v := 1) C dX9_beginSequence_93 (by decide) ?_
            refine r_callVI C M h [.int 1] [] mlX9_204 mcX9_pass (fun q9 e9 => s_X9_pass 1  e9) kq_23 rfl (by omega) (by decide) rfl rfl (Nat.le_of_ble_eq_true rfl) dX9_beginSequence_94 (fun v13 T14 h => ?_)
            refine r_if_eq (tgt := 108) C dX9_beginSequence_97 (by decide) h (fun h => ?_) (fun h => ?_)
            · exact r_vret C M dX9_beginSequence_108 h
            · refine r_aload_n C dX9_beginSequence_100 rfl 1 rfl ?_
              refine r_getr (f := 913) (c := 5) C flX9_82 dX9_beginSequence_101 kq_23 (by decide) rfl h (fun j15 hj16 h => ?_)
              refine r_iload_n C dX9_beginSequence_104 rfl 0 rfl ?_
              refine r_puti (f := 504) C flX9_299 (by decide) rfl rfl dX9_beginSequence_105 hj16 rfl h (fun T17 h => ?_)
              exact r_vret C M dX9_beginSequence_108 h
noncomputable def f_X9_beginSequence (G : Int32 → Mm → Option (Unit × Mm)) (T : Mm) : Option (Unit × Mm) :=
  rf true (gR T 913 23) 5 fun j1 =>
  bd (f_X5_next j1 T) fun v3 T4 =>
  if v3 < 48 then (f_X9_beginSequence_36 G v3 T4)
  else (if 126 < v3 then (f_X9_beginSequence_36 G v3 T4)
  else (bd (f_X9_pass 1 T4) fun v5 T6 =>
  if v5 = 0 then (some ((), T6))
  else (bd (f_X9_twoBytes G v3 T6) fun _ T7 =>
  some ((), T7))))
set_option maxRecDepth 100000 in
set_option maxHeartbeats 4000000 in
theorem s_X9_beginSequence {ad : Nat → Nat} {U T : Mm} {q : Unit × Mm} {D : Nat} {G : Int32 → Mm → Option (Unit × Mm)}  (hD : 40 ≤ D) (hG : ∀ (i : Int32) (T : Mm) (q : Unit × Mm), G i T = some q → Cr D yX9_goMacro cX9_goMacro 3 none [.ref (ad 23), .int i] ad true U T eV q) (h : f_X9_beginSequence G  T = some q) : Cr (D + 7) yX9_beginSequence cX9_beginSequence 3 none [.ref (ad 23)] ad true U T eV q := by
  refine cr_of (by decide) (Nat.le_of_ble_eq_true rfl) fun x S0 hn9 C M => ?_
  have C : CB x RX9 cX9_beginSequence := C
  refine Jr.eq (lv' := [(0, .ref (ad 23))]) (st' := []) rfl rfl ?_
  unfold f_X9_beginSequence at h
  refine r_aload_n C dX9_beginSequence_0 rfl 0 rfl ?_
  refine r_getr (f := 913) (c := 5) C flX9_82 dX9_beginSequence_1 kq_23 (by decide) rfl h (fun j1 hj2 h => ?_)
  refine r_callVI C M h [] [] mlX9_214 mcX5_next (fun q9 e9 => s_X5_next j1 hj2 e9) hj2 rfl (by omega) (by decide) rfl rfl (Nat.le_of_ble_eq_true rfl) dX9_beginSequence_4 (fun v3 T4 h => ?_)
  refine r_istore_n (lv' := [(1, .int v3), (0, .ref (ad 23))]) C dX9_beginSequence_7 rfl (by rw [hn9]; decide) rfl ?_
  refine r_iload_n C dX9_beginSequence_8 rfl 0 rfl ?_
  show Jr _ _ _ _ _ _ 9 _
  refine r_bipush (v := 48) C dX9_beginSequence_9 (by decide) ?_
  refine r_ic_lt (tgt := 36) C dX9_beginSequence_11 (by decide) h (fun h => ?_) (fun h => ?_)
  · refine Jr.sub [1, 0] (lv' := [(0, .ref (ad 23)), (1, .int v3)]) rfl ?_
    exact s_X9_beginSequence_36 hn9 C M hD hG  v3 T4 h
  · refine r_iload_n C dX9_beginSequence_14 rfl 0 rfl ?_
    refine r_bipush (v := 126) C dX9_beginSequence_15 (by decide) ?_
    refine r_ic_gt (tgt := 36) C dX9_beginSequence_17 (by decide) h (fun h => ?_) (fun h => ?_)
    · refine Jr.sub [1, 0] (lv' := [(0, .ref (ad 23)), (1, .int v3)]) rfl ?_
      exact s_X9_beginSequence_36 hn9 C M hD hG  v3 T4 h
    · refine r_aload_n C dX9_beginSequence_20 rfl 1 rfl ?_
      refine r_iconst (v := 1) C dX9_beginSequence_21 (by decide) ?_
      refine r_callVI C M h [.int 1] [] mlX9_204 mcX9_pass (fun q9 e9 => s_X9_pass 1  e9) kq_23 rfl (by omega) (by decide) rfl rfl (Nat.le_of_ble_eq_true rfl) dX9_beginSequence_22 (fun v5 T6 h => ?_)
      refine r_if_eq (tgt := 108) C dX9_beginSequence_25 (by decide) h (fun h => ?_) (fun h => ?_)
      · exact r_vret C M dX9_beginSequence_108 h
      · refine r_aload_n C dX9_beginSequence_28 rfl 1 rfl ?_
        refine r_iload_n C dX9_beginSequence_29 rfl 0 rfl ?_
        refine r_callVN C M h [.int v3] [] mlX9_296 mcX9_twoBytes (fun q9 e9 => s_X9_twoBytes hD (fun i9 T9 q9 e9 => hG i9 T9 q9 e9) v3  e9) kq_23 rfl (by omega) (by decide) rfl rfl (Nat.le_of_ble_eq_true rfl) dX9_beginSequence_30 (fun _ T7 h => ?_)
        refine r_goto (tgt := 108) C dX9_beginSequence_33 (by decide) ?_
        exact r_vret C M dX9_beginSequence_108 h
theorem dX9_other_0 : decode cX9_other 0 = .ok (.iload_n 1, 1) := by decide +kernel
theorem dX9_other_1 : decode cX9_other 1 = .ok (.tableswitch 240 8 27 #[95, 130, 143, 240, 164, 175, 208, 208, 240, 240, 240, 240, 240, 240, 240, 240, 240, 240, 240, 233], 95) := by decide +kernel
theorem dX9_other_96 : decode cX9_other 96 = .ok (.aload_n 0, 1) := by decide +kernel
theorem dX9_other_97 : decode cX9_other 97 = .ok (.getfield 57, 3) := by decide +kernel
theorem dX9_other_100 : decode cX9_other 100 = .ok (.getfield 129, 3) := by decide +kernel
theorem dX9_other_103 : decode cX9_other 103 = .ok (.aload_n 0, 1) := by decide +kernel
theorem dX9_other_104 : decode cX9_other 104 = .ok (.getfield 57, 3) := by decide +kernel
theorem dX9_other_107 : decode cX9_other 107 = .ok (.getfield 129, 3) := by decide +kernel
theorem dX9_other_110 : decode cX9_other 110 = .ok (.getfield 133, 3) := by decide +kernel
theorem dX9_other_113 : decode cX9_other 113 = .ok (.aload_n 0, 1) := by decide +kernel
theorem dX9_other_114 : decode cX9_other 114 = .ok (.getfield 57, 3) := by decide +kernel
theorem dX9_other_117 : decode cX9_other 117 = .ok (.getfield 129, 3) := by decide +kernel
theorem dX9_other_120 : decode cX9_other 120 = .ok (.getfield 243, 3) := by decide +kernel
theorem dX9_other_123 : decode cX9_other 123 = .ok (.isub, 1) := by decide +kernel
theorem dX9_other_124 : decode cX9_other 124 = .ok (.i2l, 1) := by decide +kernel
theorem dX9_other_125 : decode cX9_other 125 = .ok (.invokevirtual 246, 3) := by decide +kernel
theorem dX9_other_128 : decode cX9_other 128 = .ok (.goto 124, 3) := by decide +kernel
theorem dX9_other_131 : decode cX9_other 131 = .ok (.aload_n 0, 1) := by decide +kernel
theorem dX9_other_132 : decode cX9_other 132 = .ok (.getfield 57, 3) := by decide +kernel
theorem dX9_other_135 : decode cX9_other 135 = .ok (.getfield 129, 3) := by decide +kernel
theorem dX9_other_138 : decode cX9_other 138 = .ok (.invokevirtual 250, 3) := by decide +kernel
theorem dX9_other_141 : decode cX9_other 141 = .ok (.goto 111, 3) := by decide +kernel
theorem dX9_other_144 : decode cX9_other 144 = .ok (.aload_n 0, 1) := by decide +kernel
theorem dX9_other_145 : decode cX9_other 145 = .ok (.aload_n 0, 1) := by decide +kernel
theorem dX9_other_146 : decode cX9_other 146 = .ok (.getfield 57, 3) := by decide +kernel
theorem dX9_other_149 : decode cX9_other 149 = .ok (.getfield 129, 3) := by decide +kernel
theorem dX9_other_152 : decode cX9_other 152 = .ok (.getfield 144, 3) := by decide +kernel
theorem dX9_other_155 : decode cX9_other 155 = .ok (.invokevirtual 253, 3) := by decide +kernel
theorem dX9_other_158 : decode cX9_other 158 = .ok (.aload_n 0, 1) := by decide +kernel
theorem dX9_other_159 : decode cX9_other 159 = .ok (.invokevirtual 256, 3) := by decide +kernel
theorem dX9_other_162 : decode cX9_other 162 = .ok (.goto 90, 3) := by decide +kernel
theorem dX9_other_165 : decode cX9_other 165 = .ok (.aload_n 0, 1) := by decide +kernel
theorem dX9_other_166 : decode cX9_other 166 = .ok (.invokevirtual 259, 3) := by decide +kernel
theorem dX9_other_169 : decode cX9_other 169 = .ok (.aload_n 0, 1) := by decide +kernel
theorem dX9_other_170 : decode cX9_other 170 = .ok (.invokevirtual 256, 3) := by decide +kernel
theorem dX9_other_173 : decode cX9_other 173 = .ok (.goto 79, 3) := by decide +kernel
theorem dX9_other_176 : decode cX9_other 176 = .ok (.aload_n 0, 1) := by decide +kernel
theorem dX9_other_177 : decode cX9_other 177 = .ok (.invokevirtual 262, 3) := by decide +kernel
theorem dX9_other_180 : decode cX9_other 180 = .ok (.aload_n 0, 1) := by decide +kernel
theorem dX9_other_181 : decode cX9_other 181 = .ok (.getfield 57, 3) := by decide +kernel
theorem dX9_other_184 : decode cX9_other 184 = .ok (.getfield 265, 3) := by decide +kernel
theorem dX9_other_187 : decode cX9_other 187 = .ok (.iconst 1, 1) := by decide +kernel
theorem dX9_other_188 : decode cX9_other 188 = .ok (.iand, 1) := by decide +kernel
theorem dX9_other_189 : decode cX9_other 189 = .ok (.ifCond .eq 63, 3) := by decide +kernel
theorem dX9_other_192 : decode cX9_other 192 = .ok (.aload_n 0, 1) := by decide +kernel
theorem dX9_other_193 : decode cX9_other 193 = .ok (.aload_n 0, 1) := by decide +kernel
theorem dX9_other_194 : decode cX9_other 194 = .ok (.getfield 57, 3) := by decide +kernel
theorem dX9_other_197 : decode cX9_other 197 = .ok (.getfield 129, 3) := by decide +kernel
theorem dX9_other_200 : decode cX9_other 200 = .ok (.getfield 144, 3) := by decide +kernel
theorem dX9_other_203 : decode cX9_other 203 = .ok (.invokevirtual 253, 3) := by decide +kernel
theorem dX9_other_206 : decode cX9_other 206 = .ok (.goto 46, 3) := by decide +kernel
theorem dX9_other_209 : decode cX9_other 209 = .ok (.aload_n 0, 1) := by decide +kernel
theorem dX9_other_210 : decode cX9_other 210 = .ok (.getfield 57, 3) := by decide +kernel
theorem dX9_other_213 : decode cX9_other 213 = .ok (.iload_n 1, 1) := by decide +kernel
theorem dX9_other_214 : decode cX9_other 214 = .ok (.bipush 14, 2) := by decide +kernel
theorem dX9_other_216 : decode cX9_other 216 = .ok (.if_icmp .ne 7, 3) := by decide +kernel
theorem dX9_other_219 : decode cX9_other 219 = .ok (.iconst 1, 1) := by decide +kernel
theorem dX9_other_220 : decode cX9_other 220 = .ok (.goto 4, 3) := by decide +kernel
theorem dX9_other_223 : decode cX9_other 223 = .ok (.iconst 0, 1) := by decide +kernel
theorem dX9_other_224 : decode cX9_other 224 = .ok (.putfield 268, 3) := by decide +kernel
theorem dX9_other_227 : decode cX9_other 227 = .ok (.aload_n 0, 1) := by decide +kernel
theorem dX9_other_228 : decode cX9_other 228 = .ok (.invokevirtual 271, 3) := by decide +kernel
theorem dX9_other_231 : decode cX9_other 231 = .ok (.goto 21, 3) := by decide +kernel
theorem dX9_other_234 : decode cX9_other 234 = .ok (.aload_n 0, 1) := by decide +kernel
theorem dX9_other_235 : decode cX9_other 235 = .ok (.invokevirtual 274, 3) := by decide +kernel
theorem dX9_other_238 : decode cX9_other 238 = .ok (.goto 14, 3) := by decide +kernel
theorem dX9_other_241 : decode cX9_other 241 = .ok (.iload_n 1, 1) := by decide +kernel
theorem dX9_other_242 : decode cX9_other 242 = .ok (.bipush 32, 2) := by decide +kernel
theorem dX9_other_244 : decode cX9_other 244 = .ok (.if_icmp .lt 8, 3) := by decide +kernel
theorem dX9_other_247 : decode cX9_other 247 = .ok (.aload_n 0, 1) := by decide +kernel
theorem dX9_other_248 : decode cX9_other 248 = .ok (.iload_n 1, 1) := by decide +kernel
theorem dX9_other_249 : decode cX9_other 249 = .ok (.invokevirtual 277, 3) := by decide +kernel
theorem dX9_other_252 : decode cX9_other 252 = .ok (.return_, 1) := by decide +kernel
noncomputable def f_X9_other (G : Int32 → Mm → Option (Unit × Mm)) (p1 : Int32) (T : Mm) : Option (Unit × Mm) :=
  if p1 = 8 then (bd (f_X7_moveX 46 ((((gI T 706 46) - (gI T 710 46))).toInt64) T) fun _ T2 =>
  some ((), T2))
  else if p1 = 9 then (bd (f_X7_tab 46 T) fun _ T4 =>
  some ((), T4))
  else if p1 = 10 then (bd (f_X9_line G (gI T 708 46) T) fun _ T6 =>
  bd (f_X9_endWithReturn T6) fun _ T7 =>
  some ((), T7))
  else if p1 = 11 then (if p1 < 32 then (some ((), T))
  else (bd (f_X9_show G p1 T) fun _ T9 =>
  some ((), T9)))
  else if p1 = 12 then (bd (f_X9_form G T) fun _ T11 =>
  bd (f_X9_endWithReturn T11) fun _ T12 =>
  some ((), T12))
  else if p1 = 13 then (bd (f_X9_carriageReturn T) fun _ T14 =>
  if ((gI T14 108 45) &&& 1) = 0 then (some ((), T14))
  else (bd (f_X9_line G (gI T14 708 46) T14) fun _ T15 =>
  some ((), T15)))
  else if p1 = 14 then (if p1 = 14 then (lb (uI T 105 45 1) fun T19 =>
  bd (f_X9_followPitch T19) fun _ T20 =>
  some ((), T20))
  else (lb (uI T 105 45 0) fun T17 =>
  bd (f_X9_followPitch T17) fun _ T18 =>
  some ((), T18)))
  else if p1 = 15 then (if p1 = 14 then (lb (uI T 105 45 1) fun T24 =>
  bd (f_X9_followPitch T24) fun _ T25 =>
  some ((), T25))
  else (lb (uI T 105 45 0) fun T22 =>
  bd (f_X9_followPitch T22) fun _ T23 =>
  some ((), T23)))
  else if p1 = 16 then (if p1 < 32 then (some ((), T))
  else (bd (f_X9_show G p1 T) fun _ T27 =>
  some ((), T27)))
  else if p1 = 17 then (if p1 < 32 then (some ((), T))
  else (bd (f_X9_show G p1 T) fun _ T29 =>
  some ((), T29)))
  else if p1 = 18 then (if p1 < 32 then (some ((), T))
  else (bd (f_X9_show G p1 T) fun _ T31 =>
  some ((), T31)))
  else if p1 = 19 then (if p1 < 32 then (some ((), T))
  else (bd (f_X9_show G p1 T) fun _ T33 =>
  some ((), T33)))
  else if p1 = 20 then (if p1 < 32 then (some ((), T))
  else (bd (f_X9_show G p1 T) fun _ T35 =>
  some ((), T35)))
  else if p1 = 21 then (if p1 < 32 then (some ((), T))
  else (bd (f_X9_show G p1 T) fun _ T37 =>
  some ((), T37)))
  else if p1 = 22 then (if p1 < 32 then (some ((), T))
  else (bd (f_X9_show G p1 T) fun _ T39 =>
  some ((), T39)))
  else if p1 = 23 then (if p1 < 32 then (some ((), T))
  else (bd (f_X9_show G p1 T) fun _ T41 =>
  some ((), T41)))
  else if p1 = 24 then (if p1 < 32 then (some ((), T))
  else (bd (f_X9_show G p1 T) fun _ T43 =>
  some ((), T43)))
  else if p1 = 25 then (if p1 < 32 then (some ((), T))
  else (bd (f_X9_show G p1 T) fun _ T45 =>
  some ((), T45)))
  else if p1 = 26 then (if p1 < 32 then (some ((), T))
  else (bd (f_X9_show G p1 T) fun _ T47 =>
  some ((), T47)))
  else if p1 = 27 then (bd (f_X9_beginSequence G T) fun _ T49 =>
  some ((), T49))
  else (if p1 < 32 then (some ((), T))
  else (bd (f_X9_show G p1 T) fun _ T50 =>
  some ((), T50)))
set_option maxRecDepth 100000 in
set_option maxHeartbeats 4000000 in
theorem s_X9_other {ad : Nat → Nat} {U T : Mm} {q : Unit × Mm} {D : Nat} {G : Int32 → Mm → Option (Unit × Mm)}  (hD : 40 ≤ D) (hG : ∀ (i : Int32) (T : Mm) (q : Unit × Mm), G i T = some q → Cr D yX9_goMacro cX9_goMacro 3 none [.ref (ad 23), .int i] ad true U T eV q) (p1 : Int32) (h : f_X9_other G p1 T = some q) : Cr (D + 8) yX9_other cX9_other 2 none [.ref (ad 23), .int p1] ad true U T eV q := by
  refine cr_of (by decide) (Nat.le_of_ble_eq_true rfl) fun x S0 hn9 C M => ?_
  have C : CB x RX9 cX9_other := C
  refine Jr.eq (lv' := [(0, .ref (ad 23)), (1, .int p1)]) (st' := []) rfl rfl ?_
  unfold f_X9_other at h
  refine r_iload_n C dX9_other_0 rfl 1 rfl ?_
  by_cases hs1 : p1 = 8
  · rw [if_pos hs1] at h
    refine r_top hs1 ?_
    refine r_tabIn (off := 95) (tgt := 96) C dX9_other_1 (by decide) (by decide) (by decide) (by decide) ?_
    refine r_aload_n C dX9_other_96 rfl 0 rfl ?_
    refine r_getp (f := 909) (j := 45) C flX9_57 dX9_other_97 kq_23 (by decide) rfl (fun W => pt_909 kq_23 W) ?_
    refine r_getp (f := 100) (j := 46) C flX9_129 dX9_other_100 kq_45 (by decide) rfl (fun W => pt_100 kq_45 W) ?_
    refine r_aload_n C dX9_other_103 rfl 0 rfl ?_
    refine r_getp (f := 909) (j := 45) C flX9_57 dX9_other_104 kq_23 (by decide) rfl (fun W => pt_909 kq_23 W) ?_
    show Jr _ _ _ _ _ _ 107 _
    refine r_getp (f := 100) (j := 46) C flX9_129 dX9_other_107 kq_45 (by decide) rfl (fun W => pt_100 kq_45 W) ?_
    refine r_geti (f := 706) C flX9_133 dX9_other_110 kq_46 (by decide) (by decide) rfl ?_
    refine r_aload_n C dX9_other_113 rfl 0 rfl ?_
    refine r_getp (f := 909) (j := 45) C flX9_57 dX9_other_114 kq_23 (by decide) rfl (fun W => pt_909 kq_23 W) ?_
    refine r_getp (f := 100) (j := 46) C flX9_129 dX9_other_117 kq_45 (by decide) rfl (fun W => pt_100 kq_45 W) ?_
    refine r_geti (f := 710) C flX9_243 dX9_other_120 kq_46 (by decide) (by decide) rfl ?_
    show Jr _ _ _ _ _ _ 123 _
    refine r_isub C dX9_other_123 rfl ?_
    refine r_i2l C dX9_other_124 rfl ?_
    refine r_callVN C M h [.long ((((gI T 706 46) - (gI T 710 46))).toInt64)] [] mlX9_246 mcX7_moveX (fun q9 e9 => s_X7_moveX 46 ((((gI T 706 46) - (gI T 710 46))).toInt64) kq_46 e9) kq_46 rfl (by omega) (by decide) rfl rfl (Nat.le_of_ble_eq_true rfl) dX9_other_125 (fun _ T2 h => ?_)
    refine r_goto (tgt := 252) C dX9_other_128 (by decide) ?_
    exact r_vret C M dX9_other_252 h
  rw [if_neg hs1] at h
  by_cases hs3 : p1 = 9
  · rw [if_pos hs3] at h
    refine r_top hs3 ?_
    refine r_tabIn (off := 130) (tgt := 131) C dX9_other_1 (by decide) (by decide) (by decide) (by decide) ?_
    refine r_aload_n C dX9_other_131 rfl 0 rfl ?_
    refine r_getp (f := 909) (j := 45) C flX9_57 dX9_other_132 kq_23 (by decide) rfl (fun W => pt_909 kq_23 W) ?_
    refine r_getp (f := 100) (j := 46) C flX9_129 dX9_other_135 kq_45 (by decide) rfl (fun W => pt_100 kq_45 W) ?_
    refine r_callVN C M h [] [] mlX9_250 mcX7_tab (fun q9 e9 => s_X7_tab 46 kq_46 e9) kq_46 rfl (by omega) (by decide) rfl rfl (Nat.le_of_ble_eq_true rfl) dX9_other_138 (fun _ T4 h => ?_)
    refine r_goto (tgt := 252) C dX9_other_141 (by decide) ?_
    show Jr _ _ _ _ _ _ 252 _
    exact r_vret C M dX9_other_252 h
  rw [if_neg hs3] at h
  by_cases hs5 : p1 = 10
  · rw [if_pos hs5] at h
    refine r_top hs5 ?_
    refine r_tabIn (off := 143) (tgt := 144) C dX9_other_1 (by decide) (by decide) (by decide) (by decide) ?_
    refine r_aload_n C dX9_other_144 rfl 0 rfl ?_
    refine r_aload_n C dX9_other_145 rfl 0 rfl ?_
    refine r_getp (f := 909) (j := 45) C flX9_57 dX9_other_146 kq_23 (by decide) rfl (fun W => pt_909 kq_23 W) ?_
    refine r_getp (f := 100) (j := 46) C flX9_129 dX9_other_149 kq_45 (by decide) rfl (fun W => pt_100 kq_45 W) ?_
    refine r_geti (f := 708) C flX9_144 dX9_other_152 kq_46 (by decide) (by decide) rfl ?_
    show Jr _ _ _ _ _ _ 155 _
    refine r_callVN C M h [.int (gI T 708 46)] [] mlX9_253 mcX9_line (fun q9 e9 => s_X9_line hD (fun i9 T9 q9 e9 => hG i9 T9 q9 e9) (gI T 708 46)  e9) kq_23 rfl (by omega) (by decide) rfl rfl (Nat.le_of_ble_eq_true rfl) dX9_other_155 (fun _ T6 h => ?_)
    refine r_aload_n C dX9_other_158 rfl 0 rfl ?_
    refine r_callVN C M h [] [] mlX9_256 mcX9_endWithReturn (fun q9 e9 => s_X9_endWithReturn   e9) kq_23 rfl (by omega) (by decide) rfl rfl (Nat.le_of_ble_eq_true rfl) dX9_other_159 (fun _ T7 h => ?_)
    refine r_goto (tgt := 252) C dX9_other_162 (by decide) ?_
    exact r_vret C M dX9_other_252 h
  rw [if_neg hs5] at h
  by_cases hs8 : p1 = 11
  · rw [if_pos hs8] at h
    refine r_top hs8 ?_
    refine r_tabIn (off := 240) (tgt := 241) C dX9_other_1 (by decide) (by decide) (by decide) (by decide) ?_
    refine r_iload_n C dX9_other_241 rfl 1 rfl ?_
    refine r_bipush (v := 32) C dX9_other_242 (by decide) ?_
    refine r_ic_lt (tgt := 252) C dX9_other_244 (by decide) h (fun h => ?_) (fun h => ?_)
    · exact r_vret C M dX9_other_252 h
    · refine r_aload_n C dX9_other_247 rfl 0 rfl ?_
      refine r_iload_n C dX9_other_248 rfl 1 rfl ?_
      refine r_callVN C M h [.int p1] [] mlX9_277 mcX9_show (fun q9 e9 => s_X9_show hD (fun i9 T9 q9 e9 => hG i9 T9 q9 e9) p1  e9) kq_23 rfl (by omega) (by decide) rfl rfl (Nat.le_of_ble_eq_true rfl) dX9_other_249 (fun _ T9 h => ?_)
      exact r_vret C M dX9_other_252 h
  rw [if_neg hs8] at h
  by_cases hs10 : p1 = 12
  · rw [if_pos hs10] at h
    refine r_top hs10 ?_
    refine r_tabIn (off := 164) (tgt := 165) C dX9_other_1 (by decide) (by decide) (by decide) (by decide) ?_
    refine r_aload_n C dX9_other_165 rfl 0 rfl ?_
    refine r_callVN C M h [] [] mlX9_259 mcX9_form (fun q9 e9 => s_X9_form hD (fun i9 T9 q9 e9 => hG i9 T9 q9 e9)   e9) kq_23 rfl (by omega) (by decide) rfl rfl (Nat.le_of_ble_eq_true rfl) dX9_other_166 (fun _ T11 h => ?_)
    refine r_aload_n C dX9_other_169 rfl 0 rfl ?_
    refine r_callVN C M h [] [] mlX9_256 mcX9_endWithReturn (fun q9 e9 => s_X9_endWithReturn   e9) kq_23 rfl (by omega) (by decide) rfl rfl (Nat.le_of_ble_eq_true rfl) dX9_other_170 (fun _ T12 h => ?_)
    refine r_goto (tgt := 252) C dX9_other_173 (by decide) ?_
    show Jr _ _ _ _ _ _ 252 _
    exact r_vret C M dX9_other_252 h
  rw [if_neg hs10] at h
  by_cases hs13 : p1 = 13
  · rw [if_pos hs13] at h
    refine r_top hs13 ?_
    refine r_tabIn (off := 175) (tgt := 176) C dX9_other_1 (by decide) (by decide) (by decide) (by decide) ?_
    refine r_aload_n C dX9_other_176 rfl 0 rfl ?_
    refine r_callVN C M h [] [] mlX9_262 mcX9_carriageReturn (fun q9 e9 => s_X9_carriageReturn   e9) kq_23 rfl (by omega) (by decide) rfl rfl (Nat.le_of_ble_eq_true rfl) dX9_other_177 (fun _ T14 h => ?_)
    refine r_aload_n C dX9_other_180 rfl 0 rfl ?_
    refine r_getp (f := 909) (j := 45) C flX9_57 dX9_other_181 kq_23 (by decide) rfl (fun W => pt_909 kq_23 W) ?_
    refine r_geti (f := 108) C flX9_265 dX9_other_184 kq_45 (by decide) (by decide) rfl ?_
    show Jr _ _ _ _ _ _ 187 _
    refine r_iconst (v := 1) C dX9_other_187 (by decide) ?_
    refine r_iand C dX9_other_188 rfl ?_
    refine r_if_eq (tgt := 252) C dX9_other_189 (by decide) h (fun h => ?_) (fun h => ?_)
    · exact r_vret C M dX9_other_252 h
    · refine r_aload_n C dX9_other_192 rfl 0 rfl ?_
      refine r_aload_n C dX9_other_193 rfl 0 rfl ?_
      refine r_getp (f := 909) (j := 45) C flX9_57 dX9_other_194 kq_23 (by decide) rfl (fun W => pt_909 kq_23 W) ?_
      refine r_getp (f := 100) (j := 46) C flX9_129 dX9_other_197 kq_45 (by decide) rfl (fun W => pt_100 kq_45 W) ?_
      refine r_geti (f := 708) C flX9_144 dX9_other_200 kq_46 (by decide) (by decide) rfl ?_
      show Jr _ _ _ _ _ _ 203 _
      refine r_callVN C M h [.int (gI T14 708 46)] [] mlX9_253 mcX9_line (fun q9 e9 => s_X9_line hD (fun i9 T9 q9 e9 => hG i9 T9 q9 e9) (gI T14 708 46)  e9) kq_23 rfl (by omega) (by decide) rfl rfl (Nat.le_of_ble_eq_true rfl) dX9_other_203 (fun _ T15 h => ?_)
      refine r_goto (tgt := 252) C dX9_other_206 (by decide) ?_
      exact r_vret C M dX9_other_252 h
  rw [if_neg hs13] at h
  by_cases hs16 : p1 = 14
  · rw [if_pos hs16] at h
    refine r_top hs16 ?_
    refine r_tabIn (off := 208) (tgt := 209) C dX9_other_1 (by decide) (by decide) (by decide) (by decide) ?_
    refine r_aload_n C dX9_other_209 rfl 0 rfl ?_
    refine r_getp (f := 909) (j := 45) C flX9_57 dX9_other_210 kq_23 (by decide) rfl (fun W => pt_909 kq_23 W) ?_
    refine r_iload_n C dX9_other_213 rfl 1 rfl ?_
    refine r_bipush (v := 14) C dX9_other_214 (by decide) ?_
    refine r_ic_ne (tgt := 223) C dX9_other_216 (by decide) h (fun h => ?_) (fun h => ?_)
    · refine r_iconst (v := 0) C dX9_other_223 (by decide) ?_
      refine r_putz (f := 105) C flX9_268 (by decide) rfl rfl (by decide) dX9_other_224 kq_45 rfl h (fun T17 h => ?_)
      refine r_aload_n C dX9_other_227 rfl 0 rfl ?_
      refine r_callVN C M h [] [] mlX9_271 mcX9_followPitch (fun q9 e9 => s_X9_followPitch   e9) kq_23 rfl (by omega) (by decide) rfl rfl (Nat.le_of_ble_eq_true rfl) dX9_other_228 (fun _ T18 h => ?_)
      refine r_goto (tgt := 252) C dX9_other_231 (by decide) ?_
      show Jr _ _ _ _ _ _ 252 _
      exact r_vret C M dX9_other_252 h
    · refine r_iconst (v := 1) C dX9_other_219 (by decide) ?_
      refine r_goto (tgt := 224) C dX9_other_220 (by decide) ?_
      refine r_putz (f := 105) C flX9_268 (by decide) rfl rfl (by decide) dX9_other_224 kq_45 rfl h (fun T19 h => ?_)
      refine r_aload_n C dX9_other_227 rfl 0 rfl ?_
      refine r_callVN C M h [] [] mlX9_271 mcX9_followPitch (fun q9 e9 => s_X9_followPitch   e9) kq_23 rfl (by omega) (by decide) rfl rfl (Nat.le_of_ble_eq_true rfl) dX9_other_228 (fun _ T20 h => ?_)
      show Jr _ _ _ _ _ _ 231 _
      refine r_goto (tgt := 252) C dX9_other_231 (by decide) ?_
      exact r_vret C M dX9_other_252 h
  rw [if_neg hs16] at h
  by_cases hs21 : p1 = 15
  · rw [if_pos hs21] at h
    refine r_top hs21 ?_
    refine r_tabIn (off := 208) (tgt := 209) C dX9_other_1 (by decide) (by decide) (by decide) (by decide) ?_
    refine r_aload_n C dX9_other_209 rfl 0 rfl ?_
    refine r_getp (f := 909) (j := 45) C flX9_57 dX9_other_210 kq_23 (by decide) rfl (fun W => pt_909 kq_23 W) ?_
    refine r_iload_n C dX9_other_213 rfl 1 rfl ?_
    refine r_bipush (v := 14) C dX9_other_214 (by decide) ?_
    refine r_ic_ne (tgt := 223) C dX9_other_216 (by decide) h (fun h => ?_) (fun h => ?_)
    · refine r_iconst (v := 0) C dX9_other_223 (by decide) ?_
      refine r_putz (f := 105) C flX9_268 (by decide) rfl rfl (by decide) dX9_other_224 kq_45 rfl h (fun T22 h => ?_)
      refine r_aload_n C dX9_other_227 rfl 0 rfl ?_
      refine r_callVN C M h [] [] mlX9_271 mcX9_followPitch (fun q9 e9 => s_X9_followPitch   e9) kq_23 rfl (by omega) (by decide) rfl rfl (Nat.le_of_ble_eq_true rfl) dX9_other_228 (fun _ T23 h => ?_)
      refine r_goto (tgt := 252) C dX9_other_231 (by decide) ?_
      show Jr _ _ _ _ _ _ 252 _
      exact r_vret C M dX9_other_252 h
    · refine r_iconst (v := 1) C dX9_other_219 (by decide) ?_
      refine r_goto (tgt := 224) C dX9_other_220 (by decide) ?_
      refine r_putz (f := 105) C flX9_268 (by decide) rfl rfl (by decide) dX9_other_224 kq_45 rfl h (fun T24 h => ?_)
      refine r_aload_n C dX9_other_227 rfl 0 rfl ?_
      refine r_callVN C M h [] [] mlX9_271 mcX9_followPitch (fun q9 e9 => s_X9_followPitch   e9) kq_23 rfl (by omega) (by decide) rfl rfl (Nat.le_of_ble_eq_true rfl) dX9_other_228 (fun _ T25 h => ?_)
      show Jr _ _ _ _ _ _ 231 _
      refine r_goto (tgt := 252) C dX9_other_231 (by decide) ?_
      exact r_vret C M dX9_other_252 h
  rw [if_neg hs21] at h
  by_cases hs26 : p1 = 16
  · rw [if_pos hs26] at h
    refine r_top hs26 ?_
    refine r_tabIn (off := 240) (tgt := 241) C dX9_other_1 (by decide) (by decide) (by decide) (by decide) ?_
    refine r_iload_n C dX9_other_241 rfl 1 rfl ?_
    refine r_bipush (v := 32) C dX9_other_242 (by decide) ?_
    refine r_ic_lt (tgt := 252) C dX9_other_244 (by decide) h (fun h => ?_) (fun h => ?_)
    · exact r_vret C M dX9_other_252 h
    · refine r_aload_n C dX9_other_247 rfl 0 rfl ?_
      refine r_iload_n C dX9_other_248 rfl 1 rfl ?_
      refine r_callVN C M h [.int p1] [] mlX9_277 mcX9_show (fun q9 e9 => s_X9_show hD (fun i9 T9 q9 e9 => hG i9 T9 q9 e9) p1  e9) kq_23 rfl (by omega) (by decide) rfl rfl (Nat.le_of_ble_eq_true rfl) dX9_other_249 (fun _ T27 h => ?_)
      exact r_vret C M dX9_other_252 h
  rw [if_neg hs26] at h
  by_cases hs28 : p1 = 17
  · rw [if_pos hs28] at h
    refine r_top hs28 ?_
    refine r_tabIn (off := 240) (tgt := 241) C dX9_other_1 (by decide) (by decide) (by decide) (by decide) ?_
    refine r_iload_n C dX9_other_241 rfl 1 rfl ?_
    refine r_bipush (v := 32) C dX9_other_242 (by decide) ?_
    refine r_ic_lt (tgt := 252) C dX9_other_244 (by decide) h (fun h => ?_) (fun h => ?_)
    · exact r_vret C M dX9_other_252 h
    · refine r_aload_n C dX9_other_247 rfl 0 rfl ?_
      refine r_iload_n C dX9_other_248 rfl 1 rfl ?_
      refine r_callVN C M h [.int p1] [] mlX9_277 mcX9_show (fun q9 e9 => s_X9_show hD (fun i9 T9 q9 e9 => hG i9 T9 q9 e9) p1  e9) kq_23 rfl (by omega) (by decide) rfl rfl (Nat.le_of_ble_eq_true rfl) dX9_other_249 (fun _ T29 h => ?_)
      exact r_vret C M dX9_other_252 h
  rw [if_neg hs28] at h
  by_cases hs30 : p1 = 18
  · rw [if_pos hs30] at h
    refine r_top hs30 ?_
    refine r_tabIn (off := 240) (tgt := 241) C dX9_other_1 (by decide) (by decide) (by decide) (by decide) ?_
    refine r_iload_n C dX9_other_241 rfl 1 rfl ?_
    refine r_bipush (v := 32) C dX9_other_242 (by decide) ?_
    refine r_ic_lt (tgt := 252) C dX9_other_244 (by decide) h (fun h => ?_) (fun h => ?_)
    · exact r_vret C M dX9_other_252 h
    · refine r_aload_n C dX9_other_247 rfl 0 rfl ?_
      refine r_iload_n C dX9_other_248 rfl 1 rfl ?_
      refine r_callVN C M h [.int p1] [] mlX9_277 mcX9_show (fun q9 e9 => s_X9_show hD (fun i9 T9 q9 e9 => hG i9 T9 q9 e9) p1  e9) kq_23 rfl (by omega) (by decide) rfl rfl (Nat.le_of_ble_eq_true rfl) dX9_other_249 (fun _ T31 h => ?_)
      exact r_vret C M dX9_other_252 h
  rw [if_neg hs30] at h
  by_cases hs32 : p1 = 19
  · rw [if_pos hs32] at h
    refine r_top hs32 ?_
    refine r_tabIn (off := 240) (tgt := 241) C dX9_other_1 (by decide) (by decide) (by decide) (by decide) ?_
    refine r_iload_n C dX9_other_241 rfl 1 rfl ?_
    refine r_bipush (v := 32) C dX9_other_242 (by decide) ?_
    refine r_ic_lt (tgt := 252) C dX9_other_244 (by decide) h (fun h => ?_) (fun h => ?_)
    · exact r_vret C M dX9_other_252 h
    · refine r_aload_n C dX9_other_247 rfl 0 rfl ?_
      refine r_iload_n C dX9_other_248 rfl 1 rfl ?_
      refine r_callVN C M h [.int p1] [] mlX9_277 mcX9_show (fun q9 e9 => s_X9_show hD (fun i9 T9 q9 e9 => hG i9 T9 q9 e9) p1  e9) kq_23 rfl (by omega) (by decide) rfl rfl (Nat.le_of_ble_eq_true rfl) dX9_other_249 (fun _ T33 h => ?_)
      exact r_vret C M dX9_other_252 h
  rw [if_neg hs32] at h
  by_cases hs34 : p1 = 20
  · rw [if_pos hs34] at h
    refine r_top hs34 ?_
    refine r_tabIn (off := 240) (tgt := 241) C dX9_other_1 (by decide) (by decide) (by decide) (by decide) ?_
    refine r_iload_n C dX9_other_241 rfl 1 rfl ?_
    refine r_bipush (v := 32) C dX9_other_242 (by decide) ?_
    refine r_ic_lt (tgt := 252) C dX9_other_244 (by decide) h (fun h => ?_) (fun h => ?_)
    · exact r_vret C M dX9_other_252 h
    · refine r_aload_n C dX9_other_247 rfl 0 rfl ?_
      refine r_iload_n C dX9_other_248 rfl 1 rfl ?_
      refine r_callVN C M h [.int p1] [] mlX9_277 mcX9_show (fun q9 e9 => s_X9_show hD (fun i9 T9 q9 e9 => hG i9 T9 q9 e9) p1  e9) kq_23 rfl (by omega) (by decide) rfl rfl (Nat.le_of_ble_eq_true rfl) dX9_other_249 (fun _ T35 h => ?_)
      exact r_vret C M dX9_other_252 h
  rw [if_neg hs34] at h
  by_cases hs36 : p1 = 21
  · rw [if_pos hs36] at h
    refine r_top hs36 ?_
    refine r_tabIn (off := 240) (tgt := 241) C dX9_other_1 (by decide) (by decide) (by decide) (by decide) ?_
    refine r_iload_n C dX9_other_241 rfl 1 rfl ?_
    refine r_bipush (v := 32) C dX9_other_242 (by decide) ?_
    refine r_ic_lt (tgt := 252) C dX9_other_244 (by decide) h (fun h => ?_) (fun h => ?_)
    · exact r_vret C M dX9_other_252 h
    · refine r_aload_n C dX9_other_247 rfl 0 rfl ?_
      refine r_iload_n C dX9_other_248 rfl 1 rfl ?_
      refine r_callVN C M h [.int p1] [] mlX9_277 mcX9_show (fun q9 e9 => s_X9_show hD (fun i9 T9 q9 e9 => hG i9 T9 q9 e9) p1  e9) kq_23 rfl (by omega) (by decide) rfl rfl (Nat.le_of_ble_eq_true rfl) dX9_other_249 (fun _ T37 h => ?_)
      exact r_vret C M dX9_other_252 h
  rw [if_neg hs36] at h
  by_cases hs38 : p1 = 22
  · rw [if_pos hs38] at h
    refine r_top hs38 ?_
    refine r_tabIn (off := 240) (tgt := 241) C dX9_other_1 (by decide) (by decide) (by decide) (by decide) ?_
    refine r_iload_n C dX9_other_241 rfl 1 rfl ?_
    refine r_bipush (v := 32) C dX9_other_242 (by decide) ?_
    refine r_ic_lt (tgt := 252) C dX9_other_244 (by decide) h (fun h => ?_) (fun h => ?_)
    · exact r_vret C M dX9_other_252 h
    · refine r_aload_n C dX9_other_247 rfl 0 rfl ?_
      refine r_iload_n C dX9_other_248 rfl 1 rfl ?_
      refine r_callVN C M h [.int p1] [] mlX9_277 mcX9_show (fun q9 e9 => s_X9_show hD (fun i9 T9 q9 e9 => hG i9 T9 q9 e9) p1  e9) kq_23 rfl (by omega) (by decide) rfl rfl (Nat.le_of_ble_eq_true rfl) dX9_other_249 (fun _ T39 h => ?_)
      exact r_vret C M dX9_other_252 h
  rw [if_neg hs38] at h
  by_cases hs40 : p1 = 23
  · rw [if_pos hs40] at h
    refine r_top hs40 ?_
    refine r_tabIn (off := 240) (tgt := 241) C dX9_other_1 (by decide) (by decide) (by decide) (by decide) ?_
    refine r_iload_n C dX9_other_241 rfl 1 rfl ?_
    refine r_bipush (v := 32) C dX9_other_242 (by decide) ?_
    refine r_ic_lt (tgt := 252) C dX9_other_244 (by decide) h (fun h => ?_) (fun h => ?_)
    · exact r_vret C M dX9_other_252 h
    · refine r_aload_n C dX9_other_247 rfl 0 rfl ?_
      refine r_iload_n C dX9_other_248 rfl 1 rfl ?_
      refine r_callVN C M h [.int p1] [] mlX9_277 mcX9_show (fun q9 e9 => s_X9_show hD (fun i9 T9 q9 e9 => hG i9 T9 q9 e9) p1  e9) kq_23 rfl (by omega) (by decide) rfl rfl (Nat.le_of_ble_eq_true rfl) dX9_other_249 (fun _ T41 h => ?_)
      exact r_vret C M dX9_other_252 h
  rw [if_neg hs40] at h
  by_cases hs42 : p1 = 24
  · rw [if_pos hs42] at h
    refine r_top hs42 ?_
    refine r_tabIn (off := 240) (tgt := 241) C dX9_other_1 (by decide) (by decide) (by decide) (by decide) ?_
    refine r_iload_n C dX9_other_241 rfl 1 rfl ?_
    refine r_bipush (v := 32) C dX9_other_242 (by decide) ?_
    refine r_ic_lt (tgt := 252) C dX9_other_244 (by decide) h (fun h => ?_) (fun h => ?_)
    · exact r_vret C M dX9_other_252 h
    · refine r_aload_n C dX9_other_247 rfl 0 rfl ?_
      refine r_iload_n C dX9_other_248 rfl 1 rfl ?_
      refine r_callVN C M h [.int p1] [] mlX9_277 mcX9_show (fun q9 e9 => s_X9_show hD (fun i9 T9 q9 e9 => hG i9 T9 q9 e9) p1  e9) kq_23 rfl (by omega) (by decide) rfl rfl (Nat.le_of_ble_eq_true rfl) dX9_other_249 (fun _ T43 h => ?_)
      exact r_vret C M dX9_other_252 h
  rw [if_neg hs42] at h
  by_cases hs44 : p1 = 25
  · rw [if_pos hs44] at h
    refine r_top hs44 ?_
    refine r_tabIn (off := 240) (tgt := 241) C dX9_other_1 (by decide) (by decide) (by decide) (by decide) ?_
    refine r_iload_n C dX9_other_241 rfl 1 rfl ?_
    refine r_bipush (v := 32) C dX9_other_242 (by decide) ?_
    refine r_ic_lt (tgt := 252) C dX9_other_244 (by decide) h (fun h => ?_) (fun h => ?_)
    · exact r_vret C M dX9_other_252 h
    · refine r_aload_n C dX9_other_247 rfl 0 rfl ?_
      refine r_iload_n C dX9_other_248 rfl 1 rfl ?_
      refine r_callVN C M h [.int p1] [] mlX9_277 mcX9_show (fun q9 e9 => s_X9_show hD (fun i9 T9 q9 e9 => hG i9 T9 q9 e9) p1  e9) kq_23 rfl (by omega) (by decide) rfl rfl (Nat.le_of_ble_eq_true rfl) dX9_other_249 (fun _ T45 h => ?_)
      exact r_vret C M dX9_other_252 h
  rw [if_neg hs44] at h
  by_cases hs46 : p1 = 26
  · rw [if_pos hs46] at h
    refine r_top hs46 ?_
    refine r_tabIn (off := 240) (tgt := 241) C dX9_other_1 (by decide) (by decide) (by decide) (by decide) ?_
    refine r_iload_n C dX9_other_241 rfl 1 rfl ?_
    refine r_bipush (v := 32) C dX9_other_242 (by decide) ?_
    refine r_ic_lt (tgt := 252) C dX9_other_244 (by decide) h (fun h => ?_) (fun h => ?_)
    · exact r_vret C M dX9_other_252 h
    · refine r_aload_n C dX9_other_247 rfl 0 rfl ?_
      refine r_iload_n C dX9_other_248 rfl 1 rfl ?_
      refine r_callVN C M h [.int p1] [] mlX9_277 mcX9_show (fun q9 e9 => s_X9_show hD (fun i9 T9 q9 e9 => hG i9 T9 q9 e9) p1  e9) kq_23 rfl (by omega) (by decide) rfl rfl (Nat.le_of_ble_eq_true rfl) dX9_other_249 (fun _ T47 h => ?_)
      exact r_vret C M dX9_other_252 h
  rw [if_neg hs46] at h
  by_cases hs48 : p1 = 27
  · rw [if_pos hs48] at h
    refine r_top hs48 ?_
    refine r_tabIn (off := 233) (tgt := 234) C dX9_other_1 (by decide) (by decide) (by decide) (by decide) ?_
    refine r_aload_n C dX9_other_234 rfl 0 rfl ?_
    refine r_callVN C M h [] [] mlX9_274 mcX9_beginSequence (fun q9 e9 => s_X9_beginSequence hD (fun i9 T9 q9 e9 => hG i9 T9 q9 e9)   e9) kq_23 rfl (by omega) (by decide) rfl rfl (Nat.le_of_ble_eq_true rfl) dX9_other_235 (fun _ T49 h => ?_)
    refine r_goto (tgt := 252) C dX9_other_238 (by decide) ?_
    exact r_vret C M dX9_other_252 h
  rw [if_neg hs48] at h
  refine r_tabOut (tgt := 241) C dX9_other_1 (by have t09 : (p1).toInt ≠ 8 := ne_toInt hs1 (by decide); have t19 : (p1).toInt ≠ 9 := ne_toInt hs3 (by decide); have t29 : (p1).toInt ≠ 10 := ne_toInt hs5 (by decide); have t39 : (p1).toInt ≠ 11 := ne_toInt hs8 (by decide); have t49 : (p1).toInt ≠ 12 := ne_toInt hs10 (by decide); have t59 : (p1).toInt ≠ 13 := ne_toInt hs13 (by decide); have t69 : (p1).toInt ≠ 14 := ne_toInt hs16 (by decide); have t79 : (p1).toInt ≠ 15 := ne_toInt hs21 (by decide); have t89 : (p1).toInt ≠ 16 := ne_toInt hs26 (by decide); have t99 : (p1).toInt ≠ 17 := ne_toInt hs28 (by decide); have t109 : (p1).toInt ≠ 18 := ne_toInt hs30 (by decide); have t119 : (p1).toInt ≠ 19 := ne_toInt hs32 (by decide); have t129 : (p1).toInt ≠ 20 := ne_toInt hs34 (by decide); have t139 : (p1).toInt ≠ 21 := ne_toInt hs36 (by decide); have t149 : (p1).toInt ≠ 22 := ne_toInt hs38 (by decide); have t159 : (p1).toInt ≠ 23 := ne_toInt hs40 (by decide); have t169 : (p1).toInt ≠ 24 := ne_toInt hs42 (by decide); have t179 : (p1).toInt ≠ 25 := ne_toInt hs44 (by decide); have t189 : (p1).toInt ≠ 26 := ne_toInt hs46 (by decide); have t199 : (p1).toInt ≠ 27 := ne_toInt hs48 (by decide); omega) (by decide) ?_
  refine r_iload_n C dX9_other_241 rfl 1 rfl ?_
  refine r_bipush (v := 32) C dX9_other_242 (by decide) ?_
  refine r_ic_lt (tgt := 252) C dX9_other_244 (by decide) h (fun h => ?_) (fun h => ?_)
  · exact r_vret C M dX9_other_252 h
  · refine r_aload_n C dX9_other_247 rfl 0 rfl ?_
    refine r_iload_n C dX9_other_248 rfl 1 rfl ?_
    refine r_callVN C M h [.int p1] [] mlX9_277 mcX9_show (fun q9 e9 => s_X9_show hD (fun i9 T9 q9 e9 => hG i9 T9 q9 e9) p1  e9) kq_23 rfl (by omega) (by decide) rfl rfl (Nat.le_of_ble_eq_true rfl) dX9_other_249 (fun _ T50 h => ?_)
    exact r_vret C M dX9_other_252 h
theorem dX5_isDigit_0 : decode cX5_isDigit 0 = .ok (.aload_n 0, 1) := by decide +kernel
theorem dX5_isDigit_1 : decode cX5_isDigit 1 = .ok (.iload_n 1, 1) := by decide +kernel
theorem dX5_isDigit_2 : decode cX5_isDigit 2 = .ok (.invokevirtual 34, 3) := by decide +kernel
theorem dX5_isDigit_5 : decode cX5_isDigit 5 = .ok (.istore_n 2, 1) := by decide +kernel
theorem dX5_isDigit_6 : decode cX5_isDigit 6 = .ok (.iload_n 2, 1) := by decide +kernel
theorem dX5_isDigit_7 : decode cX5_isDigit 7 = .ok (.bipush 48, 2) := by decide +kernel
theorem dX5_isDigit_9 : decode cX5_isDigit 9 = .ok (.if_icmp .lt 13, 3) := by decide +kernel
theorem dX5_isDigit_12 : decode cX5_isDigit 12 = .ok (.iload_n 2, 1) := by decide +kernel
theorem dX5_isDigit_13 : decode cX5_isDigit 13 = .ok (.bipush 57, 2) := by decide +kernel
theorem dX5_isDigit_15 : decode cX5_isDigit 15 = .ok (.if_icmp .gt 7, 3) := by decide +kernel
theorem dX5_isDigit_18 : decode cX5_isDigit 18 = .ok (.iconst 1, 1) := by decide +kernel
theorem dX5_isDigit_19 : decode cX5_isDigit 19 = .ok (.goto 4, 3) := by decide +kernel
theorem dX5_isDigit_22 : decode cX5_isDigit 22 = .ok (.iconst 0, 1) := by decide +kernel
theorem dX5_isDigit_23 : decode cX5_isDigit 23 = .ok (.ireturn, 1) := by decide +kernel
noncomputable def f_X5_isDigit (p0 : Nat) (p1 : Int32) (T : Mm) : Option (Int32 × Mm) :=
  bd (f_X5_byteAt p0 p1 T) fun v1 T2 =>
  if v1 < 48 then (some (0, T2))
  else (if 57 < v1 then (some (0, T2))
  else (some (1, T2)))
set_option maxRecDepth 100000 in
set_option maxHeartbeats 4000000 in
theorem s_X5_isDigit {ad : Nat → Nat} {U T : Mm} {q : Int32 × Mm}  (p0 : Nat) (p1 : Int32) (hk0 : kS true p0 = 5) (h : f_X5_isDigit p0 p1 T = some q) : Cr 2 yX5_isDigit cX5_isDigit 3 (some .boolean) [.ref (ad p0), .int p1] ad true U T eI q := by
  refine cr_of (by decide) (Nat.le_of_ble_eq_true rfl) fun x S0 hn9 C M => ?_
  have C : CB x RX5 cX5_isDigit := C
  refine Jr.eq (lv' := [(0, .ref (ad p0)), (1, .int p1)]) (st' := []) rfl rfl ?_
  unfold f_X5_isDigit at h
  refine r_aload_n C dX5_isDigit_0 rfl 0 rfl ?_
  refine r_iload_n C dX5_isDigit_1 rfl 1 rfl ?_
  refine r_callVI C M h [.int p1] [] mlX5_34 mcX5_byteAt (fun q9 e9 => s_X5_byteAt p0 p1 hk0 e9) hk0 rfl (by decide) (by decide) rfl rfl (Nat.le_of_ble_eq_true rfl) dX5_isDigit_2 (fun v1 T2 h => ?_)
  refine r_istore_n (lv' := [(2, .int v1), (0, .ref (ad p0)), (1, .int p1)]) C dX5_isDigit_5 rfl (by rw [hn9]; decide) rfl ?_
  refine r_iload_n C dX5_isDigit_6 rfl 0 rfl ?_
  show Jr _ _ _ _ _ _ 7 _
  refine r_bipush (v := 48) C dX5_isDigit_7 (by decide) ?_
  refine r_ic_lt (tgt := 22) C dX5_isDigit_9 (by decide) h (fun h => ?_) (fun h => ?_)
  · refine r_iconst (v := 0) C dX5_isDigit_22 (by decide) ?_
    exact r_zret C M dX5_isDigit_23 (by decide) h
  · refine r_iload_n C dX5_isDigit_12 rfl 0 rfl ?_
    refine r_bipush (v := 57) C dX5_isDigit_13 (by decide) ?_
    refine r_ic_gt (tgt := 22) C dX5_isDigit_15 (by decide) h (fun h => ?_) (fun h => ?_)
    · refine r_iconst (v := 0) C dX5_isDigit_22 (by decide) ?_
      exact r_zret C M dX5_isDigit_23 (by decide) h
    · refine r_iconst (v := 1) C dX5_isDigit_18 (by decide) ?_
      refine r_goto (tgt := 23) C dX5_isDigit_19 (by decide) ?_
      exact r_zret C M dX5_isDigit_23 (by decide) h
theorem dX5_readValue_0 : decode cX5_readValue 0 = .ok (.aload_n 0, 1) := by decide +kernel
theorem dX5_readValue_1 : decode cX5_readValue 1 = .ok (.getfield 21, 3) := by decide +kernel
theorem dX5_readValue_4 : decode cX5_readValue 4 = .ok (.istore_n 1, 1) := by decide +kernel
theorem dX5_readValue_5 : decode cX5_readValue 5 = .ok (.aload_n 0, 1) := by decide +kernel
theorem dX5_readValue_6 : decode cX5_readValue 6 = .ok (.iload_n 1, 1) := by decide +kernel
theorem dX5_readValue_7 : decode cX5_readValue 7 = .ok (.invokevirtual 34, 3) := by decide +kernel
theorem dX5_readValue_10 : decode cX5_readValue 10 = .ok (.istore_n 2, 1) := by decide +kernel
theorem dX5_readValue_11 : decode cX5_readValue 11 = .ok (.aload_n 0, 1) := by decide +kernel
theorem dX5_readValue_12 : decode cX5_readValue 12 = .ok (.iload_n 2, 1) := by decide +kernel
theorem dX5_readValue_13 : decode cX5_readValue 13 = .ok (.bipush 45, 2) := by decide +kernel
theorem dX5_readValue_15 : decode cX5_readValue 15 = .ok (.if_icmp .ne 7, 3) := by decide +kernel
theorem dX5_readValue_18 : decode cX5_readValue 18 = .ok (.iconst 1, 1) := by decide +kernel
theorem dX5_readValue_19 : decode cX5_readValue 19 = .ok (.goto 4, 3) := by decide +kernel
theorem dX5_readValue_22 : decode cX5_readValue 22 = .ok (.iconst 0, 1) := by decide +kernel
theorem dX5_readValue_23 : decode cX5_readValue 23 = .ok (.putfield 38, 3) := by decide +kernel
theorem dX5_readValue_26 : decode cX5_readValue 26 = .ok (.aload_n 0, 1) := by decide +kernel
theorem dX5_readValue_27 : decode cX5_readValue 27 = .ok (.aload_n 0, 1) := by decide +kernel
theorem dX5_readValue_28 : decode cX5_readValue 28 = .ok (.getfield 38, 3) := by decide +kernel
theorem dX5_readValue_31 : decode cX5_readValue 31 = .ok (.ifCond .ne 9, 3) := by decide +kernel
theorem dX5_readValue_34 : decode cX5_readValue 34 = .ok (.iload_n 2, 1) := by decide +kernel
theorem dX5_readValue_35 : decode cX5_readValue 35 = .ok (.bipush 43, 2) := by decide +kernel
theorem dX5_readValue_37 : decode cX5_readValue 37 = .ok (.if_icmp .ne 7, 3) := by decide +kernel
theorem dX5_readValue_40 : decode cX5_readValue 40 = .ok (.iconst 1, 1) := by decide +kernel
theorem dX5_readValue_41 : decode cX5_readValue 41 = .ok (.goto 4, 3) := by decide +kernel
theorem dX5_readValue_44 : decode cX5_readValue 44 = .ok (.iconst 0, 1) := by decide +kernel
theorem dX5_readValue_45 : decode cX5_readValue 45 = .ok (.putfield 42, 3) := by decide +kernel
theorem dX5_readValue_48 : decode cX5_readValue 48 = .ok (.aload_n 0, 1) := by decide +kernel
theorem dX5_readValue_49 : decode cX5_readValue 49 = .ok (.getfield 42, 3) := by decide +kernel
theorem dX5_readValue_52 : decode cX5_readValue 52 = .ok (.ifCond .eq 6, 3) := by decide +kernel
theorem dX5_readValue_55 : decode cX5_readValue 55 = .ok (.iinc 1 1, 3) := by decide +kernel
theorem dX5_readValue_58 : decode cX5_readValue 58 = .ok (.aload_n 0, 1) := by decide +kernel
theorem dX5_readValue_59 : decode cX5_readValue 59 = .ok (.iconst 0, 1) := by decide +kernel
theorem dX5_readValue_60 : decode cX5_readValue 60 = .ok (.putfield 45, 3) := by decide +kernel
theorem dX5_readValue_63 : decode cX5_readValue 63 = .ok (.aload_n 0, 1) := by decide +kernel
theorem dX5_readValue_64 : decode cX5_readValue 64 = .ok (.iconst 0, 1) := by decide +kernel
theorem dX5_readValue_65 : decode cX5_readValue 65 = .ok (.putfield 48, 3) := by decide +kernel
theorem dX5_readValue_68 : decode cX5_readValue 68 = .ok (.iload_n 1, 1) := by decide +kernel
theorem dX5_readValue_69 : decode cX5_readValue 69 = .ok (.aload_n 0, 1) := by decide +kernel
theorem dX5_readValue_70 : decode cX5_readValue 70 = .ok (.getfield 28, 3) := by decide +kernel
theorem dX5_readValue_73 : decode cX5_readValue 73 = .ok (.if_icmp .ge 43, 3) := by decide +kernel
theorem dX5_readValue_76 : decode cX5_readValue 76 = .ok (.aload_n 0, 1) := by decide +kernel
theorem dX5_readValue_77 : decode cX5_readValue 77 = .ok (.iload_n 1, 1) := by decide +kernel
theorem dX5_readValue_78 : decode cX5_readValue 78 = .ok (.invokevirtual 51, 3) := by decide +kernel
theorem dX5_readValue_81 : decode cX5_readValue 81 = .ok (.ifCond .eq 35, 3) := by decide +kernel
theorem dX5_readValue_84 : decode cX5_readValue 84 = .ok (.aload_n 0, 1) := by decide +kernel
theorem dX5_readValue_85 : decode cX5_readValue 85 = .ok (.bipush 10, 2) := by decide +kernel
theorem dX5_readValue_87 : decode cX5_readValue 87 = .ok (.aload_n 0, 1) := by decide +kernel
theorem dX5_readValue_88 : decode cX5_readValue 88 = .ok (.getfield 45, 3) := by decide +kernel
theorem dX5_readValue_91 : decode cX5_readValue 91 = .ok (.imul, 1) := by decide +kernel
theorem dX5_readValue_92 : decode cX5_readValue 92 = .ok (.aload_n 0, 1) := by decide +kernel
theorem dX5_readValue_93 : decode cX5_readValue 93 = .ok (.iload_n 1, 1) := by decide +kernel
theorem dX5_readValue_94 : decode cX5_readValue 94 = .ok (.invokevirtual 34, 3) := by decide +kernel
theorem dX5_readValue_97 : decode cX5_readValue 97 = .ok (.iadd, 1) := by decide +kernel
theorem dX5_readValue_98 : decode cX5_readValue 98 = .ok (.bipush 48, 2) := by decide +kernel
theorem dX5_readValue_100 : decode cX5_readValue 100 = .ok (.isub, 1) := by decide +kernel
theorem dX5_readValue_101 : decode cX5_readValue 101 = .ok (.sipush 32767, 3) := by decide +kernel
theorem dX5_readValue_104 : decode cX5_readValue 104 = .ok (.invokestatic 25, 3) := by decide +kernel
theorem dX5_readValue_107 : decode cX5_readValue 107 = .ok (.putfield 45, 3) := by decide +kernel
theorem dX5_readValue_110 : decode cX5_readValue 110 = .ok (.iinc 1 1, 3) := by decide +kernel
theorem dX5_readValue_113 : decode cX5_readValue 113 = .ok (.goto (-45), 3) := by decide +kernel
theorem dX5_readValue_116 : decode cX5_readValue 116 = .ok (.aload_n 0, 1) := by decide +kernel
theorem dX5_readValue_117 : decode cX5_readValue 117 = .ok (.iload_n 1, 1) := by decide +kernel
theorem dX5_readValue_118 : decode cX5_readValue 118 = .ok (.invokevirtual 34, 3) := by decide +kernel
theorem dX5_readValue_121 : decode cX5_readValue 121 = .ok (.bipush 46, 2) := by decide +kernel
theorem dX5_readValue_123 : decode cX5_readValue 123 = .ok (.if_icmp .ne 56, 3) := by decide +kernel
theorem dX5_readValue_126 : decode cX5_readValue 126 = .ok (.iinc 1 1, 3) := by decide +kernel
theorem dX5_readValue_129 : decode cX5_readValue 129 = .ok (.sipush 1000, 3) := by decide +kernel
theorem dX5_readValue_132 : decode cX5_readValue 132 = .ok (.istore_n 3, 1) := by decide +kernel
theorem dX5_readValue_133 : decode cX5_readValue 133 = .ok (.iload_n 1, 1) := by decide +kernel
theorem dX5_readValue_134 : decode cX5_readValue 134 = .ok (.aload_n 0, 1) := by decide +kernel
theorem dX5_readValue_135 : decode cX5_readValue 135 = .ok (.getfield 28, 3) := by decide +kernel
theorem dX5_readValue_138 : decode cX5_readValue 138 = .ok (.if_icmp .ge 41, 3) := by decide +kernel
theorem dX5_readValue_141 : decode cX5_readValue 141 = .ok (.aload_n 0, 1) := by decide +kernel
theorem dX5_readValue_142 : decode cX5_readValue 142 = .ok (.iload_n 1, 1) := by decide +kernel
theorem dX5_readValue_143 : decode cX5_readValue 143 = .ok (.invokevirtual 51, 3) := by decide +kernel
theorem dX5_readValue_146 : decode cX5_readValue 146 = .ok (.ifCond .eq 33, 3) := by decide +kernel
theorem dX5_readValue_149 : decode cX5_readValue 149 = .ok (.aload_n 0, 1) := by decide +kernel
theorem dX5_readValue_150 : decode cX5_readValue 150 = .ok (.dup, 1) := by decide +kernel
theorem dX5_readValue_151 : decode cX5_readValue 151 = .ok (.getfield 48, 3) := by decide +kernel
theorem dX5_readValue_154 : decode cX5_readValue 154 = .ok (.aload_n 0, 1) := by decide +kernel
theorem dX5_readValue_155 : decode cX5_readValue 155 = .ok (.iload_n 1, 1) := by decide +kernel
theorem dX5_readValue_156 : decode cX5_readValue 156 = .ok (.invokevirtual 34, 3) := by decide +kernel
theorem dX5_readValue_159 : decode cX5_readValue 159 = .ok (.bipush 48, 2) := by decide +kernel
theorem dX5_readValue_161 : decode cX5_readValue 161 = .ok (.isub, 1) := by decide +kernel
theorem dX5_readValue_162 : decode cX5_readValue 162 = .ok (.iload_n 3, 1) := by decide +kernel
theorem dX5_readValue_163 : decode cX5_readValue 163 = .ok (.imul, 1) := by decide +kernel
theorem dX5_readValue_164 : decode cX5_readValue 164 = .ok (.iadd, 1) := by decide +kernel
theorem dX5_readValue_165 : decode cX5_readValue 165 = .ok (.putfield 48, 3) := by decide +kernel
theorem dX5_readValue_168 : decode cX5_readValue 168 = .ok (.iload_n 3, 1) := by decide +kernel
theorem dX5_readValue_169 : decode cX5_readValue 169 = .ok (.bipush 10, 2) := by decide +kernel
theorem dX5_readValue_171 : decode cX5_readValue 171 = .ok (.idiv, 1) := by decide +kernel
theorem dX5_readValue_172 : decode cX5_readValue 172 = .ok (.istore_n 3, 1) := by decide +kernel
theorem dX5_readValue_173 : decode cX5_readValue 173 = .ok (.iinc 1 1, 3) := by decide +kernel
theorem dX5_readValue_176 : decode cX5_readValue 176 = .ok (.goto (-43), 3) := by decide +kernel
theorem dX5_readValue_179 : decode cX5_readValue 179 = .ok (.iload_n 1, 1) := by decide +kernel
theorem dX5_readValue_180 : decode cX5_readValue 180 = .ok (.aload_n 0, 1) := by decide +kernel
theorem dX5_readValue_181 : decode cX5_readValue 181 = .ok (.getfield 21, 3) := by decide +kernel
theorem dX5_readValue_184 : decode cX5_readValue 184 = .ok (.isub, 1) := by decide +kernel
theorem dX5_readValue_185 : decode cX5_readValue 185 = .ok (.ireturn, 1) := by decide +kernel
noncomputable def f_X5_readValue_b133 (k133 : Nat → Int32 → Int32 → Mm → Option (Int32 × Mm)) (a0 : Nat) (a1 : Int32) (a3 : Int32) (T : Mm) : Option (Int32 × Mm) :=
  if (gI T 502 a0) ≤ a1 then (some ((a1 - (gI T 501 a0)), T))
  else (bd (f_X5_isDigit a0 a1 T) fun v1 T2 =>
  if v1 = 0 then (some ((a1 - (gI T2 501 a0)), T2))
  else (bd (f_X5_byteAt a0 a1 T2) fun v3 T4 =>
  lb (uI T4 510 a0 ((gI T2 510 a0) + ((v3 - 48) * a3))) fun T5 =>
  lb ((a3 / 10)) fun v6 =>
  k133 a0 (a1 + 1) v6 T5))
set_option maxRecDepth 100000 in
set_option maxHeartbeats 4000000 in
theorem s_X5_readValue_b133 {x : JX} {ad : Nat → Nat} {U : Mm} {S0 : Hp} {q : Int32 × Mm}  {k133 : Nat → Int32 → Int32 → Mm → Option (Int32 × Mm)} (hn9 : x_n x = 4) (C : CB x RX5 cX5_readValue) (M : CMr x 3 (some .int) S0 ad true U eI q) (hk133 : ∀ (a0 : Nat) (a1 : Int32) (a3 : Int32) (T : Mm) (_ : kS true a0 = 5), k133 a0 a1 a3 T = some q → Jr x ad true U T [(0, .ref (ad a0)), (1, .int a1), (3, .int a3)] 133 []) (a0 : Nat) (a1 : Int32) (a3 : Int32) (T : Mm) (ha0 : kS true a0 = 5) (h : f_X5_readValue_b133 k133 a0 a1 a3 T = some q) : Jr x ad true U T [(0, .ref (ad a0)), (1, .int a1), (3, .int a3)] 133 [] := by
  unfold f_X5_readValue_b133 at h
  refine r_iload_n C dX5_readValue_133 rfl 1 rfl ?_
  refine r_aload_n C dX5_readValue_134 rfl 0 rfl ?_
  refine r_geti (f := 502) C flX5_28 dX5_readValue_135 ha0 (by decide) (by decide) rfl ?_
  refine r_ic_ge (tgt := 179) C dX5_readValue_138 (by decide) h (fun h => ?_) (fun h => ?_)
  · refine r_iload_n C dX5_readValue_179 rfl 1 rfl ?_
    refine r_aload_n C dX5_readValue_180 rfl 0 rfl ?_
    refine r_geti (f := 501) C flX5_21 dX5_readValue_181 ha0 (by decide) (by decide) rfl ?_
    refine r_isub C dX5_readValue_184 rfl ?_
    exact r_iret C M dX5_readValue_185 h
  · refine r_aload_n C dX5_readValue_141 rfl 0 rfl ?_
    refine r_iload_n C dX5_readValue_142 rfl 1 rfl ?_
    refine r_callVI C M h [.int a1] [] mlX5_51 mcX5_isDigit (fun q9 e9 => s_X5_isDigit a0 a1 ha0 e9) ha0 rfl (by decide) (by decide) rfl rfl (Nat.le_of_ble_eq_true rfl) dX5_readValue_143 (fun v1 T2 h => ?_)
    refine r_if_eq (tgt := 179) C dX5_readValue_146 (by decide) h (fun h => ?_) (fun h => ?_)
    · refine r_iload_n C dX5_readValue_179 rfl 1 rfl ?_
      refine r_aload_n C dX5_readValue_180 rfl 0 rfl ?_
      refine r_geti (f := 501) C flX5_21 dX5_readValue_181 ha0 (by decide) (by decide) rfl ?_
      refine r_isub C dX5_readValue_184 rfl ?_
      exact r_iret C M dX5_readValue_185 h
    · refine r_aload_n C dX5_readValue_149 rfl 0 rfl ?_
      refine r_dup C dX5_readValue_150 rfl ?_
      refine r_geti (f := 510) C flX5_48 dX5_readValue_151 ha0 (by decide) (by decide) rfl ?_
      refine r_aload_n C dX5_readValue_154 rfl 0 rfl ?_
      refine r_iload_n C dX5_readValue_155 rfl 1 rfl ?_
      show Jr _ _ _ _ _ _ 156 _
      refine r_callVI C M h [.int a1] [.int (gI T2 510 a0), .ref (ad a0)] mlX5_34 mcX5_byteAt (fun q9 e9 => s_X5_byteAt a0 a1 ha0 e9) ha0 rfl (by decide) (by decide) rfl rfl (Nat.le_of_ble_eq_true rfl) dX5_readValue_156 (fun v3 T4 h => ?_)
      refine r_bipush (v := 48) C dX5_readValue_159 (by decide) ?_
      refine r_isub C dX5_readValue_161 rfl ?_
      refine r_iload_n C dX5_readValue_162 rfl 2 rfl ?_
      refine r_imul C dX5_readValue_163 rfl ?_
      refine r_iadd C dX5_readValue_164 rfl ?_
      show Jr _ _ _ _ _ _ 165 _
      refine r_puti (f := 510) C flX5_48 (by decide) rfl rfl dX5_readValue_165 ha0 rfl h (fun T5 h => ?_)
      refine r_iload_n C dX5_readValue_168 rfl 2 rfl ?_
      refine r_bipush (v := 10) C dX5_readValue_169 (by decide) ?_
      refine r_idiv C dX5_readValue_171 (by decide) rfl ?_
      refine r_lbI h (fun v6 h => ?_)
      refine r_istore_n (lv' := [(3, .int v6), (0, .ref (ad a0)), (1, .int a1)]) C dX5_readValue_172 rfl (by rw [hn9]; decide) rfl ?_
      refine r_iinc (q := 2) (v := (a1 + 1)) (lv' := [(1, .int (a1 + 1)), (3, .int v6), (0, .ref (ad a0))]) C dX5_readValue_173 rfl (by rw [show Int32.ofInt (1) = 1 by decide]) (by rw [hn9]; decide) rfl ?_
      show Jr _ _ _ _ _ _ 176 _
      refine r_goto (tgt := 133) C dX5_readValue_176 (by decide) ?_
      refine Jr.sub [2, 0, 1] (lv' := [(0, .ref (ad a0)), (1, .int (a1 + 1)), (3, .int v6)]) rfl ?_
      exact hk133 a0 (a1 + 1) v6 T5 ha0 h
noncomputable def f_X5_readValue_l133 (n : Nat) : Nat → Int32 → Int32 → Mm → Option (Int32 × Mm) := Nat.rec (fun _ _ _ _ => none) (fun _ ih => f_X5_readValue_b133 ih) n
theorem s_X5_readValue_l133 {x : JX} {ad : Nat → Nat} {U : Mm} {S0 : Hp} {q : Int32 × Mm}  (hn9 : x_n x = 4) (C : CB x RX5 cX5_readValue) (M : CMr x 3 (some .int) S0 ad true U eI q) : ∀ (n : Nat), ∀ (a0 : Nat) (a1 : Int32) (a3 : Int32) (T : Mm) (_ : kS true a0 = 5), f_X5_readValue_l133  n a0 a1 a3 T = some q → Jr x ad true U T [(0, .ref (ad a0)), (1, .int a1), (3, .int a3)] 133 [] := by
  intro n
  induction n with
  | zero => intro a0 a1 a3 T _ h; exact absurd h (by intro h; cases h)
  | succ n ih => exact fun a0 a1 a3 T ha0 h => s_X5_readValue_b133 hn9 C M (ih) a0 a1 a3 T ha0 h
noncomputable def f_X5_readValue_116 (a0 : Nat) (a1 : Int32) (T : Mm) : Option (Int32 × Mm) :=
  bd (f_X5_byteAt a0 a1 T) fun v1 T2 =>
  if v1 = 46 then (f_X5_readValue_l133 FU a0 (a1 + 1) 1000 T2)
  else (some ((a1 - (gI T2 501 a0)), T2))
set_option maxRecDepth 100000 in
set_option maxHeartbeats 4000000 in
theorem s_X5_readValue_116 {x : JX} {ad : Nat → Nat} {U : Mm} {S0 : Hp} {q : Int32 × Mm}  (hn9 : x_n x = 4) (C : CB x RX5 cX5_readValue) (M : CMr x 3 (some .int) S0 ad true U eI q) (a0 : Nat) (a1 : Int32) (T : Mm) (ha0 : kS true a0 = 5) (h : f_X5_readValue_116  a0 a1 T = some q) : Jr x ad true U T [(0, .ref (ad a0)), (1, .int a1)] 116 [] := by
  unfold f_X5_readValue_116 at h
  refine r_aload_n C dX5_readValue_116 rfl 0 rfl ?_
  refine r_iload_n C dX5_readValue_117 rfl 1 rfl ?_
  refine r_callVI C M h [.int a1] [] mlX5_34 mcX5_byteAt (fun q9 e9 => s_X5_byteAt a0 a1 ha0 e9) ha0 rfl (by decide) (by decide) rfl rfl (Nat.le_of_ble_eq_true rfl) dX5_readValue_118 (fun v1 T2 h => ?_)
  refine r_bipush (v := 46) C dX5_readValue_121 (by decide) ?_
  refine r_ic_ne (tgt := 179) C dX5_readValue_123 (by decide) h (fun h => ?_) (fun h => ?_)
  · refine r_iload_n C dX5_readValue_179 rfl 1 rfl ?_
    refine r_aload_n C dX5_readValue_180 rfl 0 rfl ?_
    refine r_geti (f := 501) C flX5_21 dX5_readValue_181 ha0 (by decide) (by decide) rfl ?_
    refine r_isub C dX5_readValue_184 rfl ?_
    exact r_iret C M dX5_readValue_185 h
  · refine r_iinc (q := 1) (v := (a1 + 1)) (lv' := [(1, .int (a1 + 1)), (0, .ref (ad a0))]) C dX5_readValue_126 rfl (by rw [show Int32.ofInt (1) = 1 by decide]) (by rw [hn9]; decide) rfl ?_
    refine r_sipush (v := 1000) C dX5_readValue_129 (by decide) ?_
    refine r_istore_n (lv' := [(3, .int 1000), (1, .int (a1 + 1)), (0, .ref (ad a0))]) C dX5_readValue_132 rfl (by rw [hn9]; decide) rfl ?_
    refine Jr.sub [2, 1, 0] (lv' := [(0, .ref (ad a0)), (1, .int (a1 + 1)), (3, .int 1000)]) rfl ?_
    exact s_X5_readValue_l133 hn9 C M  FU a0 (a1 + 1) 1000 T2 ha0 h
noncomputable def f_X5_readValue_b68 (k68 : Nat → Int32 → Mm → Option (Int32 × Mm)) (a0 : Nat) (a1 : Int32) (T : Mm) : Option (Int32 × Mm) :=
  if (gI T 502 a0) ≤ a1 then (f_X5_readValue_116 a0 a1 T)
  else (bd (f_X5_isDigit a0 a1 T) fun v1 T2 =>
  if v1 = 0 then (f_X5_readValue_116 a0 a1 T2)
  else (bd (f_X5_byteAt a0 a1 T2) fun v3 T4 =>
  bd (f_J9_min_7cf53 ((((10 : Int32) * (gI T2 509 a0)) + v3) - 48) 32767 T4) fun v5 T6 =>
  lb (uI T6 509 a0 v5) fun T7 =>
  k68 a0 (a1 + 1) T7))
set_option maxRecDepth 100000 in
set_option maxHeartbeats 4000000 in
theorem s_X5_readValue_b68 {x : JX} {ad : Nat → Nat} {U : Mm} {S0 : Hp} {q : Int32 × Mm}  {k68 : Nat → Int32 → Mm → Option (Int32 × Mm)} (hn9 : x_n x = 4) (C : CB x RX5 cX5_readValue) (M : CMr x 3 (some .int) S0 ad true U eI q) (hk68 : ∀ (a0 : Nat) (a1 : Int32) (T : Mm) (_ : kS true a0 = 5), k68 a0 a1 T = some q → Jr x ad true U T [(0, .ref (ad a0)), (1, .int a1)] 68 []) (a0 : Nat) (a1 : Int32) (T : Mm) (ha0 : kS true a0 = 5) (h : f_X5_readValue_b68 k68 a0 a1 T = some q) : Jr x ad true U T [(0, .ref (ad a0)), (1, .int a1)] 68 [] := by
  unfold f_X5_readValue_b68 at h
  refine r_iload_n C dX5_readValue_68 rfl 1 rfl ?_
  refine r_aload_n C dX5_readValue_69 rfl 0 rfl ?_
  refine r_geti (f := 502) C flX5_28 dX5_readValue_70 ha0 (by decide) (by decide) rfl ?_
  refine r_ic_ge (tgt := 116) C dX5_readValue_73 (by decide) h (fun h => ?_) (fun h => ?_)
  · exact s_X5_readValue_116 hn9 C M  a0 a1 T ha0 h
  · refine r_aload_n C dX5_readValue_76 rfl 0 rfl ?_
    refine r_iload_n C dX5_readValue_77 rfl 1 rfl ?_
    refine r_callVI C M h [.int a1] [] mlX5_51 mcX5_isDigit (fun q9 e9 => s_X5_isDigit a0 a1 ha0 e9) ha0 rfl (by decide) (by decide) rfl rfl (Nat.le_of_ble_eq_true rfl) dX5_readValue_78 (fun v1 T2 h => ?_)
    refine r_if_eq (tgt := 116) C dX5_readValue_81 (by decide) h (fun h => ?_) (fun h => ?_)
    · exact s_X5_readValue_116 hn9 C M  a0 a1 T2 ha0 h
    · refine r_aload_n C dX5_readValue_84 rfl 0 rfl ?_
      refine r_bipush (v := 10) C dX5_readValue_85 (by decide) ?_
      refine r_aload_n C dX5_readValue_87 rfl 0 rfl ?_
      refine r_geti (f := 509) C flX5_45 dX5_readValue_88 ha0 (by decide) (by decide) rfl ?_
      refine r_imul C dX5_readValue_91 rfl ?_
      show Jr _ _ _ _ _ _ 92 _
      refine r_aload_n C dX5_readValue_92 rfl 0 rfl ?_
      refine r_iload_n C dX5_readValue_93 rfl 1 rfl ?_
      refine r_callVI C M h [.int a1] [.int ((10 : Int32) * (gI T2 509 a0)), .ref (ad a0)] mlX5_34 mcX5_byteAt (fun q9 e9 => s_X5_byteAt a0 a1 ha0 e9) ha0 rfl (by decide) (by decide) rfl rfl (Nat.le_of_ble_eq_true rfl) dX5_readValue_94 (fun v3 T4 h => ?_)
      refine r_iadd C dX5_readValue_97 rfl ?_
      refine r_bipush (v := 48) C dX5_readValue_98 (by decide) ?_
      refine r_isub C dX5_readValue_100 rfl ?_
      show Jr _ _ _ _ _ _ 101 _
      refine r_sipush (v := 32767) C dX5_readValue_101 (by decide) ?_
      refine r_callSI C M h [.int ((((10 : Int32) * (gI T2 509 a0)) + v3) - 48), .int 32767] [.ref (ad a0)] mlX5_25 mcJ9_min_7cf53 (fun q9 e9 => s_J9_min_7cf53 ((((10 : Int32) * (gI T2 509 a0)) + v3) - 48) 32767  e9) (by decide) (by decide) rfl rfl (Nat.le_of_ble_eq_true rfl) dX5_readValue_104 (fun v5 T6 h => ?_)
      refine r_puti (f := 509) C flX5_45 (by decide) rfl rfl dX5_readValue_107 ha0 rfl h (fun T7 h => ?_)
      refine r_iinc (q := 1) (v := (a1 + 1)) (lv' := [(1, .int (a1 + 1)), (0, .ref (ad a0))]) C dX5_readValue_110 rfl (by rw [show Int32.ofInt (1) = 1 by decide]) (by rw [hn9]; decide) rfl ?_
      refine r_goto (tgt := 68) C dX5_readValue_113 (by decide) ?_
      refine Jr.sub [1, 0] (lv' := [(0, .ref (ad a0)), (1, .int (a1 + 1))]) rfl ?_
      exact hk68 a0 (a1 + 1) T7 ha0 h
noncomputable def f_X5_readValue_l68 (n : Nat) : Nat → Int32 → Mm → Option (Int32 × Mm) := Nat.rec (fun _ _ _ => none) (fun _ ih => f_X5_readValue_b68 ih) n
theorem s_X5_readValue_l68 {x : JX} {ad : Nat → Nat} {U : Mm} {S0 : Hp} {q : Int32 × Mm}  (hn9 : x_n x = 4) (C : CB x RX5 cX5_readValue) (M : CMr x 3 (some .int) S0 ad true U eI q) : ∀ (n : Nat), ∀ (a0 : Nat) (a1 : Int32) (T : Mm) (_ : kS true a0 = 5), f_X5_readValue_l68  n a0 a1 T = some q → Jr x ad true U T [(0, .ref (ad a0)), (1, .int a1)] 68 [] := by
  intro n
  induction n with
  | zero => intro a0 a1 T _ h; exact absurd h (by intro h; cases h)
  | succ n ih => exact fun a0 a1 T ha0 h => s_X5_readValue_b68 hn9 C M (ih) a0 a1 T ha0 h
noncomputable def f_X5_readValue_45 (a0 : Nat) (a1 : Int32) (b0 : Int32) (b1 : Nat) (T : Mm) : Option (Int32 × Mm) :=
  gd (b0 = 0 ∨ b0 = 1) <|
  lb (uI T 507 b1 b0) fun T2 =>
  if (gI T2 507 a0) = 0 then (lb (uI T2 509 a0 0) fun T3 =>
  lb (uI T3 510 a0 0) fun T4 =>
  f_X5_readValue_l68 FU a0 a1 T4)
  else (lb (uI T2 509 a0 0) fun T5 =>
  lb (uI T5 510 a0 0) fun T6 =>
  f_X5_readValue_l68 FU a0 (a1 + 1) T6)
set_option maxRecDepth 100000 in
set_option maxHeartbeats 4000000 in
theorem s_X5_readValue_45 {x : JX} {ad : Nat → Nat} {U : Mm} {S0 : Hp} {q : Int32 × Mm}  (hn9 : x_n x = 4) (C : CB x RX5 cX5_readValue) (M : CMr x 3 (some .int) S0 ad true U eI q) (a0 : Nat) (a1 : Int32) (b0 : Int32) (b1 : Nat) (T : Mm) (ha0 : kS true a0 = 5) (hb1 : kS true b1 = 5) (h : f_X5_readValue_45  a0 a1 b0 b1 T = some q) : Jr x ad true U T [(0, .ref (ad a0)), (1, .int a1)] 45 [.int b0, .ref (ad b1)] := by
  unfold f_X5_readValue_45 at h
  refine r_gd h (fun hz1 h => ?_)
  refine r_putz (f := 507) C flX5_42 (by decide) rfl rfl hz1 dX5_readValue_45 hb1 rfl h (fun T2 h => ?_)
  refine r_aload_n C dX5_readValue_48 rfl 0 rfl ?_
  refine r_geti (f := 507) C flX5_42 dX5_readValue_49 ha0 (by decide) (by decide) rfl ?_
  refine r_if_eq (tgt := 58) C dX5_readValue_52 (by decide) h (fun h => ?_) (fun h => ?_)
  · refine r_aload_n C dX5_readValue_58 rfl 0 rfl ?_
    refine r_iconst (v := 0) C dX5_readValue_59 (by decide) ?_
    refine r_puti (f := 509) C flX5_45 (by decide) rfl rfl dX5_readValue_60 ha0 rfl h (fun T3 h => ?_)
    refine r_aload_n C dX5_readValue_63 rfl 0 rfl ?_
    refine r_iconst (v := 0) C dX5_readValue_64 (by decide) ?_
    show Jr _ _ _ _ _ _ 65 _
    refine r_puti (f := 510) C flX5_48 (by decide) rfl rfl dX5_readValue_65 ha0 rfl h (fun T4 h => ?_)
    exact s_X5_readValue_l68 hn9 C M  FU a0 a1 T4 ha0 h
  · refine r_iinc (q := 1) (v := (a1 + 1)) (lv' := [(1, .int (a1 + 1)), (0, .ref (ad a0))]) C dX5_readValue_55 rfl (by rw [show Int32.ofInt (1) = 1 by decide]) (by rw [hn9]; decide) rfl ?_
    refine r_aload_n C dX5_readValue_58 rfl 1 rfl ?_
    refine r_iconst (v := 0) C dX5_readValue_59 (by decide) ?_
    refine r_puti (f := 509) C flX5_45 (by decide) rfl rfl dX5_readValue_60 ha0 rfl h (fun T5 h => ?_)
    refine r_aload_n C dX5_readValue_63 rfl 1 rfl ?_
    show Jr _ _ _ _ _ _ 64 _
    refine r_iconst (v := 0) C dX5_readValue_64 (by decide) ?_
    refine r_puti (f := 510) C flX5_48 (by decide) rfl rfl dX5_readValue_65 ha0 rfl h (fun T6 h => ?_)
    refine Jr.sub [1, 0] (lv' := [(0, .ref (ad a0)), (1, .int (a1 + 1))]) rfl ?_
    exact s_X5_readValue_l68 hn9 C M  FU a0 (a1 + 1) T6 ha0 h
noncomputable def f_X5_readValue_23 (a0 : Nat) (a1 : Int32) (a2 : Int32) (b0 : Int32) (b1 : Nat) (T : Mm) : Option (Int32 × Mm) :=
  gd (b0 = 0 ∨ b0 = 1) <|
  lb (uI T 508 b1 b0) fun T2 =>
  if (gI T2 508 a0) = 0 then (if a2 = 43 then (f_X5_readValue_45 a0 a1 1 a0 T2)
  else (f_X5_readValue_45 a0 a1 0 a0 T2))
  else (f_X5_readValue_45 a0 a1 1 a0 T2)
set_option maxRecDepth 100000 in
set_option maxHeartbeats 4000000 in
theorem s_X5_readValue_23 {x : JX} {ad : Nat → Nat} {U : Mm} {S0 : Hp} {q : Int32 × Mm}  (hn9 : x_n x = 4) (C : CB x RX5 cX5_readValue) (M : CMr x 3 (some .int) S0 ad true U eI q) (a0 : Nat) (a1 : Int32) (a2 : Int32) (b0 : Int32) (b1 : Nat) (T : Mm) (ha0 : kS true a0 = 5) (hb1 : kS true b1 = 5) (h : f_X5_readValue_23  a0 a1 a2 b0 b1 T = some q) : Jr x ad true U T [(0, .ref (ad a0)), (1, .int a1), (2, .int a2)] 23 [.int b0, .ref (ad b1)] := by
  unfold f_X5_readValue_23 at h
  refine r_gd h (fun hz1 h => ?_)
  refine r_putz (f := 508) C flX5_38 (by decide) rfl rfl hz1 dX5_readValue_23 hb1 rfl h (fun T2 h => ?_)
  refine r_aload_n C dX5_readValue_26 rfl 0 rfl ?_
  refine r_aload_n C dX5_readValue_27 rfl 0 rfl ?_
  refine r_geti (f := 508) C flX5_38 dX5_readValue_28 ha0 (by decide) (by decide) rfl ?_
  refine r_if_ne (tgt := 40) C dX5_readValue_31 (by decide) h (fun h => ?_) (fun h => ?_)
  · refine r_iconst (v := 1) C dX5_readValue_40 (by decide) ?_
    refine r_goto (tgt := 45) C dX5_readValue_41 (by decide) ?_
    refine Jr.sub [0, 1] (lv' := [(0, .ref (ad a0)), (1, .int a1)]) rfl ?_
    exact s_X5_readValue_45 hn9 C M  a0 a1 1 a0 T2 ha0 ha0 h
  · refine r_iload_n C dX5_readValue_34 rfl 2 rfl ?_
    refine r_bipush (v := 43) C dX5_readValue_35 (by decide) ?_
    refine r_ic_ne (tgt := 44) C dX5_readValue_37 (by decide) h (fun h => ?_) (fun h => ?_)
    · refine r_iconst (v := 0) C dX5_readValue_44 (by decide) ?_
      refine Jr.sub [0, 1] (lv' := [(0, .ref (ad a0)), (1, .int a1)]) rfl ?_
      exact s_X5_readValue_45 hn9 C M  a0 a1 0 a0 T2 ha0 ha0 h
    · refine r_iconst (v := 1) C dX5_readValue_40 (by decide) ?_
      refine r_goto (tgt := 45) C dX5_readValue_41 (by decide) ?_
      refine Jr.sub [0, 1] (lv' := [(0, .ref (ad a0)), (1, .int a1)]) rfl ?_
      exact s_X5_readValue_45 hn9 C M  a0 a1 1 a0 T2 ha0 ha0 h
noncomputable def f_X5_readValue (p0 : Nat) (T : Mm) : Option (Int32 × Mm) :=
  lb ((gI T 501 p0)) fun v1 =>
  bd (f_X5_byteAt p0 v1 T) fun v2 T3 =>
  if v2 = 45 then (f_X5_readValue_23 p0 v1 v2 1 p0 T3)
  else (f_X5_readValue_23 p0 v1 v2 0 p0 T3)
set_option maxRecDepth 100000 in
set_option maxHeartbeats 4000000 in
theorem s_X5_readValue {ad : Nat → Nat} {U T : Mm} {q : Int32 × Mm}  (p0 : Nat) (hk0 : kS true p0 = 5) (h : f_X5_readValue p0 T = some q) : Cr 3 yX5_readValue cX5_readValue 4 (some .int) [.ref (ad p0)] ad true U T eI q := by
  refine cr_of (by decide) (Nat.le_of_ble_eq_true rfl) fun x S0 hn9 C M => ?_
  have C : CB x RX5 cX5_readValue := C
  refine Jr.eq (lv' := [(0, .ref (ad p0))]) (st' := []) rfl rfl ?_
  unfold f_X5_readValue at h
  refine r_aload_n C dX5_readValue_0 rfl 0 rfl ?_
  refine r_geti (f := 501) C flX5_21 dX5_readValue_1 hk0 (by decide) (by decide) rfl ?_
  refine r_lbI h (fun v1 h => ?_)
  refine r_istore_n (lv' := [(1, .int v1), (0, .ref (ad p0))]) C dX5_readValue_4 rfl (by rw [hn9]; decide) rfl ?_
  refine r_aload_n C dX5_readValue_5 rfl 1 rfl ?_
  refine r_iload_n C dX5_readValue_6 rfl 0 rfl ?_
  show Jr _ _ _ _ _ _ 7 _
  refine r_callVI C M h [.int v1] [] mlX5_34 mcX5_byteAt (fun q9 e9 => s_X5_byteAt p0 v1 hk0 e9) hk0 rfl (by decide) (by decide) rfl rfl (Nat.le_of_ble_eq_true rfl) dX5_readValue_7 (fun v2 T3 h => ?_)
  refine r_istore_n (lv' := [(2, .int v2), (1, .int v1), (0, .ref (ad p0))]) C dX5_readValue_10 rfl (by rw [hn9]; decide) rfl ?_
  refine r_aload_n C dX5_readValue_11 rfl 2 rfl ?_
  refine r_iload_n C dX5_readValue_12 rfl 0 rfl ?_
  refine r_bipush (v := 45) C dX5_readValue_13 (by decide) ?_
  refine r_ic_ne (tgt := 22) C dX5_readValue_15 (by decide) h (fun h => ?_) (fun h => ?_)
  · refine r_iconst (v := 0) C dX5_readValue_22 (by decide) ?_
    refine Jr.sub [2, 1, 0] (lv' := [(0, .ref (ad p0)), (1, .int v1), (2, .int v2)]) rfl ?_
    exact s_X5_readValue_23 hn9 C M  p0 v1 v2 0 p0 T3 hk0 hk0 h
  · refine r_iconst (v := 1) C dX5_readValue_18 (by decide) ?_
    refine r_goto (tgt := 23) C dX5_readValue_19 (by decide) ?_
    refine Jr.sub [2, 1, 0] (lv' := [(0, .ref (ad p0)), (1, .int v1), (2, .int v2)]) rfl ?_
    exact s_X5_readValue_23 hn9 C M  p0 v1 v2 1 p0 T3 hk0 hk0 h
theorem dX5_n_0 : decode cX5_n 0 = .ok (.aload_n 0, 1) := by decide +kernel
theorem dX5_n_1 : decode cX5_n 1 = .ok (.getfield 38, 3) := by decide +kernel
theorem dX5_n_4 : decode cX5_n 4 = .ok (.ifCond .eq 11, 3) := by decide +kernel
theorem dX5_n_7 : decode cX5_n 7 = .ok (.aload_n 0, 1) := by decide +kernel
theorem dX5_n_8 : decode cX5_n 8 = .ok (.getfield 45, 3) := by decide +kernel
theorem dX5_n_11 : decode cX5_n 11 = .ok (.ineg, 1) := by decide +kernel
theorem dX5_n_12 : decode cX5_n 12 = .ok (.goto 7, 3) := by decide +kernel
theorem dX5_n_15 : decode cX5_n 15 = .ok (.aload_n 0, 1) := by decide +kernel
theorem dX5_n_16 : decode cX5_n 16 = .ok (.getfield 45, 3) := by decide +kernel
theorem dX5_n_19 : decode cX5_n 19 = .ok (.ireturn, 1) := by decide +kernel
noncomputable def f_X5_n (p0 : Nat) (T : Mm) : Option (Int32 × Mm) :=
  if (gI T 508 p0) = 0 then (some ((gI T 509 p0), T))
  else (some ((-(gI T 509 p0)), T))
set_option maxRecDepth 100000 in
set_option maxHeartbeats 4000000 in
theorem s_X5_n {ad : Nat → Nat} {U T : Mm} {q : Int32 × Mm}  (p0 : Nat) (hk0 : kS true p0 = 5) (h : f_X5_n p0 T = some q) : Cr 1 yX5_n cX5_n 1 (some .int) [.ref (ad p0)] ad true U T eI q := by
  refine cr_of (by decide) (Nat.le_of_ble_eq_true rfl) fun x S0 hn9 C M => ?_
  have C : CB x RX5 cX5_n := C
  refine Jr.eq (lv' := [(0, .ref (ad p0))]) (st' := []) rfl rfl ?_
  unfold f_X5_n at h
  refine r_aload_n C dX5_n_0 rfl 0 rfl ?_
  refine r_geti (f := 508) C flX5_38 dX5_n_1 hk0 (by decide) (by decide) rfl ?_
  refine r_if_eq (tgt := 15) C dX5_n_4 (by decide) h (fun h => ?_) (fun h => ?_)
  · refine r_aload_n C dX5_n_15 rfl 0 rfl ?_
    refine r_geti (f := 509) C flX5_45 dX5_n_16 hk0 (by decide) (by decide) rfl ?_
    exact r_iret C M dX5_n_19 h
  · refine r_aload_n C dX5_n_7 rfl 0 rfl ?_
    refine r_geti (f := 509) C flX5_45 dX5_n_8 hk0 (by decide) (by decide) rfl ?_
    refine r_ineg C dX5_n_11 rfl ?_
    refine r_goto (tgt := 19) C dX5_n_12 (by decide) ?_
    exact r_iret C M dX5_n_19 h
theorem dX9_readField_0 : decode cX9_readField 0 = .ok (.aload_n 0, 1) := by decide +kernel
theorem dX9_readField_1 : decode cX9_readField 1 = .ok (.aload_n 0, 1) := by decide +kernel
theorem dX9_readField_2 : decode cX9_readField 2 = .ok (.getfield 82, 3) := by decide +kernel
theorem dX9_readField_5 : decode cX9_readField 5 = .ok (.invokevirtual 324, 3) := by decide +kernel
theorem dX9_readField_8 : decode cX9_readField 8 = .ok (.invokevirtual 315, 3) := by decide +kernel
theorem dX9_readField_11 : decode cX9_readField 11 = .ok (.ifCond .ne 5, 3) := by decide +kernel
theorem dX9_readField_14 : decode cX9_readField 14 = .ok (.iconst 0, 1) := by decide +kernel
theorem dX9_readField_15 : decode cX9_readField 15 = .ok (.ireturn, 1) := by decide +kernel
theorem dX9_readField_16 : decode cX9_readField 16 = .ok (.aload_n 0, 1) := by decide +kernel
theorem dX9_readField_17 : decode cX9_readField 17 = .ok (.getfield 82, 3) := by decide +kernel
theorem dX9_readField_20 : decode cX9_readField 20 = .ok (.invokevirtual 214, 3) := by decide +kernel
theorem dX9_readField_23 : decode cX9_readField 23 = .ok (.istore_n 1, 1) := by decide +kernel
theorem dX9_readField_24 : decode cX9_readField 24 = .ok (.iload_n 1, 1) := by decide +kernel
theorem dX9_readField_25 : decode cX9_readField 25 = .ok (.bipush 96, 2) := by decide +kernel
theorem dX9_readField_27 : decode cX9_readField 27 = .ok (.if_icmp .lt 13, 3) := by decide +kernel
theorem dX9_readField_30 : decode cX9_readField 30 = .ok (.iload_n 1, 1) := by decide +kernel
theorem dX9_readField_31 : decode cX9_readField 31 = .ok (.bipush 126, 2) := by decide +kernel
theorem dX9_readField_33 : decode cX9_readField 33 = .ok (.if_icmp .gt 7, 3) := by decide +kernel
theorem dX9_readField_36 : decode cX9_readField 36 = .ok (.iconst 1, 1) := by decide +kernel
theorem dX9_readField_37 : decode cX9_readField 37 = .ok (.goto 4, 3) := by decide +kernel
theorem dX9_readField_40 : decode cX9_readField 40 = .ok (.iconst 0, 1) := by decide +kernel
theorem dX9_readField_41 : decode cX9_readField 41 = .ok (.istore_n 2, 1) := by decide +kernel
theorem dX9_readField_42 : decode cX9_readField 42 = .ok (.iload_n 2, 1) := by decide +kernel
theorem dX9_readField_43 : decode cX9_readField 43 = .ok (.ifCond .ne 25, 3) := by decide +kernel
theorem dX9_readField_46 : decode cX9_readField 46 = .ok (.iload_n 1, 1) := by decide +kernel
theorem dX9_readField_47 : decode cX9_readField 47 = .ok (.bipush 64, 2) := by decide +kernel
theorem dX9_readField_49 : decode cX9_readField 49 = .ok (.if_icmp .lt 9, 3) := by decide +kernel
theorem dX9_readField_52 : decode cX9_readField 52 = .ok (.iload_n 1, 1) := by decide +kernel
theorem dX9_readField_53 : decode cX9_readField 53 = .ok (.bipush 94, 2) := by decide +kernel
theorem dX9_readField_55 : decode cX9_readField 55 = .ok (.if_icmp .le 13, 3) := by decide +kernel
theorem dX9_readField_58 : decode cX9_readField 58 = .ok (.aload_n 0, 1) := by decide +kernel
theorem dX9_readField_59 : decode cX9_readField 59 = .ok (.getfield 82, 3) := by decide +kernel
theorem dX9_readField_62 : decode cX9_readField 62 = .ok (.iconst 0, 1) := by decide +kernel
theorem dX9_readField_63 : decode cX9_readField 63 = .ok (.putfield 217, 3) := by decide +kernel
theorem dX9_readField_66 : decode cX9_readField 66 = .ok (.iconst 0, 1) := by decide +kernel
theorem dX9_readField_67 : decode cX9_readField 67 = .ok (.ireturn, 1) := by decide +kernel
theorem dX9_readField_68 : decode cX9_readField 68 = .ok (.aload_n 0, 1) := by decide +kernel
theorem dX9_readField_69 : decode cX9_readField 69 = .ok (.iconst 1, 1) := by decide +kernel
theorem dX9_readField_70 : decode cX9_readField 70 = .ok (.invokevirtual 204, 3) := by decide +kernel
theorem dX9_readField_73 : decode cX9_readField 73 = .ok (.ifCond .ne 5, 3) := by decide +kernel
theorem dX9_readField_76 : decode cX9_readField 76 = .ok (.iconst 0, 1) := by decide +kernel
theorem dX9_readField_77 : decode cX9_readField 77 = .ok (.ireturn, 1) := by decide +kernel
theorem dX9_readField_78 : decode cX9_readField 78 = .ok (.aload_n 0, 1) := by decide +kernel
theorem dX9_readField_79 : decode cX9_readField 79 = .ok (.getfield 82, 3) := by decide +kernel
theorem dX9_readField_82 : decode cX9_readField 82 = .ok (.iload_n 2, 1) := by decide +kernel
theorem dX9_readField_83 : decode cX9_readField 83 = .ok (.ifCond .eq 10, 3) := by decide +kernel
theorem dX9_readField_86 : decode cX9_readField 86 = .ok (.iload_n 1, 1) := by decide +kernel
theorem dX9_readField_87 : decode cX9_readField 87 = .ok (.bipush 32, 2) := by decide +kernel
theorem dX9_readField_89 : decode cX9_readField 89 = .ok (.isub, 1) := by decide +kernel
theorem dX9_readField_90 : decode cX9_readField 90 = .ok (.goto 4, 3) := by decide +kernel
theorem dX9_readField_93 : decode cX9_readField 93 = .ok (.iload_n 1, 1) := by decide +kernel
theorem dX9_readField_94 : decode cX9_readField 94 = .ok (.putfield 327, 3) := by decide +kernel
theorem dX9_readField_97 : decode cX9_readField 97 = .ok (.aload_n 0, 1) := by decide +kernel
theorem dX9_readField_98 : decode cX9_readField 98 = .ok (.getfield 82, 3) := by decide +kernel
theorem dX9_readField_101 : decode cX9_readField 101 = .ok (.getfield 327, 3) := by decide +kernel
theorem dX9_readField_104 : decode cX9_readField 104 = .ok (.bipush 87, 2) := by decide +kernel
theorem dX9_readField_106 : decode cX9_readField 106 = .ok (.if_icmp .eq 39, 3) := by decide +kernel
theorem dX9_readField_109 : decode cX9_readField 109 = .ok (.aload_n 0, 1) := by decide +kernel
theorem dX9_readField_110 : decode cX9_readField 110 = .ok (.getfield 82, 3) := by decide +kernel
theorem dX9_readField_113 : decode cX9_readField 113 = .ok (.getfield 327, 3) := by decide +kernel
theorem dX9_readField_116 : decode cX9_readField 116 = .ok (.bipush 88, 2) := by decide +kernel
theorem dX9_readField_118 : decode cX9_readField 118 = .ok (.if_icmp .ne 31, 3) := by decide +kernel
theorem dX9_readField_121 : decode cX9_readField 121 = .ok (.aload_n 0, 1) := by decide +kernel
theorem dX9_readField_122 : decode cX9_readField 122 = .ok (.getfield 82, 3) := by decide +kernel
theorem dX9_readField_125 : decode cX9_readField 125 = .ok (.getfield 217, 3) := by decide +kernel
theorem dX9_readField_128 : decode cX9_readField 128 = .ok (.bipush 38, 2) := by decide +kernel
theorem dX9_readField_130 : decode cX9_readField 130 = .ok (.if_icmp .ne 19, 3) := by decide +kernel
theorem dX9_readField_133 : decode cX9_readField 133 = .ok (.aload_n 0, 1) := by decide +kernel
theorem dX9_readField_134 : decode cX9_readField 134 = .ok (.getfield 82, 3) := by decide +kernel
theorem dX9_readField_137 : decode cX9_readField 137 = .ok (.getfield 299, 3) := by decide +kernel
theorem dX9_readField_140 : decode cX9_readField 140 = .ok (.bipush 112, 2) := by decide +kernel
theorem dX9_readField_142 : decode cX9_readField 142 = .ok (.if_icmp .ne 7, 3) := by decide +kernel
theorem dX9_readField_145 : decode cX9_readField 145 = .ok (.iconst 1, 1) := by decide +kernel
theorem dX9_readField_146 : decode cX9_readField 146 = .ok (.goto 4, 3) := by decide +kernel
theorem dX9_readField_149 : decode cX9_readField 149 = .ok (.iconst 0, 1) := by decide +kernel
theorem dX9_readField_150 : decode cX9_readField 150 = .ok (.istore_n 3, 1) := by decide +kernel
theorem dX9_readField_151 : decode cX9_readField 151 = .ok (.aload_n 0, 1) := by decide +kernel
theorem dX9_readField_152 : decode cX9_readField 152 = .ok (.getfield 82, 3) := by decide +kernel
theorem dX9_readField_155 : decode cX9_readField 155 = .ok (.iload_n 2, 1) := by decide +kernel
theorem dX9_readField_156 : decode cX9_readField 156 = .ok (.ifCond .eq 7, 3) := by decide +kernel
theorem dX9_readField_159 : decode cX9_readField 159 = .ok (.iload_n 3, 1) := by decide +kernel
theorem dX9_readField_160 : decode cX9_readField 160 = .ok (.ifCond .eq 7, 3) := by decide +kernel
theorem dX9_readField_163 : decode cX9_readField 163 = .ok (.iconst 1, 1) := by decide +kernel
theorem dX9_readField_164 : decode cX9_readField 164 = .ok (.goto 4, 3) := by decide +kernel
theorem dX9_readField_167 : decode cX9_readField 167 = .ok (.iconst 0, 1) := by decide +kernel
theorem dX9_readField_168 : decode cX9_readField 168 = .ok (.putfield 230, 3) := by decide +kernel
theorem dX9_readField_171 : decode cX9_readField 171 = .ok (.aload_n 0, 1) := by decide +kernel
theorem dX9_readField_172 : decode cX9_readField 172 = .ok (.getfield 82, 3) := by decide +kernel
theorem dX9_readField_175 : decode cX9_readField 175 = .ok (.aload_n 0, 1) := by decide +kernel
theorem dX9_readField_176 : decode cX9_readField 176 = .ok (.getfield 82, 3) := by decide +kernel
theorem dX9_readField_179 : decode cX9_readField 179 = .ok (.getfield 201, 3) := by decide +kernel
theorem dX9_readField_182 : decode cX9_readField 182 = .ok (.putfield 330, 3) := by decide +kernel
theorem dX9_readField_185 : decode cX9_readField 185 = .ok (.aload_n 0, 1) := by decide +kernel
theorem dX9_readField_186 : decode cX9_readField 186 = .ok (.getfield 82, 3) := by decide +kernel
theorem dX9_readField_189 : decode cX9_readField 189 = .ok (.invokevirtual 333, 3) := by decide +kernel
theorem dX9_readField_192 : decode cX9_readField 192 = .ok (.aload_n 0, 1) := by decide +kernel
theorem dX9_readField_193 : decode cX9_readField 193 = .ok (.getfield 82, 3) := by decide +kernel
theorem dX9_readField_196 : decode cX9_readField 196 = .ok (.getfield 336, 3) := by decide +kernel
theorem dX9_readField_199 : decode cX9_readField 199 = .ok (.aload_n 0, 1) := by decide +kernel
theorem dX9_readField_200 : decode cX9_readField 200 = .ok (.getfield 82, 3) := by decide +kernel
theorem dX9_readField_203 : decode cX9_readField 203 = .ok (.getfield 201, 3) := by decide +kernel
theorem dX9_readField_206 : decode cX9_readField 206 = .ok (.isub, 1) := by decide +kernel
theorem dX9_readField_207 : decode cX9_readField 207 = .ok (.invokestatic 339, 3) := by decide +kernel
theorem dX9_readField_210 : decode cX9_readField 210 = .ok (.istore 4, 2) := by decide +kernel
theorem dX9_readField_212 : decode cX9_readField 212 = .ok (.aload_n 0, 1) := by decide +kernel
theorem dX9_readField_213 : decode cX9_readField 213 = .ok (.getfield 82, 3) := by decide +kernel
theorem dX9_readField_216 : decode cX9_readField 216 = .ok (.iload_n 3, 1) := by decide +kernel
theorem dX9_readField_217 : decode cX9_readField 217 = .ok (.ifCond .eq 12, 3) := by decide +kernel
theorem dX9_readField_220 : decode cX9_readField 220 = .ok (.iload 4, 2) := by decide +kernel
theorem dX9_readField_222 : decode cX9_readField 222 = .ok (.iconst 0, 1) := by decide +kernel
theorem dX9_readField_223 : decode cX9_readField 223 = .ok (.invokestatic 344, 3) := by decide +kernel
theorem dX9_readField_226 : decode cX9_readField 226 = .ok (.goto 4, 3) := by decide +kernel
theorem dX9_readField_229 : decode cX9_readField 229 = .ok (.iconst 0, 1) := by decide +kernel
theorem dX9_readField_230 : decode cX9_readField 230 = .ok (.putfield 318, 3) := by decide +kernel
theorem dX9_readField_233 : decode cX9_readField 233 = .ok (.aload_n 0, 1) := by decide +kernel
theorem dX9_readField_234 : decode cX9_readField 234 = .ok (.aload_n 0, 1) := by decide +kernel
theorem dX9_readField_235 : decode cX9_readField 235 = .ok (.getfield 82, 3) := by decide +kernel
theorem dX9_readField_238 : decode cX9_readField 238 = .ok (.getfield 318, 3) := by decide +kernel
theorem dX9_readField_241 : decode cX9_readField 241 = .ok (.invokevirtual 204, 3) := by decide +kernel
theorem dX9_readField_244 : decode cX9_readField 244 = .ok (.ireturn, 1) := by decide +kernel
noncomputable def f_X9_readField_168 (a3 : Int32) (b0 : Int32) (b1 : Nat) (T : Mm) : Option (Int32 × Mm) :=
  gd (b0 = 0 ∨ b0 = 1) <|
  lb (uI T 506 b1 b0) fun T2 =>
  rf true (gR T2 913 23) 5 fun j3 =>
  rf true (gR T2 913 23) 5 fun j5 =>
  lb (uI T2 511 j3 (gI T2 501 j5)) fun T7 =>
  rf true (gR T7 913 23) 5 fun j8 =>
  bd (f_X5_n j8 T7) fun v10 T11 =>
  rf true (gR T11 913 23) 5 fun j12 =>
  rf true (gR T11 913 23) 5 fun j14 =>
  bd (f_J9_min_7cf53 v10 ((gI T11 502 j12) - (gI T11 501 j14)) T11) fun v16 T17 =>
  rf true (gR T17 913 23) 5 fun j18 =>
  if a3 = 0 then (lb (uI T17 512 j18 0) fun T20 =>
  rf true (gR T20 913 23) 5 fun j21 =>
  bd (f_X9_pass (gI T20 512 j21) T20) fun v23 T24 =>
  gd (v23 = 0 ∨ v23 = 1) <|
  some (v23, T24))
  else (bd (f_J9_max_7cf53 v16 0 T17) fun v26 T27 =>
  lb (uI T27 512 j18 v26) fun T28 =>
  rf true (gR T28 913 23) 5 fun j29 =>
  bd (f_X9_pass (gI T28 512 j29) T28) fun v31 T32 =>
  gd (v31 = 0 ∨ v31 = 1) <|
  some (v31, T32))
set_option maxRecDepth 100000 in
set_option maxHeartbeats 4000000 in
theorem s_X9_readField_168 {x : JX} {ad : Nat → Nat} {U : Mm} {S0 : Hp} {q : Int32 × Mm}  (hn9 : x_n x = 5) (C : CB x RX9 cX9_readField) (M : CMr x 4 (some .boolean) S0 ad true U eI q) (a3 : Int32) (b0 : Int32) (b1 : Nat) (T : Mm) (hb1 : kS true b1 = 5) (h : f_X9_readField_168  a3 b0 b1 T = some q) : Jr x ad true U T [(0, .ref (ad 23)), (3, .int a3)] 168 [.int b0, .ref (ad b1)] := by
  unfold f_X9_readField_168 at h
  refine r_gd h (fun hz1 h => ?_)
  refine r_putz (f := 506) C flX9_230 (by decide) rfl rfl hz1 dX9_readField_168 hb1 rfl h (fun T2 h => ?_)
  refine r_aload_n C dX9_readField_171 rfl 0 rfl ?_
  refine r_getr (f := 913) (c := 5) C flX9_82 dX9_readField_172 kq_23 (by decide) rfl h (fun j3 hj4 h => ?_)
  refine r_aload_n C dX9_readField_175 rfl 0 rfl ?_
  refine r_getr (f := 913) (c := 5) C flX9_82 dX9_readField_176 kq_23 (by decide) rfl h (fun j5 hj6 h => ?_)
  show Jr _ _ _ _ _ _ 179 _
  refine r_geti (f := 501) C flX9_201 dX9_readField_179 hj6 (by decide) (by decide) rfl ?_
  refine r_puti (f := 511) C flX9_330 (by decide) rfl rfl dX9_readField_182 hj4 rfl h (fun T7 h => ?_)
  refine r_aload_n C dX9_readField_185 rfl 0 rfl ?_
  refine r_getr (f := 913) (c := 5) C flX9_82 dX9_readField_186 kq_23 (by decide) rfl h (fun j8 hj9 h => ?_)
  refine r_callVI C M h [] [] mlX9_333 mcX5_n (fun q9 e9 => s_X5_n j8 hj9 e9) hj9 rfl (by decide) (by decide) rfl rfl (Nat.le_of_ble_eq_true rfl) dX9_readField_189 (fun v10 T11 h => ?_)
  refine r_aload_n C dX9_readField_192 rfl 0 rfl ?_
  show Jr _ _ _ _ _ _ 193 _
  refine r_getr (f := 913) (c := 5) C flX9_82 dX9_readField_193 kq_23 (by decide) rfl h (fun j12 hj13 h => ?_)
  refine r_geti (f := 502) C flX9_336 dX9_readField_196 hj13 (by decide) (by decide) rfl ?_
  refine r_aload_n C dX9_readField_199 rfl 0 rfl ?_
  refine r_getr (f := 913) (c := 5) C flX9_82 dX9_readField_200 kq_23 (by decide) rfl h (fun j14 hj15 h => ?_)
  refine r_geti (f := 501) C flX9_201 dX9_readField_203 hj15 (by decide) (by decide) rfl ?_
  refine r_isub C dX9_readField_206 rfl ?_
  show Jr _ _ _ _ _ _ 207 _
  refine r_callSI C M h [.int v10, .int ((gI T11 502 j12) - (gI T11 501 j14))] [] mlX9_339 mcJ9_min_7cf53 (fun q9 e9 => s_J9_min_7cf53 v10 ((gI T11 502 j12) - (gI T11 501 j14))  e9) (by decide) (by decide) rfl rfl (Nat.le_of_ble_eq_true rfl) dX9_readField_207 (fun v16 T17 h => ?_)
  refine r_istore (lv' := [(4, .int v16), (0, .ref (ad 23)), (3, .int a3)]) C dX9_readField_210 (by rw [hn9]; decide) rfl ?_
  refine r_aload_n C dX9_readField_212 rfl 1 rfl ?_
  refine r_getr (f := 913) (c := 5) C flX9_82 dX9_readField_213 kq_23 (by decide) rfl h (fun j18 hj19 h => ?_)
  refine r_iload_n C dX9_readField_216 rfl 2 rfl ?_
  refine r_if_eq (tgt := 229) C dX9_readField_217 (by decide) h (fun h => ?_) (fun h => ?_)
  · refine r_iconst (v := 0) C dX9_readField_229 (by decide) ?_
    refine r_puti (f := 512) C flX9_318 (by decide) rfl rfl dX9_readField_230 hj19 rfl h (fun T20 h => ?_)
    refine r_aload_n C dX9_readField_233 rfl 1 rfl ?_
    refine r_aload_n C dX9_readField_234 rfl 1 rfl ?_
    refine r_getr (f := 913) (c := 5) C flX9_82 dX9_readField_235 kq_23 (by decide) rfl h (fun j21 hj22 h => ?_)
    show Jr _ _ _ _ _ _ 238 _
    refine r_geti (f := 512) C flX9_318 dX9_readField_238 hj22 (by decide) (by decide) rfl ?_
    refine r_callVI C M h [.int (gI T20 512 j21)] [] mlX9_204 mcX9_pass (fun q9 e9 => s_X9_pass (gI T20 512 j21)  e9) kq_23 rfl (by decide) (by decide) rfl rfl (Nat.le_of_ble_eq_true rfl) dX9_readField_241 (fun v23 T24 h => ?_)
    refine r_gd h (fun hz25 h => ?_)
    exact r_zret C M dX9_readField_244 hz25 h
  · refine r_iload C dX9_readField_220 0 rfl ?_
    refine r_iconst (v := 0) C dX9_readField_222 (by decide) ?_
    refine r_callSI C M h [.int v16, .int 0] [.ref (ad j18)] mlX9_344 mcJ9_max_7cf53 (fun q9 e9 => s_J9_max_7cf53 v16 0  e9) (by decide) (by decide) rfl rfl (Nat.le_of_ble_eq_true rfl) dX9_readField_223 (fun v26 T27 h => ?_)
    refine r_goto (tgt := 230) C dX9_readField_226 (by decide) ?_
    refine r_puti (f := 512) C flX9_318 (by decide) rfl rfl dX9_readField_230 hj19 rfl h (fun T28 h => ?_)
    show Jr _ _ _ _ _ _ 233 _
    refine r_aload_n C dX9_readField_233 rfl 1 rfl ?_
    refine r_aload_n C dX9_readField_234 rfl 1 rfl ?_
    refine r_getr (f := 913) (c := 5) C flX9_82 dX9_readField_235 kq_23 (by decide) rfl h (fun j29 hj30 h => ?_)
    refine r_geti (f := 512) C flX9_318 dX9_readField_238 hj30 (by decide) (by decide) rfl ?_
    refine r_callVI C M h [.int (gI T28 512 j29)] [] mlX9_204 mcX9_pass (fun q9 e9 => s_X9_pass (gI T28 512 j29)  e9) kq_23 rfl (by decide) (by decide) rfl rfl (Nat.le_of_ble_eq_true rfl) dX9_readField_241 (fun v31 T32 h => ?_)
    refine r_gd h (fun hz33 h => ?_)
    exact r_zret C M dX9_readField_244 hz33 h
noncomputable def f_X9_readField_150 (a2 : Int32) (b0 : Int32) (T : Mm) : Option (Int32 × Mm) :=
  rf true (gR T 913 23) 5 fun j1 =>
  if a2 = 0 then (f_X9_readField_168 b0 1 j1 T)
  else (if b0 = 0 then (f_X9_readField_168 b0 0 j1 T)
  else (f_X9_readField_168 b0 1 j1 T))
set_option maxRecDepth 100000 in
set_option maxHeartbeats 4000000 in
theorem s_X9_readField_150 {x : JX} {ad : Nat → Nat} {U : Mm} {S0 : Hp} {q : Int32 × Mm}  (hn9 : x_n x = 5) (C : CB x RX9 cX9_readField) (M : CMr x 4 (some .boolean) S0 ad true U eI q) (a2 : Int32) (b0 : Int32) (T : Mm) (h : f_X9_readField_150  a2 b0 T = some q) : Jr x ad true U T [(0, .ref (ad 23)), (2, .int a2)] 150 [.int b0] := by
  unfold f_X9_readField_150 at h
  refine r_istore_n (lv' := [(3, .int b0), (0, .ref (ad 23)), (2, .int a2)]) C dX9_readField_150 rfl (by rw [hn9]; decide) rfl ?_
  refine r_aload_n C dX9_readField_151 rfl 1 rfl ?_
  refine r_getr (f := 913) (c := 5) C flX9_82 dX9_readField_152 kq_23 (by decide) rfl h (fun j1 hj2 h => ?_)
  refine r_iload_n C dX9_readField_155 rfl 2 rfl ?_
  refine r_if_eq (tgt := 163) C dX9_readField_156 (by decide) h (fun h => ?_) (fun h => ?_)
  · refine r_iconst (v := 1) C dX9_readField_163 (by decide) ?_
    refine r_goto (tgt := 168) C dX9_readField_164 (by decide) ?_
    refine Jr.sub [1, 0] (lv' := [(0, .ref (ad 23)), (3, .int b0)]) rfl ?_
    exact s_X9_readField_168 hn9 C M  b0 1 j1 T hj2 h
  · refine r_iload_n C dX9_readField_159 rfl 0 rfl ?_
    refine r_if_eq (tgt := 167) C dX9_readField_160 (by decide) h (fun h => ?_) (fun h => ?_)
    · refine r_iconst (v := 0) C dX9_readField_167 (by decide) ?_
      refine Jr.sub [1, 0] (lv' := [(0, .ref (ad 23)), (3, .int b0)]) rfl ?_
      exact s_X9_readField_168 hn9 C M  b0 0 j1 T hj2 h
    · refine r_iconst (v := 1) C dX9_readField_163 (by decide) ?_
      refine r_goto (tgt := 168) C dX9_readField_164 (by decide) ?_
      refine Jr.sub [1, 0] (lv' := [(0, .ref (ad 23)), (3, .int b0)]) rfl ?_
      exact s_X9_readField_168 hn9 C M  b0 1 j1 T hj2 h
noncomputable def f_X9_readField_94 (a2 : Int32) (b0 : Int32) (b1 : Nat) (T : Mm) : Option (Int32 × Mm) :=
  lb (uI T 505 b1 b0) fun T1 =>
  rf true (gR T1 913 23) 5 fun j2 =>
  if (gI T1 505 j2) = 87 then (f_X9_readField_150 a2 1 T1)
  else (rf true (gR T1 913 23) 5 fun j4 =>
  if (gI T1 505 j4) = 88 then (rf true (gR T1 913 23) 5 fun j6 =>
  if (gI T1 503 j6) = 38 then (rf true (gR T1 913 23) 5 fun j8 =>
  if (gI T1 504 j8) = 112 then (f_X9_readField_150 a2 1 T1)
  else (f_X9_readField_150 a2 0 T1))
  else (f_X9_readField_150 a2 0 T1))
  else (f_X9_readField_150 a2 0 T1))
set_option maxRecDepth 100000 in
set_option maxHeartbeats 4000000 in
theorem s_X9_readField_94 {x : JX} {ad : Nat → Nat} {U : Mm} {S0 : Hp} {q : Int32 × Mm}  (hn9 : x_n x = 5) (C : CB x RX9 cX9_readField) (M : CMr x 4 (some .boolean) S0 ad true U eI q) (a2 : Int32) (b0 : Int32) (b1 : Nat) (T : Mm) (hb1 : kS true b1 = 5) (h : f_X9_readField_94  a2 b0 b1 T = some q) : Jr x ad true U T [(0, .ref (ad 23)), (2, .int a2)] 94 [.int b0, .ref (ad b1)] := by
  unfold f_X9_readField_94 at h
  refine r_puti (f := 505) C flX9_327 (by decide) rfl rfl dX9_readField_94 hb1 rfl h (fun T1 h => ?_)
  refine r_aload_n C dX9_readField_97 rfl 0 rfl ?_
  refine r_getr (f := 913) (c := 5) C flX9_82 dX9_readField_98 kq_23 (by decide) rfl h (fun j2 hj3 h => ?_)
  refine r_geti (f := 505) C flX9_327 dX9_readField_101 hj3 (by decide) (by decide) rfl ?_
  refine r_bipush (v := 87) C dX9_readField_104 (by decide) ?_
  show Jr _ _ _ _ _ _ 106 _
  refine r_ic_eq (tgt := 145) C dX9_readField_106 (by decide) h (fun h => ?_) (fun h => ?_)
  · refine r_iconst (v := 1) C dX9_readField_145 (by decide) ?_
    refine r_goto (tgt := 150) C dX9_readField_146 (by decide) ?_
    exact s_X9_readField_150 hn9 C M  a2 1 T1 h
  · refine r_aload_n C dX9_readField_109 rfl 0 rfl ?_
    refine r_getr (f := 913) (c := 5) C flX9_82 dX9_readField_110 kq_23 (by decide) rfl h (fun j4 hj5 h => ?_)
    refine r_geti (f := 505) C flX9_327 dX9_readField_113 hj5 (by decide) (by decide) rfl ?_
    refine r_bipush (v := 88) C dX9_readField_116 (by decide) ?_
    refine r_ic_ne (tgt := 149) C dX9_readField_118 (by decide) h (fun h => ?_) (fun h => ?_)
    · refine r_iconst (v := 0) C dX9_readField_149 (by decide) ?_
      exact s_X9_readField_150 hn9 C M  a2 0 T1 h
    · refine r_aload_n C dX9_readField_121 rfl 0 rfl ?_
      refine r_getr (f := 913) (c := 5) C flX9_82 dX9_readField_122 kq_23 (by decide) rfl h (fun j6 hj7 h => ?_)
      refine r_geti (f := 503) C flX9_217 dX9_readField_125 hj7 (by decide) (by decide) rfl ?_
      refine r_bipush (v := 38) C dX9_readField_128 (by decide) ?_
      refine r_ic_ne (tgt := 149) C dX9_readField_130 (by decide) h (fun h => ?_) (fun h => ?_)
      · refine r_iconst (v := 0) C dX9_readField_149 (by decide) ?_
        exact s_X9_readField_150 hn9 C M  a2 0 T1 h
      · refine r_aload_n C dX9_readField_133 rfl 0 rfl ?_
        refine r_getr (f := 913) (c := 5) C flX9_82 dX9_readField_134 kq_23 (by decide) rfl h (fun j8 hj9 h => ?_)
        refine r_geti (f := 504) C flX9_299 dX9_readField_137 hj9 (by decide) (by decide) rfl ?_
        refine r_bipush (v := 112) C dX9_readField_140 (by decide) ?_
        refine r_ic_ne (tgt := 149) C dX9_readField_142 (by decide) h (fun h => ?_) (fun h => ?_)
        · refine r_iconst (v := 0) C dX9_readField_149 (by decide) ?_
          exact s_X9_readField_150 hn9 C M  a2 0 T1 h
        · refine r_iconst (v := 1) C dX9_readField_145 (by decide) ?_
          refine r_goto (tgt := 150) C dX9_readField_146 (by decide) ?_
          exact s_X9_readField_150 hn9 C M  a2 1 T1 h
noncomputable def f_X9_readField_68 (a1 : Int32) (a2 : Int32) (T : Mm) : Option (Int32 × Mm) :=
  bd (f_X9_pass 1 T) fun v1 T2 =>
  if v1 = 0 then (some (0, T2))
  else (rf true (gR T2 913 23) 5 fun j3 =>
  if a2 = 0 then (f_X9_readField_94 a2 a1 j3 T2)
  else (f_X9_readField_94 a2 (a1 - 32) j3 T2))
set_option maxRecDepth 100000 in
set_option maxHeartbeats 4000000 in
theorem s_X9_readField_68 {x : JX} {ad : Nat → Nat} {U : Mm} {S0 : Hp} {q : Int32 × Mm}  (hn9 : x_n x = 5) (C : CB x RX9 cX9_readField) (M : CMr x 4 (some .boolean) S0 ad true U eI q) (a1 : Int32) (a2 : Int32) (T : Mm) (h : f_X9_readField_68  a1 a2 T = some q) : Jr x ad true U T [(0, .ref (ad 23)), (1, .int a1), (2, .int a2)] 68 [] := by
  unfold f_X9_readField_68 at h
  refine r_aload_n C dX9_readField_68 rfl 0 rfl ?_
  refine r_iconst (v := 1) C dX9_readField_69 (by decide) ?_
  refine r_callVI C M h [.int 1] [] mlX9_204 mcX9_pass (fun q9 e9 => s_X9_pass 1  e9) kq_23 rfl (by decide) (by decide) rfl rfl (Nat.le_of_ble_eq_true rfl) dX9_readField_70 (fun v1 T2 h => ?_)
  refine r_if_ne (tgt := 78) C dX9_readField_73 (by decide) h (fun h => ?_) (fun h => ?_)
  · refine r_aload_n C dX9_readField_78 rfl 0 rfl ?_
    refine r_getr (f := 913) (c := 5) C flX9_82 dX9_readField_79 kq_23 (by decide) rfl h (fun j3 hj4 h => ?_)
    refine r_iload_n C dX9_readField_82 rfl 2 rfl ?_
    refine r_if_eq (tgt := 93) C dX9_readField_83 (by decide) h (fun h => ?_) (fun h => ?_)
    · refine r_iload_n C dX9_readField_93 rfl 1 rfl ?_
      refine Jr.sub [0, 2] (lv' := [(0, .ref (ad 23)), (2, .int a2)]) rfl ?_
      exact s_X9_readField_94 hn9 C M  a2 a1 j3 T2 hj4 h
    · refine r_iload_n C dX9_readField_86 rfl 1 rfl ?_
      refine r_bipush (v := 32) C dX9_readField_87 (by decide) ?_
      refine r_isub C dX9_readField_89 rfl ?_
      refine r_goto (tgt := 94) C dX9_readField_90 (by decide) ?_
      refine Jr.sub [0, 2] (lv' := [(0, .ref (ad 23)), (2, .int a2)]) rfl ?_
      exact s_X9_readField_94 hn9 C M  a2 (a1 - 32) j3 T2 hj4 h
  · refine r_iconst (v := 0) C dX9_readField_76 (by decide) ?_
    exact r_zret C M dX9_readField_77 (by decide) h
noncomputable def f_X9_readField_41 (a1 : Int32) (b0 : Int32) (T : Mm) : Option (Int32 × Mm) :=
  if b0 = 0 then (if a1 < 64 then (rf true (gR T 913 23) 5 fun j1 =>
  lb (uI T 503 j1 0) fun T3 =>
  some (0, T3))
  else (if a1 ≤ 94 then (f_X9_readField_68 a1 b0 T)
  else (rf true (gR T 913 23) 5 fun j4 =>
  lb (uI T 503 j4 0) fun T6 =>
  some (0, T6))))
  else (f_X9_readField_68 a1 b0 T)
set_option maxRecDepth 100000 in
set_option maxHeartbeats 4000000 in
theorem s_X9_readField_41 {x : JX} {ad : Nat → Nat} {U : Mm} {S0 : Hp} {q : Int32 × Mm}  (hn9 : x_n x = 5) (C : CB x RX9 cX9_readField) (M : CMr x 4 (some .boolean) S0 ad true U eI q) (a1 : Int32) (b0 : Int32) (T : Mm) (h : f_X9_readField_41  a1 b0 T = some q) : Jr x ad true U T [(0, .ref (ad 23)), (1, .int a1)] 41 [.int b0] := by
  unfold f_X9_readField_41 at h
  refine r_istore_n (lv' := [(2, .int b0), (0, .ref (ad 23)), (1, .int a1)]) C dX9_readField_41 rfl (by rw [hn9]; decide) rfl ?_
  refine r_iload_n C dX9_readField_42 rfl 0 rfl ?_
  refine r_if_ne (tgt := 68) C dX9_readField_43 (by decide) h (fun h => ?_) (fun h => ?_)
  · refine Jr.sub [1, 2, 0] (lv' := [(0, .ref (ad 23)), (1, .int a1), (2, .int b0)]) rfl ?_
    exact s_X9_readField_68 hn9 C M  a1 b0 T h
  · refine r_iload_n C dX9_readField_46 rfl 2 rfl ?_
    refine r_bipush (v := 64) C dX9_readField_47 (by decide) ?_
    refine r_ic_lt (tgt := 58) C dX9_readField_49 (by decide) h (fun h => ?_) (fun h => ?_)
    · refine r_aload_n C dX9_readField_58 rfl 1 rfl ?_
      refine r_getr (f := 913) (c := 5) C flX9_82 dX9_readField_59 kq_23 (by decide) rfl h (fun j1 hj2 h => ?_)
      refine r_iconst (v := 0) C dX9_readField_62 (by decide) ?_
      refine r_puti (f := 503) C flX9_217 (by decide) rfl rfl dX9_readField_63 hj2 rfl h (fun T3 h => ?_)
      refine r_iconst (v := 0) C dX9_readField_66 (by decide) ?_
      show Jr _ _ _ _ _ _ 67 _
      exact r_zret C M dX9_readField_67 (by decide) h
    · refine r_iload_n C dX9_readField_52 rfl 2 rfl ?_
      refine r_bipush (v := 94) C dX9_readField_53 (by decide) ?_
      refine r_ic_le (tgt := 68) C dX9_readField_55 (by decide) h (fun h => ?_) (fun h => ?_)
      · refine Jr.sub [1, 2, 0] (lv' := [(0, .ref (ad 23)), (1, .int a1), (2, .int b0)]) rfl ?_
        exact s_X9_readField_68 hn9 C M  a1 b0 T h
      · refine r_aload_n C dX9_readField_58 rfl 1 rfl ?_
        refine r_getr (f := 913) (c := 5) C flX9_82 dX9_readField_59 kq_23 (by decide) rfl h (fun j4 hj5 h => ?_)
        refine r_iconst (v := 0) C dX9_readField_62 (by decide) ?_
        refine r_puti (f := 503) C flX9_217 (by decide) rfl rfl dX9_readField_63 hj5 rfl h (fun T6 h => ?_)
        refine r_iconst (v := 0) C dX9_readField_66 (by decide) ?_
        show Jr _ _ _ _ _ _ 67 _
        exact r_zret C M dX9_readField_67 (by decide) h
noncomputable def f_X9_readField (T : Mm) : Option (Int32 × Mm) :=
  rf true (gR T 913 23) 5 fun j1 =>
  bd (f_X5_readValue j1 T) fun v3 T4 =>
  bd (f_X9_passEach v3 T4) fun v5 T6 =>
  if v5 = 0 then (some (0, T6))
  else (rf true (gR T6 913 23) 5 fun j7 =>
  bd (f_X5_next j7 T6) fun v9 T10 =>
  if v9 < 96 then (f_X9_readField_41 v9 0 T10)
  else (if 126 < v9 then (f_X9_readField_41 v9 0 T10)
  else (f_X9_readField_41 v9 1 T10)))
set_option maxRecDepth 100000 in
set_option maxHeartbeats 4000000 in
theorem s_X9_readField {ad : Nat → Nat} {U T : Mm} {q : Int32 × Mm}  (h : f_X9_readField  T = some q) : Cr 4 yX9_readField cX9_readField 5 (some .boolean) [.ref (ad 23)] ad true U T eI q := by
  refine cr_of (by decide) (Nat.le_of_ble_eq_true rfl) fun x S0 hn9 C M => ?_
  have C : CB x RX9 cX9_readField := C
  refine Jr.eq (lv' := [(0, .ref (ad 23))]) (st' := []) rfl rfl ?_
  unfold f_X9_readField at h
  refine r_aload_n C dX9_readField_0 rfl 0 rfl ?_
  refine r_aload_n C dX9_readField_1 rfl 0 rfl ?_
  refine r_getr (f := 913) (c := 5) C flX9_82 dX9_readField_2 kq_23 (by decide) rfl h (fun j1 hj2 h => ?_)
  refine r_callVI C M h [] [.ref (ad 23)] mlX9_324 mcX5_readValue (fun q9 e9 => s_X5_readValue j1 hj2 e9) hj2 rfl (by decide) (by decide) rfl rfl (Nat.le_of_ble_eq_true rfl) dX9_readField_5 (fun v3 T4 h => ?_)
  refine r_callVI C M h [.int v3] [] mlX9_315 mcX9_passEach (fun q9 e9 => s_X9_passEach v3  e9) kq_23 rfl (by decide) (by decide) rfl rfl (Nat.le_of_ble_eq_true rfl) dX9_readField_8 (fun v5 T6 h => ?_)
  show Jr _ _ _ _ _ _ 11 _
  refine r_if_ne (tgt := 16) C dX9_readField_11 (by decide) h (fun h => ?_) (fun h => ?_)
  · refine r_aload_n C dX9_readField_16 rfl 0 rfl ?_
    refine r_getr (f := 913) (c := 5) C flX9_82 dX9_readField_17 kq_23 (by decide) rfl h (fun j7 hj8 h => ?_)
    refine r_callVI C M h [] [] mlX9_214 mcX5_next (fun q9 e9 => s_X5_next j7 hj8 e9) hj8 rfl (by decide) (by decide) rfl rfl (Nat.le_of_ble_eq_true rfl) dX9_readField_20 (fun v9 T10 h => ?_)
    refine r_istore_n (lv' := [(1, .int v9), (0, .ref (ad 23))]) C dX9_readField_23 rfl (by rw [hn9]; decide) rfl ?_
    refine r_iload_n C dX9_readField_24 rfl 0 rfl ?_
    show Jr _ _ _ _ _ _ 25 _
    refine r_bipush (v := 96) C dX9_readField_25 (by decide) ?_
    refine r_ic_lt (tgt := 40) C dX9_readField_27 (by decide) h (fun h => ?_) (fun h => ?_)
    · refine r_iconst (v := 0) C dX9_readField_40 (by decide) ?_
      refine Jr.sub [1, 0] (lv' := [(0, .ref (ad 23)), (1, .int v9)]) rfl ?_
      exact s_X9_readField_41 hn9 C M  v9 0 T10 h
    · refine r_iload_n C dX9_readField_30 rfl 0 rfl ?_
      refine r_bipush (v := 126) C dX9_readField_31 (by decide) ?_
      refine r_ic_gt (tgt := 40) C dX9_readField_33 (by decide) h (fun h => ?_) (fun h => ?_)
      · refine r_iconst (v := 0) C dX9_readField_40 (by decide) ?_
        refine Jr.sub [1, 0] (lv' := [(0, .ref (ad 23)), (1, .int v9)]) rfl ?_
        exact s_X9_readField_41 hn9 C M  v9 0 T10 h
      · refine r_iconst (v := 1) C dX9_readField_36 (by decide) ?_
        refine r_goto (tgt := 41) C dX9_readField_37 (by decide) ?_
        refine Jr.sub [1, 0] (lv' := [(0, .ref (ad 23)), (1, .int v9)]) rfl ?_
        exact s_X9_readField_41 hn9 C M  v9 1 T10 h
  · refine r_iconst (v := 0) C dX9_readField_14 (by decide) ?_
    exact r_zret C M dX9_readField_15 (by decide) h
theorem dX5_exact_0 : decode cX5_exact 0 = .ok (.aload_n 0, 1) := by decide +kernel
theorem dX5_exact_1 : decode cX5_exact 1 = .ok (.getfield 45, 3) := by decide +kernel
theorem dX5_exact_4 : decode cX5_exact 4 = .ok (.i2l, 1) := by decide +kernel
theorem dX5_exact_5 : decode cX5_exact 5 = .ok (.ldc2_w 55, 3) := by decide +kernel
theorem dX5_exact_8 : decode cX5_exact 8 = .ok (.lmul, 1) := by decide +kernel
theorem dX5_exact_9 : decode cX5_exact 9 = .ok (.aload_n 0, 1) := by decide +kernel
theorem dX5_exact_10 : decode cX5_exact 10 = .ok (.getfield 48, 3) := by decide +kernel
theorem dX5_exact_13 : decode cX5_exact 13 = .ok (.i2l, 1) := by decide +kernel
theorem dX5_exact_14 : decode cX5_exact 14 = .ok (.ladd, 1) := by decide +kernel
theorem dX5_exact_15 : decode cX5_exact 15 = .ok (.lstore_n 1, 1) := by decide +kernel
theorem dX5_exact_16 : decode cX5_exact 16 = .ok (.aload_n 0, 1) := by decide +kernel
theorem dX5_exact_17 : decode cX5_exact 17 = .ok (.getfield 38, 3) := by decide +kernel
theorem dX5_exact_20 : decode cX5_exact 20 = .ok (.ifCond .eq 8, 3) := by decide +kernel
theorem dX5_exact_23 : decode cX5_exact 23 = .ok (.lload_n 1, 1) := by decide +kernel
theorem dX5_exact_24 : decode cX5_exact 24 = .ok (.lneg, 1) := by decide +kernel
theorem dX5_exact_25 : decode cX5_exact 25 = .ok (.goto 4, 3) := by decide +kernel
theorem dX5_exact_28 : decode cX5_exact 28 = .ok (.lload_n 1, 1) := by decide +kernel
theorem dX5_exact_29 : decode cX5_exact 29 = .ok (.lreturn, 1) := by decide +kernel
noncomputable def f_X5_exact (p0 : Nat) (T : Mm) : Option (Int64 × Mm) :=
  lb ((((((gI T 509 p0)).toInt64) * 10000) + (((gI T 510 p0)).toInt64))) fun v1 =>
  if (gI T 508 p0) = 0 then (some (v1, T))
  else (some ((-v1), T))
set_option maxRecDepth 100000 in
set_option maxHeartbeats 4000000 in
theorem s_X5_exact {ad : Nat → Nat} {U T : Mm} {q : Int64 × Mm}  (p0 : Nat) (hk0 : kS true p0 = 5) (h : f_X5_exact p0 T = some q) : Cr 1 yX5_exact cX5_exact 3 (some .long) [.ref (ad p0)] ad true U T eJ q := by
  refine cr_of (by decide) (Nat.le_of_ble_eq_true rfl) fun x S0 hn9 C M => ?_
  have C : CB x RX5 cX5_exact := C
  refine Jr.eq (lv' := [(0, .ref (ad p0))]) (st' := []) rfl rfl ?_
  unfold f_X5_exact at h
  refine r_aload_n C dX5_exact_0 rfl 0 rfl ?_
  refine r_geti (f := 509) C flX5_45 dX5_exact_1 hk0 (by decide) (by decide) rfl ?_
  refine r_i2l C dX5_exact_4 rfl ?_
  refine r_ldc2 (v := 10000) C dX5_exact_5 kcX5_55 ?_
  refine r_lmul C dX5_exact_8 rfl ?_
  show Jr _ _ _ _ _ _ 9 _
  refine r_aload_n C dX5_exact_9 rfl 0 rfl ?_
  refine r_geti (f := 510) C flX5_48 dX5_exact_10 hk0 (by decide) (by decide) rfl ?_
  refine r_i2l C dX5_exact_13 rfl ?_
  refine r_ladd C dX5_exact_14 rfl ?_
  refine r_lbJ h (fun v1 h => ?_)
  refine r_lstore_n (lv' := [(1, .long v1), (0, .ref (ad p0))]) C dX5_exact_15 rfl (by rw [hn9]; decide) rfl ?_
  refine r_aload_n C dX5_exact_16 rfl 1 rfl ?_
  show Jr _ _ _ _ _ _ 17 _
  refine r_geti (f := 508) C flX5_38 dX5_exact_17 hk0 (by decide) (by decide) rfl ?_
  refine r_if_eq (tgt := 28) C dX5_exact_20 (by decide) h (fun h => ?_) (fun h => ?_)
  · refine r_lload_n C dX5_exact_28 rfl 0 rfl ?_
    exact r_lret C M dX5_exact_29 h
  · refine r_lload_n C dX5_exact_23 rfl 0 rfl ?_
    refine r_lneg C dX5_exact_24 rfl ?_
    refine r_goto (tgt := 29) C dX5_exact_25 (by decide) ?_
    exact r_lret C M dX5_exact_29 h
theorem dX5_units_0 : decode cX5_units 0 = .ok (.aload_n 0, 1) := by decide +kernel
theorem dX5_units_1 : decode cX5_units 1 = .ok (.invokevirtual 57, 3) := by decide +kernel
theorem dX5_units_4 : decode cX5_units 4 = .ok (.iload_n 1, 1) := by decide +kernel
theorem dX5_units_5 : decode cX5_units 5 = .ok (.i2l, 1) := by decide +kernel
theorem dX5_units_6 : decode cX5_units 6 = .ok (.lmul, 1) := by decide +kernel
theorem dX5_units_7 : decode cX5_units 7 = .ok (.ldc2_w 55, 3) := by decide +kernel
theorem dX5_units_10 : decode cX5_units 10 = .ok (.ldiv, 1) := by decide +kernel
theorem dX5_units_11 : decode cX5_units 11 = .ok (.lreturn, 1) := by decide +kernel
noncomputable def f_X5_units (p0 : Nat) (p1 : Int32) (T : Mm) : Option (Int64 × Mm) :=
  bd (f_X5_exact p0 T) fun v1 T2 =>
  some (((v1 * ((p1).toInt64)) / 10000), T2)
set_option maxRecDepth 100000 in
set_option maxHeartbeats 4000000 in
theorem s_X5_units {ad : Nat → Nat} {U T : Mm} {q : Int64 × Mm}  (p0 : Nat) (p1 : Int32) (hk0 : kS true p0 = 5) (h : f_X5_units p0 p1 T = some q) : Cr 2 yX5_units cX5_units 2 (some .long) [.ref (ad p0), .int p1] ad true U T eJ q := by
  refine cr_of (by decide) (Nat.le_of_ble_eq_true rfl) fun x S0 hn9 C M => ?_
  have C : CB x RX5 cX5_units := C
  refine Jr.eq (lv' := [(0, .ref (ad p0)), (1, .int p1)]) (st' := []) rfl rfl ?_
  unfold f_X5_units at h
  refine r_aload_n C dX5_units_0 rfl 0 rfl ?_
  refine r_callVJ C M h [] [] mlX5_57 mcX5_exact (fun q9 e9 => s_X5_exact p0 hk0 e9) hk0 rfl (by decide) (by decide) rfl rfl (Nat.le_of_ble_eq_true rfl) dX5_units_1 (fun v1 T2 h => ?_)
  refine r_iload_n C dX5_units_4 rfl 1 rfl ?_
  refine r_i2l C dX5_units_5 rfl ?_
  refine r_lmul C dX5_units_6 rfl ?_
  show Jr _ _ _ _ _ _ 7 _
  refine r_ldc2 (v := 10000) C dX5_units_7 kcX5_55 ?_
  refine r_ldiv C dX5_units_10 (by decide) rfl ?_
  exact r_lret C M dX5_units_11 h
theorem dX9_spacing_0 : decode cX9_spacing 0 = .ok (.aload_n 0, 1) := by decide +kernel
theorem dX9_spacing_1 : decode cX9_spacing 1 = .ok (.getfield 82, 3) := by decide +kernel
theorem dX9_spacing_4 : decode cX9_spacing 4 = .ok (.iload_n 1, 1) := by decide +kernel
theorem dX9_spacing_5 : decode cX9_spacing 5 = .ok (.invokevirtual 431, 3) := by decide +kernel
theorem dX9_spacing_8 : decode cX9_spacing 8 = .ok (.lstore_n 3, 1) := by decide +kernel
theorem dX9_spacing_9 : decode cX9_spacing 9 = .ok (.lload_n 3, 1) := by decide +kernel
theorem dX9_spacing_10 : decode cX9_spacing 10 = .ok (.lconst 0, 1) := by decide +kernel
theorem dX9_spacing_11 : decode cX9_spacing 11 = .ok (.lcmp, 1) := by decide +kernel
theorem dX9_spacing_12 : decode cX9_spacing 12 = .ok (.ifCond .lt 16, 3) := by decide +kernel
theorem dX9_spacing_15 : decode cX9_spacing 15 = .ok (.lload_n 3, 1) := by decide +kernel
theorem dX9_spacing_16 : decode cX9_spacing 16 = .ok (.ldc2_w 435, 3) := by decide +kernel
theorem dX9_spacing_19 : decode cX9_spacing 19 = .ok (.lcmp, 1) := by decide +kernel
theorem dX9_spacing_20 : decode cX9_spacing 20 = .ok (.ifCond .gt 8, 3) := by decide +kernel
theorem dX9_spacing_23 : decode cX9_spacing 23 = .ok (.lload_n 3, 1) := by decide +kernel
theorem dX9_spacing_24 : decode cX9_spacing 24 = .ok (.l2i, 1) := by decide +kernel
theorem dX9_spacing_25 : decode cX9_spacing 25 = .ok (.goto 4, 3) := by decide +kernel
theorem dX9_spacing_28 : decode cX9_spacing 28 = .ok (.iload_n 2, 1) := by decide +kernel
theorem dX9_spacing_29 : decode cX9_spacing 29 = .ok (.ireturn, 1) := by decide +kernel
noncomputable def f_X9_spacing (p1 : Int32) (p2 : Int32) (T : Mm) : Option (Int32 × Mm) :=
  rf true (gR T 913 23) 5 fun j1 =>
  bd (f_X5_units j1 p1 T) fun v3 T4 =>
  if (lg_cmp v3 0) < 0 then (some (p2, T4))
  else (if 0 < (lg_cmp v3 32000) then (some (p2, T4))
  else (some ((v3).toInt32, T4)))
set_option maxRecDepth 100000 in
set_option maxHeartbeats 4000000 in
theorem s_X9_spacing {ad : Nat → Nat} {U T : Mm} {q : Int32 × Mm}  (p1 : Int32) (p2 : Int32) (h : f_X9_spacing p1 p2 T = some q) : Cr 3 yX9_spacing cX9_spacing 5 (some .int) [.ref (ad 23), .int p1, .int p2] ad true U T eI q := by
  refine cr_of (by decide) (Nat.le_of_ble_eq_true rfl) fun x S0 hn9 C M => ?_
  have C : CB x RX9 cX9_spacing := C
  refine Jr.eq (lv' := [(0, .ref (ad 23)), (1, .int p1), (2, .int p2)]) (st' := []) rfl rfl ?_
  unfold f_X9_spacing at h
  refine r_aload_n C dX9_spacing_0 rfl 0 rfl ?_
  refine r_getr (f := 913) (c := 5) C flX9_82 dX9_spacing_1 kq_23 (by decide) rfl h (fun j1 hj2 h => ?_)
  refine r_iload_n C dX9_spacing_4 rfl 1 rfl ?_
  refine r_callVJ C M h [.int p1] [] mlX9_431 mcX5_units (fun q9 e9 => s_X5_units j1 p1 hj2 e9) hj2 rfl (by decide) (by decide) rfl rfl (Nat.le_of_ble_eq_true rfl) dX9_spacing_5 (fun v3 T4 h => ?_)
  refine r_lstore_n (lv' := [(3, .long v3), (0, .ref (ad 23)), (1, .int p1), (2, .int p2)]) C dX9_spacing_8 rfl (by rw [hn9]; decide) rfl ?_
  show Jr _ _ _ _ _ _ 9 _
  refine r_lload_n C dX9_spacing_9 rfl 0 rfl ?_
  refine r_lconst (v := 0) C dX9_spacing_10 (by decide) ?_
  refine r_lcmp C dX9_spacing_11 ?_
  refine r_if_lt (tgt := 28) C dX9_spacing_12 (by decide) h (fun h => ?_) (fun h => ?_)
  · refine r_iload_n C dX9_spacing_28 rfl 3 rfl ?_
    exact r_iret C M dX9_spacing_29 h
  · refine r_lload_n C dX9_spacing_15 rfl 0 rfl ?_
    refine r_ldc2 (v := 32000) C dX9_spacing_16 kcX9_435 ?_
    refine r_lcmp C dX9_spacing_19 ?_
    refine r_if_gt (tgt := 28) C dX9_spacing_20 (by decide) h (fun h => ?_) (fun h => ?_)
    · refine r_iload_n C dX9_spacing_28 rfl 3 rfl ?_
      exact r_iret C M dX9_spacing_29 h
    · refine r_lload_n C dX9_spacing_23 rfl 0 rfl ?_
      refine r_l2i C dX9_spacing_24 rfl ?_
      refine r_goto (tgt := 29) C dX9_spacing_25 (by decide) ?_
      exact r_iret C M dX9_spacing_29 h
theorem dX7_topMargin_0 : decode cX7_topMargin 0 = .ok (.iload_n 1, 1) := by decide +kernel
theorem dX7_topMargin_1 : decode cX7_topMargin 1 = .ok (.ifCond .lt 38, 3) := by decide +kernel
theorem dX7_topMargin_4 : decode cX7_topMargin 4 = .ok (.iload_n 1, 1) := by decide +kernel
theorem dX7_topMargin_5 : decode cX7_topMargin 5 = .ok (.aload_n 0, 1) := by decide +kernel
theorem dX7_topMargin_6 : decode cX7_topMargin 6 = .ok (.getfield 40, 3) := by decide +kernel
theorem dX7_topMargin_9 : decode cX7_topMargin 9 = .ok (.imul, 1) := by decide +kernel
theorem dX7_topMargin_10 : decode cX7_topMargin 10 = .ok (.aload_n 0, 1) := by decide +kernel
theorem dX7_topMargin_11 : decode cX7_topMargin 11 = .ok (.invokevirtual 58, 3) := by decide +kernel
theorem dX7_topMargin_14 : decode cX7_topMargin 14 = .ok (.if_icmp .ge 25, 3) := by decide +kernel
theorem dX7_topMargin_17 : decode cX7_topMargin 17 = .ok (.aload_n 0, 1) := by decide +kernel
theorem dX7_topMargin_18 : decode cX7_topMargin 18 = .ok (.iload_n 1, 1) := by decide +kernel
theorem dX7_topMargin_19 : decode cX7_topMargin 19 = .ok (.aload_n 0, 1) := by decide +kernel
theorem dX7_topMargin_20 : decode cX7_topMargin 20 = .ok (.getfield 40, 3) := by decide +kernel
theorem dX7_topMargin_23 : decode cX7_topMargin 23 = .ok (.imul, 1) := by decide +kernel
theorem dX7_topMargin_24 : decode cX7_topMargin 24 = .ok (.putfield 28, 3) := by decide +kernel
theorem dX7_topMargin_27 : decode cX7_topMargin 27 = .ok (.aload_n 0, 1) := by decide +kernel
theorem dX7_topMargin_28 : decode cX7_topMargin 28 = .ok (.aload_n 0, 1) := by decide +kernel
theorem dX7_topMargin_29 : decode cX7_topMargin 29 = .ok (.invokevirtual 58, 3) := by decide +kernel
theorem dX7_topMargin_32 : decode cX7_topMargin 32 = .ok (.putfield 31, 3) := by decide +kernel
theorem dX7_topMargin_35 : decode cX7_topMargin 35 = .ok (.aload_n 0, 1) := by decide +kernel
theorem dX7_topMargin_36 : decode cX7_topMargin 36 = .ok (.invokevirtual 69, 3) := by decide +kernel
theorem dX7_topMargin_39 : decode cX7_topMargin 39 = .ok (.return_, 1) := by decide +kernel
noncomputable def f_X7_topMargin (p0 : Nat) (p1 : Int32) (T : Mm) : Option (Unit × Mm) :=
  if p1 < 0 then (some ((), T))
  else (bd (f_X7_down p0 T) fun v1 T2 =>
  if v1 ≤ (p1 * (gI T 708 p0)) then (some ((), T2))
  else (lb (uI T2 704 p0 (p1 * (gI T2 708 p0))) fun T3 =>
  bd (f_X7_down p0 T3) fun v4 T5 =>
  lb (uI T5 705 p0 v4) fun T6 =>
  bd (f_X7_homeY p0 T6) fun _ T7 =>
  some ((), T7)))
set_option maxRecDepth 100000 in
set_option maxHeartbeats 4000000 in
theorem s_X7_topMargin {ad : Nat → Nat} {U T : Mm} {q : Unit × Mm}  (p0 : Nat) (p1 : Int32) (hk0 : kS true p0 = 7) (h : f_X7_topMargin p0 p1 T = some q) : Cr 4 yX7_topMargin cX7_topMargin 2 none [.ref (ad p0), .int p1] ad true U T eV q := by
  refine cr_of (by decide) (Nat.le_of_ble_eq_true rfl) fun x S0 hn9 C M => ?_
  have C : CB x RX7 cX7_topMargin := C
  refine Jr.eq (lv' := [(0, .ref (ad p0)), (1, .int p1)]) (st' := []) rfl rfl ?_
  unfold f_X7_topMargin at h
  refine r_iload_n C dX7_topMargin_0 rfl 1 rfl ?_
  refine r_if_lt (tgt := 39) C dX7_topMargin_1 (by decide) h (fun h => ?_) (fun h => ?_)
  · exact r_vret C M dX7_topMargin_39 h
  · refine r_iload_n C dX7_topMargin_4 rfl 1 rfl ?_
    refine r_aload_n C dX7_topMargin_5 rfl 0 rfl ?_
    refine r_geti (f := 708) C flX7_40 dX7_topMargin_6 hk0 (by decide) (by decide) rfl ?_
    refine r_imul C dX7_topMargin_9 rfl ?_
    refine r_aload_n C dX7_topMargin_10 rfl 0 rfl ?_
    show Jr _ _ _ _ _ _ 11 _
    refine r_callVI C M h [] [.int (p1 * (gI T 708 p0))] mlX7_58 mcX7_down (fun q9 e9 => s_X7_down p0 hk0 e9) hk0 rfl (by decide) (by decide) rfl rfl (Nat.le_of_ble_eq_true rfl) dX7_topMargin_11 (fun v1 T2 h => ?_)
    refine r_ic_ge (tgt := 39) C dX7_topMargin_14 (by decide) h (fun h => ?_) (fun h => ?_)
    · exact r_vret C M dX7_topMargin_39 h
    · refine r_aload_n C dX7_topMargin_17 rfl 0 rfl ?_
      refine r_iload_n C dX7_topMargin_18 rfl 1 rfl ?_
      refine r_aload_n C dX7_topMargin_19 rfl 0 rfl ?_
      refine r_geti (f := 708) C flX7_40 dX7_topMargin_20 hk0 (by decide) (by decide) rfl ?_
      refine r_imul C dX7_topMargin_23 rfl ?_
      show Jr _ _ _ _ _ _ 24 _
      refine r_puti (f := 704) C flX7_28 (by decide) rfl rfl dX7_topMargin_24 hk0 rfl h (fun T3 h => ?_)
      refine r_aload_n C dX7_topMargin_27 rfl 0 rfl ?_
      refine r_aload_n C dX7_topMargin_28 rfl 0 rfl ?_
      refine r_callVI C M h [] [.ref (ad p0)] mlX7_58 mcX7_down (fun q9 e9 => s_X7_down p0 hk0 e9) hk0 rfl (by decide) (by decide) rfl rfl (Nat.le_of_ble_eq_true rfl) dX7_topMargin_29 (fun v4 T5 h => ?_)
      refine r_puti (f := 705) C flX7_31 (by decide) rfl rfl dX7_topMargin_32 hk0 rfl h (fun T6 h => ?_)
      refine r_aload_n C dX7_topMargin_35 rfl 0 rfl ?_
      show Jr _ _ _ _ _ _ 36 _
      refine r_callVN C M h [] [] mlX7_69 mcX7_homeY (fun q9 e9 => s_X7_homeY p0 hk0 e9) hk0 rfl (by decide) (by decide) rfl rfl (Nat.le_of_ble_eq_true rfl) dX7_topMargin_36 (fun _ T7 h => ?_)
      exact r_vret C M dX7_topMargin_39 h
theorem dX7_bottomMargin_0 : decode cX7_bottomMargin 0 = .ok (.aload_n 0, 1) := by decide +kernel
theorem dX7_bottomMargin_1 : decode cX7_bottomMargin 1 = .ok (.getfield 28, 3) := by decide +kernel
theorem dX7_bottomMargin_4 : decode cX7_bottomMargin 4 = .ok (.iload_n 1, 1) := by decide +kernel
theorem dX7_bottomMargin_5 : decode cX7_bottomMargin 5 = .ok (.aload_n 0, 1) := by decide +kernel
theorem dX7_bottomMargin_6 : decode cX7_bottomMargin 6 = .ok (.getfield 40, 3) := by decide +kernel
theorem dX7_bottomMargin_9 : decode cX7_bottomMargin 9 = .ok (.imul, 1) := by decide +kernel
theorem dX7_bottomMargin_10 : decode cX7_bottomMargin 10 = .ok (.iadd, 1) := by decide +kernel
theorem dX7_bottomMargin_11 : decode cX7_bottomMargin 11 = .ok (.istore_n 2, 1) := by decide +kernel
theorem dX7_bottomMargin_12 : decode cX7_bottomMargin 12 = .ok (.iload_n 1, 1) := by decide +kernel
theorem dX7_bottomMargin_13 : decode cX7_bottomMargin 13 = .ok (.ifCond .le 16, 3) := by decide +kernel
theorem dX7_bottomMargin_16 : decode cX7_bottomMargin 16 = .ok (.iload_n 2, 1) := by decide +kernel
theorem dX7_bottomMargin_17 : decode cX7_bottomMargin 17 = .ok (.aload_n 0, 1) := by decide +kernel
theorem dX7_bottomMargin_18 : decode cX7_bottomMargin 18 = .ok (.invokevirtual 58, 3) := by decide +kernel
theorem dX7_bottomMargin_21 : decode cX7_bottomMargin 21 = .ok (.if_icmp .gt 8, 3) := by decide +kernel
theorem dX7_bottomMargin_24 : decode cX7_bottomMargin 24 = .ok (.aload_n 0, 1) := by decide +kernel
theorem dX7_bottomMargin_25 : decode cX7_bottomMargin 25 = .ok (.iload_n 2, 1) := by decide +kernel
theorem dX7_bottomMargin_26 : decode cX7_bottomMargin 26 = .ok (.putfield 31, 3) := by decide +kernel
theorem dX7_bottomMargin_29 : decode cX7_bottomMargin 29 = .ok (.return_, 1) := by decide +kernel
noncomputable def f_X7_bottomMargin (p0 : Nat) (p1 : Int32) (T : Mm) : Option (Unit × Mm) :=
  lb (((gI T 704 p0) + (p1 * (gI T 708 p0)))) fun v1 =>
  if p1 ≤ 0 then (some ((), T))
  else (bd (f_X7_down p0 T) fun v2 T3 =>
  if v2 < v1 then (some ((), T3))
  else (lb (uI T3 705 p0 v1) fun T4 =>
  some ((), T4)))
set_option maxRecDepth 100000 in
set_option maxHeartbeats 4000000 in
theorem s_X7_bottomMargin {ad : Nat → Nat} {U T : Mm} {q : Unit × Mm}  (p0 : Nat) (p1 : Int32) (hk0 : kS true p0 = 7) (h : f_X7_bottomMargin p0 p1 T = some q) : Cr 3 yX7_bottomMargin cX7_bottomMargin 3 none [.ref (ad p0), .int p1] ad true U T eV q := by
  refine cr_of (by decide) (Nat.le_of_ble_eq_true rfl) fun x S0 hn9 C M => ?_
  have C : CB x RX7 cX7_bottomMargin := C
  refine Jr.eq (lv' := [(0, .ref (ad p0)), (1, .int p1)]) (st' := []) rfl rfl ?_
  unfold f_X7_bottomMargin at h
  refine r_aload_n C dX7_bottomMargin_0 rfl 0 rfl ?_
  refine r_geti (f := 704) C flX7_28 dX7_bottomMargin_1 hk0 (by decide) (by decide) rfl ?_
  refine r_iload_n C dX7_bottomMargin_4 rfl 1 rfl ?_
  refine r_aload_n C dX7_bottomMargin_5 rfl 0 rfl ?_
  refine r_geti (f := 708) C flX7_40 dX7_bottomMargin_6 hk0 (by decide) (by decide) rfl ?_
  show Jr _ _ _ _ _ _ 9 _
  refine r_imul C dX7_bottomMargin_9 rfl ?_
  refine r_iadd C dX7_bottomMargin_10 rfl ?_
  refine r_lbI h (fun v1 h => ?_)
  refine r_istore_n (lv' := [(2, .int v1), (0, .ref (ad p0)), (1, .int p1)]) C dX7_bottomMargin_11 rfl (by rw [hn9]; decide) rfl ?_
  refine r_iload_n C dX7_bottomMargin_12 rfl 2 rfl ?_
  refine r_if_le (tgt := 29) C dX7_bottomMargin_13 (by decide) h (fun h => ?_) (fun h => ?_)
  · exact r_vret C M dX7_bottomMargin_29 h
  · refine r_iload_n C dX7_bottomMargin_16 rfl 0 rfl ?_
    refine r_aload_n C dX7_bottomMargin_17 rfl 1 rfl ?_
    refine r_callVI C M h [] [.int v1] mlX7_58 mcX7_down (fun q9 e9 => s_X7_down p0 hk0 e9) hk0 rfl (by decide) (by decide) rfl rfl (Nat.le_of_ble_eq_true rfl) dX7_bottomMargin_18 (fun v2 T3 h => ?_)
    refine r_ic_gt (tgt := 29) C dX7_bottomMargin_21 (by decide) h (fun h => ?_) (fun h => ?_)
    · exact r_vret C M dX7_bottomMargin_29 h
    · refine r_aload_n C dX7_bottomMargin_24 rfl 1 rfl ?_
      refine r_iload_n C dX7_bottomMargin_25 rfl 0 rfl ?_
      refine r_puti (f := 705) C flX7_31 (by decide) rfl rfl dX7_bottomMargin_26 hk0 rfl h (fun T4 h => ?_)
      exact r_vret C M dX7_bottomMargin_29 h
theorem dX9_pageField_0 : decode cX9_pageField 0 = .ok (.aload_n 0, 1) := by decide +kernel
theorem dX9_pageField_1 : decode cX9_pageField 1 = .ok (.getfield 57, 3) := by decide +kernel
theorem dX9_pageField_4 : decode cX9_pageField 4 = .ok (.getfield 129, 3) := by decide +kernel
theorem dX9_pageField_7 : decode cX9_pageField 7 = .ok (.astore_n 2, 1) := by decide +kernel
theorem dX9_pageField_8 : decode cX9_pageField 8 = .ok (.aload_n 0, 1) := by decide +kernel
theorem dX9_pageField_9 : decode cX9_pageField 9 = .ok (.getfield 82, 3) := by decide +kernel
theorem dX9_pageField_12 : decode cX9_pageField 12 = .ok (.getfield 327, 3) := by decide +kernel
theorem dX9_pageField_15 : decode cX9_pageField 15 = .ok (.tableswitch 316 65 88 #[109, 316, 218, 236, 266, 274, 316, 176, 316, 316, 316, 282, 316, 316, 144, 316, 316, 316, 316, 316, 316, 316, 316, 187], 109) := by decide +kernel
theorem dX9_pageField_124 : decode cX9_pageField 124 = .ok (.iload_n 1, 1) := by decide +kernel
theorem dX9_pageField_125 : decode cX9_pageField 125 = .ok (.ifCond .lt 206, 3) := by decide +kernel
theorem dX9_pageField_128 : decode cX9_pageField 128 = .ok (.iload_n 1, 1) := by decide +kernel
theorem dX9_pageField_129 : decode cX9_pageField 129 = .ok (.getstatic 413, 3) := by decide +kernel
theorem dX9_pageField_132 : decode cX9_pageField 132 = .ok (.arraylength, 1) := by decide +kernel
theorem dX9_pageField_133 : decode cX9_pageField 133 = .ok (.if_icmp .ge 198, 3) := by decide +kernel
theorem dX9_pageField_136 : decode cX9_pageField 136 = .ok (.aload_n 0, 1) := by decide +kernel
theorem dX9_pageField_137 : decode cX9_pageField 137 = .ok (.getfield 111, 3) := by decide +kernel
theorem dX9_pageField_140 : decode cX9_pageField 140 = .ok (.ifCond .ne 191, 3) := by decide +kernel
theorem dX9_pageField_143 : decode cX9_pageField 143 = .ok (.aload_n 0, 1) := by decide +kernel
theorem dX9_pageField_144 : decode cX9_pageField 144 = .ok (.invokevirtual 240, 3) := by decide +kernel
theorem dX9_pageField_147 : decode cX9_pageField 147 = .ok (.aload_n 2, 1) := by decide +kernel
theorem dX9_pageField_148 : decode cX9_pageField 148 = .ok (.iload_n 1, 1) := by decide +kernel
theorem dX9_pageField_149 : decode cX9_pageField 149 = .ok (.aload_n 2, 1) := by decide +kernel
theorem dX9_pageField_150 : decode cX9_pageField 150 = .ok (.getfield 170, 3) := by decide +kernel
theorem dX9_pageField_153 : decode cX9_pageField 153 = .ok (.invokevirtual 416, 3) := by decide +kernel
theorem dX9_pageField_156 : decode cX9_pageField 156 = .ok (.goto 175, 3) := by decide +kernel
theorem dX9_pageField_159 : decode cX9_pageField 159 = .ok (.iload_n 1, 1) := by decide +kernel
theorem dX9_pageField_160 : decode cX9_pageField 160 = .ok (.ifCond .eq 8, 3) := by decide +kernel
theorem dX9_pageField_163 : decode cX9_pageField 163 = .ok (.iload_n 1, 1) := by decide +kernel
theorem dX9_pageField_164 : decode cX9_pageField 164 = .ok (.iconst 1, 1) := by decide +kernel
theorem dX9_pageField_165 : decode cX9_pageField 165 = .ok (.if_icmp .ne 166, 3) := by decide +kernel
theorem dX9_pageField_168 : decode cX9_pageField 168 = .ok (.aload_n 0, 1) := by decide +kernel
theorem dX9_pageField_169 : decode cX9_pageField 169 = .ok (.getfield 111, 3) := by decide +kernel
theorem dX9_pageField_172 : decode cX9_pageField 172 = .ok (.ifCond .ne 159, 3) := by decide +kernel
theorem dX9_pageField_175 : decode cX9_pageField 175 = .ok (.aload_n 0, 1) := by decide +kernel
theorem dX9_pageField_176 : decode cX9_pageField 176 = .ok (.invokevirtual 240, 3) := by decide +kernel
theorem dX9_pageField_179 : decode cX9_pageField 179 = .ok (.aload_n 2, 1) := by decide +kernel
theorem dX9_pageField_180 : decode cX9_pageField 180 = .ok (.aload_n 2, 1) := by decide +kernel
theorem dX9_pageField_181 : decode cX9_pageField 181 = .ok (.getfield 167, 3) := by decide +kernel
theorem dX9_pageField_184 : decode cX9_pageField 184 = .ok (.iload_n 1, 1) := by decide +kernel
theorem dX9_pageField_185 : decode cX9_pageField 185 = .ok (.invokevirtual 416, 3) := by decide +kernel
theorem dX9_pageField_188 : decode cX9_pageField 188 = .ok (.goto 143, 3) := by decide +kernel
theorem dX9_pageField_191 : decode cX9_pageField 191 = .ok (.iload_n 1, 1) := by decide +kernel
theorem dX9_pageField_192 : decode cX9_pageField 192 = .ok (.ifCond .ne 139, 3) := by decide +kernel
theorem dX9_pageField_195 : decode cX9_pageField 195 = .ok (.aload_n 0, 1) := by decide +kernel
theorem dX9_pageField_196 : decode cX9_pageField 196 = .ok (.invokevirtual 259, 3) := by decide +kernel
theorem dX9_pageField_199 : decode cX9_pageField 199 = .ok (.goto 132, 3) := by decide +kernel
theorem dX9_pageField_202 : decode cX9_pageField 202 = .ok (.aload_n 0, 1) := by decide +kernel
theorem dX9_pageField_203 : decode cX9_pageField 203 = .ok (.getfield 57, 3) := by decide +kernel
theorem dX9_pageField_206 : decode cX9_pageField 206 = .ok (.iload_n 1, 1) := by decide +kernel
theorem dX9_pageField_207 : decode cX9_pageField 207 = .ok (.iconst 1, 1) := by decide +kernel
theorem dX9_pageField_208 : decode cX9_pageField 208 = .ok (.if_icmp .lt 12, 3) := by decide +kernel
theorem dX9_pageField_211 : decode cX9_pageField 211 = .ok (.iload_n 1, 1) := by decide +kernel
theorem dX9_pageField_212 : decode cX9_pageField 212 = .ok (.iconst 4, 1) := by decide +kernel
theorem dX9_pageField_213 : decode cX9_pageField 213 = .ok (.if_icmp .gt 7, 3) := by decide +kernel
theorem dX9_pageField_216 : decode cX9_pageField 216 = .ok (.iload_n 1, 1) := by decide +kernel
theorem dX9_pageField_217 : decode cX9_pageField 217 = .ok (.goto 10, 3) := by decide +kernel
theorem dX9_pageField_220 : decode cX9_pageField 220 = .ok (.aload_n 0, 1) := by decide +kernel
theorem dX9_pageField_221 : decode cX9_pageField 221 = .ok (.getfield 57, 3) := by decide +kernel
theorem dX9_pageField_224 : decode cX9_pageField 224 = .ok (.getfield 419, 3) := by decide +kernel
theorem dX9_pageField_227 : decode cX9_pageField 227 = .ok (.putfield 419, 3) := by decide +kernel
theorem dX9_pageField_230 : decode cX9_pageField 230 = .ok (.goto 101, 3) := by decide +kernel
theorem dX9_pageField_233 : decode cX9_pageField 233 = .ok (.aload_n 2, 1) := by decide +kernel
theorem dX9_pageField_234 : decode cX9_pageField 234 = .ok (.aload_n 0, 1) := by decide +kernel
theorem dX9_pageField_235 : decode cX9_pageField 235 = .ok (.sipush 150, 3) := by decide +kernel
theorem dX9_pageField_238 : decode cX9_pageField 238 = .ok (.aload_n 2, 1) := by decide +kernel
theorem dX9_pageField_239 : decode cX9_pageField 239 = .ok (.getfield 144, 3) := by decide +kernel
theorem dX9_pageField_242 : decode cX9_pageField 242 = .ok (.invokevirtual 422, 3) := by decide +kernel
theorem dX9_pageField_245 : decode cX9_pageField 245 = .ok (.putfield 144, 3) := by decide +kernel
theorem dX9_pageField_248 : decode cX9_pageField 248 = .ok (.goto 83, 3) := by decide +kernel
theorem dX9_pageField_251 : decode cX9_pageField 251 = .ok (.aload_n 2, 1) := by decide +kernel
theorem dX9_pageField_252 : decode cX9_pageField 252 = .ok (.iload_n 1, 1) := by decide +kernel
theorem dX9_pageField_253 : decode cX9_pageField 253 = .ok (.ifCond .le 18, 3) := by decide +kernel
theorem dX9_pageField_256 : decode cX9_pageField 256 = .ok (.bipush 48, 2) := by decide +kernel
theorem dX9_pageField_258 : decode cX9_pageField 258 = .ok (.iload_n 1, 1) := by decide +kernel
theorem dX9_pageField_259 : decode cX9_pageField 259 = .ok (.irem, 1) := by decide +kernel
theorem dX9_pageField_260 : decode cX9_pageField 260 = .ok (.ifCond .ne 11, 3) := by decide +kernel
theorem dX9_pageField_263 : decode cX9_pageField 263 = .ok (.sipush 7200, 3) := by decide +kernel
theorem dX9_pageField_266 : decode cX9_pageField 266 = .ok (.iload_n 1, 1) := by decide +kernel
theorem dX9_pageField_267 : decode cX9_pageField 267 = .ok (.idiv, 1) := by decide +kernel
theorem dX9_pageField_268 : decode cX9_pageField 268 = .ok (.goto 7, 3) := by decide +kernel
theorem dX9_pageField_271 : decode cX9_pageField 271 = .ok (.aload_n 2, 1) := by decide +kernel
theorem dX9_pageField_272 : decode cX9_pageField 272 = .ok (.getfield 144, 3) := by decide +kernel
theorem dX9_pageField_275 : decode cX9_pageField 275 = .ok (.putfield 144, 3) := by decide +kernel
theorem dX9_pageField_278 : decode cX9_pageField 278 = .ok (.goto 53, 3) := by decide +kernel
theorem dX9_pageField_281 : decode cX9_pageField 281 = .ok (.aload_n 2, 1) := by decide +kernel
theorem dX9_pageField_282 : decode cX9_pageField 282 = .ok (.iload_n 1, 1) := by decide +kernel
theorem dX9_pageField_283 : decode cX9_pageField 283 = .ok (.invokevirtual 425, 3) := by decide +kernel
theorem dX9_pageField_286 : decode cX9_pageField 286 = .ok (.goto 45, 3) := by decide +kernel
theorem dX9_pageField_289 : decode cX9_pageField 289 = .ok (.aload_n 2, 1) := by decide +kernel
theorem dX9_pageField_290 : decode cX9_pageField 290 = .ok (.iload_n 1, 1) := by decide +kernel
theorem dX9_pageField_291 : decode cX9_pageField 291 = .ok (.invokevirtual 428, 3) := by decide +kernel
theorem dX9_pageField_294 : decode cX9_pageField 294 = .ok (.goto 37, 3) := by decide +kernel
theorem dX9_pageField_297 : decode cX9_pageField 297 = .ok (.aload_n 0, 1) := by decide +kernel
theorem dX9_pageField_298 : decode cX9_pageField 298 = .ok (.getfield 57, 3) := by decide +kernel
theorem dX9_pageField_301 : decode cX9_pageField 301 = .ok (.iload_n 1, 1) := by decide +kernel
theorem dX9_pageField_302 : decode cX9_pageField 302 = .ok (.iconst 1, 1) := by decide +kernel
theorem dX9_pageField_303 : decode cX9_pageField 303 = .ok (.if_icmp .eq 17, 3) := by decide +kernel
theorem dX9_pageField_306 : decode cX9_pageField 306 = .ok (.iload_n 1, 1) := by decide +kernel
theorem dX9_pageField_307 : decode cX9_pageField 307 = .ok (.ifCond .eq 17, 3) := by decide +kernel
theorem dX9_pageField_310 : decode cX9_pageField 310 = .ok (.aload_n 0, 1) := by decide +kernel
theorem dX9_pageField_311 : decode cX9_pageField 311 = .ok (.getfield 57, 3) := by decide +kernel
theorem dX9_pageField_314 : decode cX9_pageField 314 = .ok (.getfield 280, 3) := by decide +kernel
theorem dX9_pageField_317 : decode cX9_pageField 317 = .ok (.ifCond .eq 7, 3) := by decide +kernel
theorem dX9_pageField_320 : decode cX9_pageField 320 = .ok (.iconst 1, 1) := by decide +kernel
theorem dX9_pageField_321 : decode cX9_pageField 321 = .ok (.goto 4, 3) := by decide +kernel
theorem dX9_pageField_324 : decode cX9_pageField 324 = .ok (.iconst 0, 1) := by decide +kernel
theorem dX9_pageField_325 : decode cX9_pageField 325 = .ok (.putfield 280, 3) := by decide +kernel
theorem dX9_pageField_328 : decode cX9_pageField 328 = .ok (.goto 3, 3) := by decide +kernel
theorem dX9_pageField_331 : decode cX9_pageField 331 = .ok (.return_, 1) := by decide +kernel
noncomputable def f_X9_pageField_168 (G : Int32 → Mm → Option (Unit × Mm)) (a1 : Int32) (T : Mm) : Option (Unit × Mm) :=
  if (gI T 915 23) = 0 then (bd (f_X9_eject G T) fun _ T1 =>
  bd (f_X7_turn 46 (gI T1 700 46) a1 T1) fun _ T2 =>
  some ((), T2))
  else (some ((), T))
set_option maxRecDepth 100000 in
set_option maxHeartbeats 4000000 in
theorem s_X9_pageField_168 {x : JX} {ad : Nat → Nat} {U : Mm} {S0 : Hp} {q : Unit × Mm} {D : Nat} {G : Int32 → Mm → Option (Unit × Mm)}  (hn9 : x_n x = 3) (C : CB x RX9 cX9_pageField) (M : CMr x (D + 3) none S0 ad true U eV q) (hD : 40 ≤ D) (hG : ∀ (i : Int32) (T : Mm) (q : Unit × Mm), G i T = some q → Cr D yX9_goMacro cX9_goMacro 3 none [.ref (ad 23), .int i] ad true U T eV q) (a1 : Int32) (T : Mm) (h : f_X9_pageField_168 G  a1 T = some q) : Jr x ad true U T [(0, .ref (ad 23)), (1, .int a1), (2, .ref (ad 46))] 168 [] := by
  unfold f_X9_pageField_168 at h
  refine r_aload_n C dX9_pageField_168 rfl 0 rfl ?_
  refine r_geti (f := 915) C flX9_111 dX9_pageField_169 kq_23 (by decide) (by decide) rfl ?_
  refine r_if_ne (tgt := 331) C dX9_pageField_172 (by decide) h (fun h => ?_) (fun h => ?_)
  · exact r_vret C M dX9_pageField_331 h
  · refine r_aload_n C dX9_pageField_175 rfl 0 rfl ?_
    refine r_callVN C M h [] [] mlX9_240 mcX9_eject (fun q9 e9 => s_X9_eject hD (fun i9 T9 q9 e9 => hG i9 T9 q9 e9)   e9) kq_23 rfl (by omega) (by decide) rfl rfl (Nat.le_of_ble_eq_true rfl) dX9_pageField_176 (fun _ T1 h => ?_)
    refine r_aload_n C dX9_pageField_179 rfl 2 rfl ?_
    refine r_aload_n C dX9_pageField_180 rfl 2 rfl ?_
    refine r_geti (f := 700) C flX9_167 dX9_pageField_181 kq_46 (by decide) (by decide) rfl ?_
    show Jr _ _ _ _ _ _ 184 _
    refine r_iload_n C dX9_pageField_184 rfl 1 rfl ?_
    refine r_callVN C M h [.int (gI T1 700 46), .int a1] [] mlX9_416 mcX7_turn (fun q9 e9 => s_X7_turn 46 (gI T1 700 46) a1 kq_46 e9) kq_46 rfl (by omega) (by decide) rfl rfl (Nat.le_of_ble_eq_true rfl) dX9_pageField_185 (fun _ T2 h => ?_)
    refine r_goto (tgt := 331) C dX9_pageField_188 (by decide) ?_
    exact r_vret C M dX9_pageField_331 h
noncomputable def f_X9_pageField (G : Int32 → Mm → Option (Unit × Mm)) (p1 : Int32) (T : Mm) : Option (Unit × Mm) :=
  rf true (gR T 913 23) 5 fun j1 =>
  lb ((gI T 505 j1)) fun v3 =>
  if v3 = 65 then (if p1 < 0 then (some ((), T))
  else (if 4 ≤ p1 then (some ((), T))
  else (if (gI T 915 23) = 0 then (bd (f_X9_eject G T) fun _ T5 =>
  bd (f_X7_turn 46 p1 (gI T5 701 46) T5) fun _ T6 =>
  some ((), T6))
  else (some ((), T)))))
  else if v3 = 66 then (some ((), T))
  else if v3 = 67 then (bd (f_X9_spacing 150 (gI T 708 46) T) fun v9 T10 =>
  lb (uI T10 708 46 v9) fun T11 =>
  some ((), T11))
  else if v3 = 68 then (if p1 ≤ 0 then (lb (uI T 708 46 (gI T 708 46)) fun T13 =>
  some ((), T13))
  else (gd (¬ p1 = 0) <|
  if ((48 : Int32) - (48 : Int32) / p1 * p1) = 0 then (gd (¬ p1 = 0) <|
  lb (uI T 708 46 ((7200 : Int32) / p1)) fun T17 =>
  some ((), T17))
  else (lb (uI T 708 46 (gI T 708 46)) fun T15 =>
  some ((), T15))))
  else if v3 = 69 then (bd (f_X7_topMargin 46 p1 T) fun _ T19 =>
  some ((), T19))
  else if v3 = 70 then (bd (f_X7_bottomMargin 46 p1 T) fun _ T21 =>
  some ((), T21))
  else if v3 = 71 then (some ((), T))
  else if v3 = 72 then (if p1 = 0 then (bd (f_X9_form G T) fun _ T24 =>
  some ((), T24))
  else (some ((), T)))
  else if v3 = 73 then (some ((), T))
  else if v3 = 74 then (some ((), T))
  else if v3 = 75 then (some ((), T))
  else if v3 = 76 then (if p1 = 1 then (lb (uI T 107 45 1) fun T29 =>
  some ((), T29))
  else (if p1 = 0 then (lb (uI T 107 45 0) fun T30 =>
  some ((), T30))
  else (if (gI T 107 45) = 0 then (lb (uI T 107 45 0) fun T31 =>
  some ((), T31))
  else (lb (uI T 107 45 1) fun T32 =>
  some ((), T32)))))
  else if v3 = 77 then (some ((), T))
  else if v3 = 78 then (some ((), T))
  else if v3 = 79 then (if p1 = 0 then (f_X9_pageField_168 G p1 T)
  else (if p1 = 1 then (f_X9_pageField_168 G p1 T)
  else (some ((), T))))
  else if v3 = 80 then (some ((), T))
  else if v3 = 81 then (some ((), T))
  else if v3 = 82 then (some ((), T))
  else if v3 = 83 then (some ((), T))
  else if v3 = 84 then (some ((), T))
  else if v3 = 85 then (some ((), T))
  else if v3 = 86 then (some ((), T))
  else if v3 = 87 then (some ((), T))
  else if v3 = 88 then (if p1 < 1 then (lb (uI T 106 45 (gI T 106 45)) fun T45 =>
  some ((), T45))
  else (if 4 < p1 then (lb (uI T 106 45 (gI T 106 45)) fun T46 =>
  some ((), T46))
  else (lb (uI T 106 45 p1) fun T47 =>
  some ((), T47))))
  else (some ((), T))
set_option maxRecDepth 100000 in
set_option maxHeartbeats 4000000 in
theorem s_X9_pageField {ad : Nat → Nat} {U T : Mm} {q : Unit × Mm} {D : Nat} {G : Int32 → Mm → Option (Unit × Mm)}  (hD : 40 ≤ D) (hG : ∀ (i : Int32) (T : Mm) (q : Unit × Mm), G i T = some q → Cr D yX9_goMacro cX9_goMacro 3 none [.ref (ad 23), .int i] ad true U T eV q) (p1 : Int32) (h : f_X9_pageField G p1 T = some q) : Cr (D + 3) yX9_pageField cX9_pageField 3 none [.ref (ad 23), .int p1] ad true U T eV q := by
  refine cr_of (by decide) (Nat.le_of_ble_eq_true rfl) fun x S0 hn9 C M => ?_
  have C : CB x RX9 cX9_pageField := C
  refine Jr.eq (lv' := [(0, .ref (ad 23)), (1, .int p1)]) (st' := []) rfl rfl ?_
  unfold f_X9_pageField at h
  refine r_aload_n C dX9_pageField_0 rfl 0 rfl ?_
  refine r_getp (f := 909) (j := 45) C flX9_57 dX9_pageField_1 kq_23 (by decide) rfl (fun W => pt_909 kq_23 W) ?_
  refine r_getp (f := 100) (j := 46) C flX9_129 dX9_pageField_4 kq_45 (by decide) rfl (fun W => pt_100 kq_45 W) ?_
  refine r_astore_n (lv' := [(2, .ref (ad 46)), (0, .ref (ad 23)), (1, .int p1)]) C dX9_pageField_7 rfl (by rw [hn9]; decide) rfl ?_
  refine r_aload_n C dX9_pageField_8 rfl 1 rfl ?_
  show Jr _ _ _ _ _ _ 9 _
  refine r_getr (f := 913) (c := 5) C flX9_82 dX9_pageField_9 kq_23 (by decide) rfl h (fun j1 hj2 h => ?_)
  refine r_geti (f := 505) C flX9_327 dX9_pageField_12 hj2 (by decide) (by decide) rfl ?_
  refine r_lbI h (fun v3 h => ?_)
  by_cases hs4 : v3 = 65
  · rw [if_pos hs4] at h
    refine r_top hs4 ?_
    refine r_tabIn (off := 109) (tgt := 124) C dX9_pageField_15 (by decide) (by decide) (by decide) (by decide) ?_
    refine r_iload_n C dX9_pageField_124 rfl 2 rfl ?_
    refine r_if_lt (tgt := 331) C dX9_pageField_125 (by decide) h (fun h => ?_) (fun h => ?_)
    · exact r_vret C M dX9_pageField_331 h
    · refine r_iload_n C dX9_pageField_128 rfl 2 rfl ?_
      refine r_gets C 0 rfl (Or.inr ⟨_, gsX9_413⟩) dX9_pageField_129 ?_
      refine r_stlen (v := 4) C 0 rfl dX9_pageField_132 (by decide) ?_
      refine r_ic_ge (tgt := 331) C dX9_pageField_133 (by decide) h (fun h => ?_) (fun h => ?_)
      · exact r_vret C M dX9_pageField_331 h
      · refine r_aload_n C dX9_pageField_136 rfl 1 rfl ?_
        refine r_geti (f := 915) C flX9_111 dX9_pageField_137 kq_23 (by decide) (by decide) rfl ?_
        refine r_if_ne (tgt := 331) C dX9_pageField_140 (by decide) h (fun h => ?_) (fun h => ?_)
        · exact r_vret C M dX9_pageField_331 h
        · refine r_aload_n C dX9_pageField_143 rfl 1 rfl ?_
          refine r_callVN C M h [] [] mlX9_240 mcX9_eject (fun q9 e9 => s_X9_eject hD (fun i9 T9 q9 e9 => hG i9 T9 q9 e9)   e9) kq_23 rfl (by omega) (by decide) rfl rfl (Nat.le_of_ble_eq_true rfl) dX9_pageField_144 (fun _ T5 h => ?_)
          refine r_aload_n C dX9_pageField_147 rfl 0 rfl ?_
          refine r_iload_n C dX9_pageField_148 rfl 2 rfl ?_
          refine r_aload_n C dX9_pageField_149 rfl 0 rfl ?_
          show Jr _ _ _ _ _ _ 150 _
          refine r_geti (f := 701) C flX9_170 dX9_pageField_150 kq_46 (by decide) (by decide) rfl ?_
          refine r_callVN C M h [.int p1, .int (gI T5 701 46)] [] mlX9_416 mcX7_turn (fun q9 e9 => s_X7_turn 46 p1 (gI T5 701 46) kq_46 e9) kq_46 rfl (by omega) (by decide) rfl rfl (Nat.le_of_ble_eq_true rfl) dX9_pageField_153 (fun _ T6 h => ?_)
          refine r_goto (tgt := 331) C dX9_pageField_156 (by decide) ?_
          exact r_vret C M dX9_pageField_331 h
  rw [if_neg hs4] at h
  by_cases hs7 : v3 = 66
  · rw [if_pos hs7] at h
    refine r_top hs7 ?_
    refine r_tabIn (off := 316) (tgt := 331) C dX9_pageField_15 (by decide) (by decide) (by decide) (by decide) ?_
    exact r_vret C M dX9_pageField_331 h
  rw [if_neg hs7] at h
  by_cases hs8 : v3 = 67
  · rw [if_pos hs8] at h
    refine r_top hs8 ?_
    refine r_tabIn (off := 218) (tgt := 233) C dX9_pageField_15 (by decide) (by decide) (by decide) (by decide) ?_
    refine r_aload_n C dX9_pageField_233 rfl 0 rfl ?_
    refine r_aload_n C dX9_pageField_234 rfl 1 rfl ?_
    refine r_sipush (v := 150) C dX9_pageField_235 (by decide) ?_
    refine r_aload_n C dX9_pageField_238 rfl 0 rfl ?_
    refine r_geti (f := 708) C flX9_144 dX9_pageField_239 kq_46 (by decide) (by decide) rfl ?_
    show Jr _ _ _ _ _ _ 242 _
    refine r_callVI C M h [.int 150, .int (gI T 708 46)] [.ref (ad 46)] mlX9_422 mcX9_spacing (fun q9 e9 => s_X9_spacing 150 (gI T 708 46)  e9) kq_23 rfl (by omega) (by decide) rfl rfl (Nat.le_of_ble_eq_true rfl) dX9_pageField_242 (fun v9 T10 h => ?_)
    refine r_puti (f := 708) C flX9_144 (by decide) rfl rfl dX9_pageField_245 kq_46 rfl h (fun T11 h => ?_)
    refine r_goto (tgt := 331) C dX9_pageField_248 (by decide) ?_
    exact r_vret C M dX9_pageField_331 h
  rw [if_neg hs8] at h
  by_cases hs12 : v3 = 68
  · rw [if_pos hs12] at h
    refine r_top hs12 ?_
    refine r_tabIn (off := 236) (tgt := 251) C dX9_pageField_15 (by decide) (by decide) (by decide) (by decide) ?_
    refine r_aload_n C dX9_pageField_251 rfl 0 rfl ?_
    refine r_iload_n C dX9_pageField_252 rfl 2 rfl ?_
    refine r_if_le (tgt := 271) C dX9_pageField_253 (by decide) h (fun h => ?_) (fun h => ?_)
    · refine r_aload_n C dX9_pageField_271 rfl 0 rfl ?_
      refine r_geti (f := 708) C flX9_144 dX9_pageField_272 kq_46 (by decide) (by decide) rfl ?_
      refine r_puti (f := 708) C flX9_144 (by decide) rfl rfl dX9_pageField_275 kq_46 rfl h (fun T13 h => ?_)
      refine r_goto (tgt := 331) C dX9_pageField_278 (by decide) ?_
      exact r_vret C M dX9_pageField_331 h
    · refine r_bipush (v := 48) C dX9_pageField_256 (by decide) ?_
      refine r_iload_n C dX9_pageField_258 rfl 2 rfl ?_
      refine r_gd h (fun hz14 h => ?_)
      refine r_irem C dX9_pageField_259 hz14 rfl ?_
      refine r_if_ne (tgt := 271) C dX9_pageField_260 (by decide) h (fun h => ?_) (fun h => ?_)
      · refine r_aload_n C dX9_pageField_271 rfl 0 rfl ?_
        refine r_geti (f := 708) C flX9_144 dX9_pageField_272 kq_46 (by decide) (by decide) rfl ?_
        refine r_puti (f := 708) C flX9_144 (by decide) rfl rfl dX9_pageField_275 kq_46 rfl h (fun T15 h => ?_)
        refine r_goto (tgt := 331) C dX9_pageField_278 (by decide) ?_
        exact r_vret C M dX9_pageField_331 h
      · refine r_sipush (v := 7200) C dX9_pageField_263 (by decide) ?_
        refine r_iload_n C dX9_pageField_266 rfl 2 rfl ?_
        refine r_gd h (fun hz16 h => ?_)
        refine r_idiv C dX9_pageField_267 hz16 rfl ?_
        refine r_goto (tgt := 275) C dX9_pageField_268 (by decide) ?_
        refine r_puti (f := 708) C flX9_144 (by decide) rfl rfl dX9_pageField_275 kq_46 rfl h (fun T17 h => ?_)
        show Jr _ _ _ _ _ _ 278 _
        refine r_goto (tgt := 331) C dX9_pageField_278 (by decide) ?_
        exact r_vret C M dX9_pageField_331 h
  rw [if_neg hs12] at h
  by_cases hs18 : v3 = 69
  · rw [if_pos hs18] at h
    refine r_top hs18 ?_
    refine r_tabIn (off := 266) (tgt := 281) C dX9_pageField_15 (by decide) (by decide) (by decide) (by decide) ?_
    refine r_aload_n C dX9_pageField_281 rfl 0 rfl ?_
    refine r_iload_n C dX9_pageField_282 rfl 2 rfl ?_
    refine r_callVN C M h [.int p1] [] mlX9_425 mcX7_topMargin (fun q9 e9 => s_X7_topMargin 46 p1 kq_46 e9) kq_46 rfl (by omega) (by decide) rfl rfl (Nat.le_of_ble_eq_true rfl) dX9_pageField_283 (fun _ T19 h => ?_)
    refine r_goto (tgt := 331) C dX9_pageField_286 (by decide) ?_
    exact r_vret C M dX9_pageField_331 h
  rw [if_neg hs18] at h
  by_cases hs20 : v3 = 70
  · rw [if_pos hs20] at h
    refine r_top hs20 ?_
    refine r_tabIn (off := 274) (tgt := 289) C dX9_pageField_15 (by decide) (by decide) (by decide) (by decide) ?_
    refine r_aload_n C dX9_pageField_289 rfl 0 rfl ?_
    refine r_iload_n C dX9_pageField_290 rfl 2 rfl ?_
    refine r_callVN C M h [.int p1] [] mlX9_428 mcX7_bottomMargin (fun q9 e9 => s_X7_bottomMargin 46 p1 kq_46 e9) kq_46 rfl (by omega) (by decide) rfl rfl (Nat.le_of_ble_eq_true rfl) dX9_pageField_291 (fun _ T21 h => ?_)
    refine r_goto (tgt := 331) C dX9_pageField_294 (by decide) ?_
    exact r_vret C M dX9_pageField_331 h
  rw [if_neg hs20] at h
  by_cases hs22 : v3 = 71
  · rw [if_pos hs22] at h
    refine r_top hs22 ?_
    refine r_tabIn (off := 316) (tgt := 331) C dX9_pageField_15 (by decide) (by decide) (by decide) (by decide) ?_
    exact r_vret C M dX9_pageField_331 h
  rw [if_neg hs22] at h
  by_cases hs23 : v3 = 72
  · rw [if_pos hs23] at h
    refine r_top hs23 ?_
    refine r_tabIn (off := 176) (tgt := 191) C dX9_pageField_15 (by decide) (by decide) (by decide) (by decide) ?_
    refine r_iload_n C dX9_pageField_191 rfl 2 rfl ?_
    refine r_if_ne (tgt := 331) C dX9_pageField_192 (by decide) h (fun h => ?_) (fun h => ?_)
    · exact r_vret C M dX9_pageField_331 h
    · refine r_aload_n C dX9_pageField_195 rfl 1 rfl ?_
      refine r_callVN C M h [] [] mlX9_259 mcX9_form (fun q9 e9 => s_X9_form hD (fun i9 T9 q9 e9 => hG i9 T9 q9 e9)   e9) kq_23 rfl (by omega) (by decide) rfl rfl (Nat.le_of_ble_eq_true rfl) dX9_pageField_196 (fun _ T24 h => ?_)
      refine r_goto (tgt := 331) C dX9_pageField_199 (by decide) ?_
      exact r_vret C M dX9_pageField_331 h
  rw [if_neg hs23] at h
  by_cases hs25 : v3 = 73
  · rw [if_pos hs25] at h
    refine r_top hs25 ?_
    refine r_tabIn (off := 316) (tgt := 331) C dX9_pageField_15 (by decide) (by decide) (by decide) (by decide) ?_
    exact r_vret C M dX9_pageField_331 h
  rw [if_neg hs25] at h
  by_cases hs26 : v3 = 74
  · rw [if_pos hs26] at h
    refine r_top hs26 ?_
    refine r_tabIn (off := 316) (tgt := 331) C dX9_pageField_15 (by decide) (by decide) (by decide) (by decide) ?_
    exact r_vret C M dX9_pageField_331 h
  rw [if_neg hs26] at h
  by_cases hs27 : v3 = 75
  · rw [if_pos hs27] at h
    refine r_top hs27 ?_
    refine r_tabIn (off := 316) (tgt := 331) C dX9_pageField_15 (by decide) (by decide) (by decide) (by decide) ?_
    exact r_vret C M dX9_pageField_331 h
  rw [if_neg hs27] at h
  by_cases hs28 : v3 = 76
  · rw [if_pos hs28] at h
    refine r_top hs28 ?_
    refine r_tabIn (off := 282) (tgt := 297) C dX9_pageField_15 (by decide) (by decide) (by decide) (by decide) ?_
    refine r_aload_n C dX9_pageField_297 rfl 1 rfl ?_
    refine r_getp (f := 909) (j := 45) C flX9_57 dX9_pageField_298 kq_23 (by decide) rfl (fun W => pt_909 kq_23 W) ?_
    refine r_iload_n C dX9_pageField_301 rfl 2 rfl ?_
    refine r_iconst (v := 1) C dX9_pageField_302 (by decide) ?_
    refine r_ic_eq (tgt := 320) C dX9_pageField_303 (by decide) h (fun h => ?_) (fun h => ?_)
    · refine r_iconst (v := 1) C dX9_pageField_320 (by decide) ?_
      refine r_goto (tgt := 325) C dX9_pageField_321 (by decide) ?_
      refine r_putz (f := 107) C flX9_280 (by decide) rfl rfl (by decide) dX9_pageField_325 kq_45 rfl h (fun T29 h => ?_)
      refine r_goto (tgt := 331) C dX9_pageField_328 (by decide) ?_
      exact r_vret C M dX9_pageField_331 h
    · refine r_iload_n C dX9_pageField_306 rfl 2 rfl ?_
      refine r_if_eq (tgt := 324) C dX9_pageField_307 (by decide) h (fun h => ?_) (fun h => ?_)
      · refine r_iconst (v := 0) C dX9_pageField_324 (by decide) ?_
        refine r_putz (f := 107) C flX9_280 (by decide) rfl rfl (by decide) dX9_pageField_325 kq_45 rfl h (fun T30 h => ?_)
        refine r_goto (tgt := 331) C dX9_pageField_328 (by decide) ?_
        exact r_vret C M dX9_pageField_331 h
      · refine r_aload_n C dX9_pageField_310 rfl 1 rfl ?_
        refine r_getp (f := 909) (j := 45) C flX9_57 dX9_pageField_311 kq_23 (by decide) rfl (fun W => pt_909 kq_23 W) ?_
        refine r_geti (f := 107) C flX9_280 dX9_pageField_314 kq_45 (by decide) (by decide) rfl ?_
        refine r_if_eq (tgt := 324) C dX9_pageField_317 (by decide) h (fun h => ?_) (fun h => ?_)
        · refine r_iconst (v := 0) C dX9_pageField_324 (by decide) ?_
          refine r_putz (f := 107) C flX9_280 (by decide) rfl rfl (by decide) dX9_pageField_325 kq_45 rfl h (fun T31 h => ?_)
          refine r_goto (tgt := 331) C dX9_pageField_328 (by decide) ?_
          exact r_vret C M dX9_pageField_331 h
        · refine r_iconst (v := 1) C dX9_pageField_320 (by decide) ?_
          refine r_goto (tgt := 325) C dX9_pageField_321 (by decide) ?_
          refine r_putz (f := 107) C flX9_280 (by decide) rfl rfl (by decide) dX9_pageField_325 kq_45 rfl h (fun T32 h => ?_)
          refine r_goto (tgt := 331) C dX9_pageField_328 (by decide) ?_
          exact r_vret C M dX9_pageField_331 h
  rw [if_neg hs28] at h
  by_cases hs33 : v3 = 77
  · rw [if_pos hs33] at h
    refine r_top hs33 ?_
    refine r_tabIn (off := 316) (tgt := 331) C dX9_pageField_15 (by decide) (by decide) (by decide) (by decide) ?_
    exact r_vret C M dX9_pageField_331 h
  rw [if_neg hs33] at h
  by_cases hs34 : v3 = 78
  · rw [if_pos hs34] at h
    refine r_top hs34 ?_
    refine r_tabIn (off := 316) (tgt := 331) C dX9_pageField_15 (by decide) (by decide) (by decide) (by decide) ?_
    exact r_vret C M dX9_pageField_331 h
  rw [if_neg hs34] at h
  by_cases hs35 : v3 = 79
  · rw [if_pos hs35] at h
    refine r_top hs35 ?_
    refine r_tabIn (off := 144) (tgt := 159) C dX9_pageField_15 (by decide) (by decide) (by decide) (by decide) ?_
    refine r_iload_n C dX9_pageField_159 rfl 2 rfl ?_
    refine r_if_eq (tgt := 168) C dX9_pageField_160 (by decide) h (fun h => ?_) (fun h => ?_)
    · refine Jr.sub [1, 2, 0] (lv' := [(0, .ref (ad 23)), (1, .int p1), (2, .ref (ad 46))]) rfl ?_
      exact s_X9_pageField_168 hn9 C M hD hG  p1 T h
    · refine r_iload_n C dX9_pageField_163 rfl 2 rfl ?_
      refine r_iconst (v := 1) C dX9_pageField_164 (by decide) ?_
      refine r_ic_ne (tgt := 331) C dX9_pageField_165 (by decide) h (fun h => ?_) (fun h => ?_)
      · exact r_vret C M dX9_pageField_331 h
      · refine Jr.sub [1, 2, 0] (lv' := [(0, .ref (ad 23)), (1, .int p1), (2, .ref (ad 46))]) rfl ?_
        exact s_X9_pageField_168 hn9 C M hD hG  p1 T h
  rw [if_neg hs35] at h
  by_cases hs36 : v3 = 80
  · rw [if_pos hs36] at h
    refine r_top hs36 ?_
    refine r_tabIn (off := 316) (tgt := 331) C dX9_pageField_15 (by decide) (by decide) (by decide) (by decide) ?_
    exact r_vret C M dX9_pageField_331 h
  rw [if_neg hs36] at h
  by_cases hs37 : v3 = 81
  · rw [if_pos hs37] at h
    refine r_top hs37 ?_
    refine r_tabIn (off := 316) (tgt := 331) C dX9_pageField_15 (by decide) (by decide) (by decide) (by decide) ?_
    exact r_vret C M dX9_pageField_331 h
  rw [if_neg hs37] at h
  by_cases hs38 : v3 = 82
  · rw [if_pos hs38] at h
    refine r_top hs38 ?_
    refine r_tabIn (off := 316) (tgt := 331) C dX9_pageField_15 (by decide) (by decide) (by decide) (by decide) ?_
    exact r_vret C M dX9_pageField_331 h
  rw [if_neg hs38] at h
  by_cases hs39 : v3 = 83
  · rw [if_pos hs39] at h
    refine r_top hs39 ?_
    refine r_tabIn (off := 316) (tgt := 331) C dX9_pageField_15 (by decide) (by decide) (by decide) (by decide) ?_
    exact r_vret C M dX9_pageField_331 h
  rw [if_neg hs39] at h
  by_cases hs40 : v3 = 84
  · rw [if_pos hs40] at h
    refine r_top hs40 ?_
    refine r_tabIn (off := 316) (tgt := 331) C dX9_pageField_15 (by decide) (by decide) (by decide) (by decide) ?_
    exact r_vret C M dX9_pageField_331 h
  rw [if_neg hs40] at h
  by_cases hs41 : v3 = 85
  · rw [if_pos hs41] at h
    refine r_top hs41 ?_
    refine r_tabIn (off := 316) (tgt := 331) C dX9_pageField_15 (by decide) (by decide) (by decide) (by decide) ?_
    exact r_vret C M dX9_pageField_331 h
  rw [if_neg hs41] at h
  by_cases hs42 : v3 = 86
  · rw [if_pos hs42] at h
    refine r_top hs42 ?_
    refine r_tabIn (off := 316) (tgt := 331) C dX9_pageField_15 (by decide) (by decide) (by decide) (by decide) ?_
    exact r_vret C M dX9_pageField_331 h
  rw [if_neg hs42] at h
  by_cases hs43 : v3 = 87
  · rw [if_pos hs43] at h
    refine r_top hs43 ?_
    refine r_tabIn (off := 316) (tgt := 331) C dX9_pageField_15 (by decide) (by decide) (by decide) (by decide) ?_
    exact r_vret C M dX9_pageField_331 h
  rw [if_neg hs43] at h
  by_cases hs44 : v3 = 88
  · rw [if_pos hs44] at h
    refine r_top hs44 ?_
    refine r_tabIn (off := 187) (tgt := 202) C dX9_pageField_15 (by decide) (by decide) (by decide) (by decide) ?_
    refine r_aload_n C dX9_pageField_202 rfl 1 rfl ?_
    refine r_getp (f := 909) (j := 45) C flX9_57 dX9_pageField_203 kq_23 (by decide) rfl (fun W => pt_909 kq_23 W) ?_
    refine r_iload_n C dX9_pageField_206 rfl 2 rfl ?_
    refine r_iconst (v := 1) C dX9_pageField_207 (by decide) ?_
    refine r_ic_lt (tgt := 220) C dX9_pageField_208 (by decide) h (fun h => ?_) (fun h => ?_)
    · refine r_aload_n C dX9_pageField_220 rfl 1 rfl ?_
      refine r_getp (f := 909) (j := 45) C flX9_57 dX9_pageField_221 kq_23 (by decide) rfl (fun W => pt_909 kq_23 W) ?_
      refine r_geti (f := 106) C flX9_419 dX9_pageField_224 kq_45 (by decide) (by decide) rfl ?_
      refine r_puti (f := 106) C flX9_419 (by decide) rfl rfl dX9_pageField_227 kq_45 rfl h (fun T45 h => ?_)
      refine r_goto (tgt := 331) C dX9_pageField_230 (by decide) ?_
      show Jr _ _ _ _ _ _ 331 _
      exact r_vret C M dX9_pageField_331 h
    · refine r_iload_n C dX9_pageField_211 rfl 2 rfl ?_
      refine r_iconst (v := 4) C dX9_pageField_212 (by decide) ?_
      refine r_ic_gt (tgt := 220) C dX9_pageField_213 (by decide) h (fun h => ?_) (fun h => ?_)
      · refine r_aload_n C dX9_pageField_220 rfl 1 rfl ?_
        refine r_getp (f := 909) (j := 45) C flX9_57 dX9_pageField_221 kq_23 (by decide) rfl (fun W => pt_909 kq_23 W) ?_
        refine r_geti (f := 106) C flX9_419 dX9_pageField_224 kq_45 (by decide) (by decide) rfl ?_
        refine r_puti (f := 106) C flX9_419 (by decide) rfl rfl dX9_pageField_227 kq_45 rfl h (fun T46 h => ?_)
        refine r_goto (tgt := 331) C dX9_pageField_230 (by decide) ?_
        show Jr _ _ _ _ _ _ 331 _
        exact r_vret C M dX9_pageField_331 h
      · refine r_iload_n C dX9_pageField_216 rfl 2 rfl ?_
        refine r_goto (tgt := 227) C dX9_pageField_217 (by decide) ?_
        refine r_puti (f := 106) C flX9_419 (by decide) rfl rfl dX9_pageField_227 kq_45 rfl h (fun T47 h => ?_)
        refine r_goto (tgt := 331) C dX9_pageField_230 (by decide) ?_
        exact r_vret C M dX9_pageField_331 h
  rw [if_neg hs44] at h
  refine r_tabOut (tgt := 331) C dX9_pageField_15 (by have t09 : (v3).toInt ≠ 65 := ne_toInt hs4 (by decide); have t19 : (v3).toInt ≠ 66 := ne_toInt hs7 (by decide); have t29 : (v3).toInt ≠ 67 := ne_toInt hs8 (by decide); have t39 : (v3).toInt ≠ 68 := ne_toInt hs12 (by decide); have t49 : (v3).toInt ≠ 69 := ne_toInt hs18 (by decide); have t59 : (v3).toInt ≠ 70 := ne_toInt hs20 (by decide); have t69 : (v3).toInt ≠ 71 := ne_toInt hs22 (by decide); have t79 : (v3).toInt ≠ 72 := ne_toInt hs23 (by decide); have t89 : (v3).toInt ≠ 73 := ne_toInt hs25 (by decide); have t99 : (v3).toInt ≠ 74 := ne_toInt hs26 (by decide); have t109 : (v3).toInt ≠ 75 := ne_toInt hs27 (by decide); have t119 : (v3).toInt ≠ 76 := ne_toInt hs28 (by decide); have t129 : (v3).toInt ≠ 77 := ne_toInt hs33 (by decide); have t139 : (v3).toInt ≠ 78 := ne_toInt hs34 (by decide); have t149 : (v3).toInt ≠ 79 := ne_toInt hs35 (by decide); have t159 : (v3).toInt ≠ 80 := ne_toInt hs36 (by decide); have t169 : (v3).toInt ≠ 81 := ne_toInt hs37 (by decide); have t179 : (v3).toInt ≠ 82 := ne_toInt hs38 (by decide); have t189 : (v3).toInt ≠ 83 := ne_toInt hs39 (by decide); have t199 : (v3).toInt ≠ 84 := ne_toInt hs40 (by decide); have t209 : (v3).toInt ≠ 85 := ne_toInt hs41 (by decide); have t219 : (v3).toInt ≠ 86 := ne_toInt hs42 (by decide); have t229 : (v3).toInt ≠ 87 := ne_toInt hs43 (by decide); have t239 : (v3).toInt ≠ 88 := ne_toInt hs44 (by decide); omega) (by decide) ?_
  exact r_vret C M dX9_pageField_331 h
theorem dX9_moveAcross_0 : decode cX9_moveAcross 0 = .ok (.aload_n 0, 1) := by decide +kernel
theorem dX9_moveAcross_1 : decode cX9_moveAcross 1 = .ok (.getfield 57, 3) := by decide +kernel
theorem dX9_moveAcross_4 : decode cX9_moveAcross 4 = .ok (.getfield 129, 3) := by decide +kernel
theorem dX9_moveAcross_7 : decode cX9_moveAcross 7 = .ok (.aload_n 0, 1) := by decide +kernel
theorem dX9_moveAcross_8 : decode cX9_moveAcross 8 = .ok (.getfield 82, 3) := by decide +kernel
theorem dX9_moveAcross_11 : decode cX9_moveAcross 11 = .ok (.getfield 450, 3) := by decide +kernel
theorem dX9_moveAcross_14 : decode cX9_moveAcross 14 = .ok (.ifCond .eq 19, 3) := by decide +kernel
theorem dX9_moveAcross_17 : decode cX9_moveAcross 17 = .ok (.aload_n 0, 1) := by decide +kernel
theorem dX9_moveAcross_18 : decode cX9_moveAcross 18 = .ok (.getfield 57, 3) := by decide +kernel
theorem dX9_moveAcross_21 : decode cX9_moveAcross 21 = .ok (.getfield 129, 3) := by decide +kernel
theorem dX9_moveAcross_24 : decode cX9_moveAcross 24 = .ok (.getfield 133, 3) := by decide +kernel
theorem dX9_moveAcross_27 : decode cX9_moveAcross 27 = .ok (.i2l, 1) := by decide +kernel
theorem dX9_moveAcross_28 : decode cX9_moveAcross 28 = .ok (.lload_n 1, 1) := by decide +kernel
theorem dX9_moveAcross_29 : decode cX9_moveAcross 29 = .ok (.ladd, 1) := by decide +kernel
theorem dX9_moveAcross_30 : decode cX9_moveAcross 30 = .ok (.goto 4, 3) := by decide +kernel
theorem dX9_moveAcross_33 : decode cX9_moveAcross 33 = .ok (.lload_n 1, 1) := by decide +kernel
theorem dX9_moveAcross_34 : decode cX9_moveAcross 34 = .ok (.invokevirtual 246, 3) := by decide +kernel
theorem dX9_moveAcross_37 : decode cX9_moveAcross 37 = .ok (.return_, 1) := by decide +kernel
noncomputable def f_X9_moveAcross (p1 : Int64) (T : Mm) : Option (Unit × Mm) :=
  rf true (gR T 913 23) 5 fun j1 =>
  if (gI T 507 j1) = 0 then (bd (f_X7_moveX 46 p1 T) fun _ T3 =>
  some ((), T3))
  else (bd (f_X7_moveX 46 ((((gI T 706 46)).toInt64) + p1) T) fun _ T4 =>
  some ((), T4))
set_option maxRecDepth 100000 in
set_option maxHeartbeats 4000000 in
theorem s_X9_moveAcross {ad : Nat → Nat} {U T : Mm} {q : Unit × Mm}  (p1 : Int64) (h : f_X9_moveAcross p1 T = some q) : Cr 3 yX9_moveAcross cX9_moveAcross 3 none [.ref (ad 23), .long p1] ad true U T eV q := by
  refine cr_of (by decide) (Nat.le_of_ble_eq_true rfl) fun x S0 hn9 C M => ?_
  have C : CB x RX9 cX9_moveAcross := C
  refine Jr.eq (lv' := [(0, .ref (ad 23)), (1, .long p1)]) (st' := []) rfl rfl ?_
  unfold f_X9_moveAcross at h
  refine r_aload_n C dX9_moveAcross_0 rfl 0 rfl ?_
  refine r_getp (f := 909) (j := 45) C flX9_57 dX9_moveAcross_1 kq_23 (by decide) rfl (fun W => pt_909 kq_23 W) ?_
  refine r_getp (f := 100) (j := 46) C flX9_129 dX9_moveAcross_4 kq_45 (by decide) rfl (fun W => pt_100 kq_45 W) ?_
  refine r_aload_n C dX9_moveAcross_7 rfl 0 rfl ?_
  refine r_getr (f := 913) (c := 5) C flX9_82 dX9_moveAcross_8 kq_23 (by decide) rfl h (fun j1 hj2 h => ?_)
  show Jr _ _ _ _ _ _ 11 _
  refine r_geti (f := 507) C flX9_450 dX9_moveAcross_11 hj2 (by decide) (by decide) rfl ?_
  refine r_if_eq (tgt := 33) C dX9_moveAcross_14 (by decide) h (fun h => ?_) (fun h => ?_)
  · refine r_lload_n C dX9_moveAcross_33 rfl 1 rfl ?_
    refine r_callVN C M h [.long p1] [] mlX9_246 mcX7_moveX (fun q9 e9 => s_X7_moveX 46 p1 kq_46 e9) kq_46 rfl (by decide) (by decide) rfl rfl (Nat.le_of_ble_eq_true rfl) dX9_moveAcross_34 (fun _ T3 h => ?_)
    exact r_vret C M dX9_moveAcross_37 h
  · refine r_aload_n C dX9_moveAcross_17 rfl 0 rfl ?_
    refine r_getp (f := 909) (j := 45) C flX9_57 dX9_moveAcross_18 kq_23 (by decide) rfl (fun W => pt_909 kq_23 W) ?_
    refine r_getp (f := 100) (j := 46) C flX9_129 dX9_moveAcross_21 kq_45 (by decide) rfl (fun W => pt_100 kq_45 W) ?_
    refine r_geti (f := 706) C flX9_133 dX9_moveAcross_24 kq_46 (by decide) (by decide) rfl ?_
    refine r_i2l C dX9_moveAcross_27 rfl ?_
    show Jr _ _ _ _ _ _ 28 _
    refine r_lload_n C dX9_moveAcross_28 rfl 1 rfl ?_
    refine r_ladd C dX9_moveAcross_29 rfl ?_
    refine r_goto (tgt := 34) C dX9_moveAcross_30 (by decide) ?_
    refine r_callVN C M h [.long ((((gI T 706 46)).toInt64) + p1)] [] mlX9_246 mcX7_moveX (fun q9 e9 => s_X7_moveX 46 ((((gI T 706 46)).toInt64) + p1) kq_46 e9) kq_46 rfl (by decide) (by decide) rfl rfl (Nat.le_of_ble_eq_true rfl) dX9_moveAcross_34 (fun _ T4 h => ?_)
    exact r_vret C M dX9_moveAcross_37 h
theorem dX9_moveDown_0 : decode cX9_moveDown 0 = .ok (.aload_n 0, 1) := by decide +kernel
theorem dX9_moveDown_1 : decode cX9_moveDown 1 = .ok (.getfield 57, 3) := by decide +kernel
theorem dX9_moveDown_4 : decode cX9_moveDown 4 = .ok (.getfield 129, 3) := by decide +kernel
theorem dX9_moveDown_7 : decode cX9_moveDown 7 = .ok (.aload_n 0, 1) := by decide +kernel
theorem dX9_moveDown_8 : decode cX9_moveDown 8 = .ok (.getfield 82, 3) := by decide +kernel
theorem dX9_moveDown_11 : decode cX9_moveDown 11 = .ok (.getfield 450, 3) := by decide +kernel
theorem dX9_moveDown_14 : decode cX9_moveDown 14 = .ok (.ifCond .eq 19, 3) := by decide +kernel
theorem dX9_moveDown_17 : decode cX9_moveDown 17 = .ok (.aload_n 0, 1) := by decide +kernel
theorem dX9_moveDown_18 : decode cX9_moveDown 18 = .ok (.getfield 57, 3) := by decide +kernel
theorem dX9_moveDown_21 : decode cX9_moveDown 21 = .ok (.getfield 129, 3) := by decide +kernel
theorem dX9_moveDown_24 : decode cX9_moveDown 24 = .ok (.getfield 138, 3) := by decide +kernel
theorem dX9_moveDown_27 : decode cX9_moveDown 27 = .ok (.i2l, 1) := by decide +kernel
theorem dX9_moveDown_28 : decode cX9_moveDown 28 = .ok (.lload_n 1, 1) := by decide +kernel
theorem dX9_moveDown_29 : decode cX9_moveDown 29 = .ok (.ladd, 1) := by decide +kernel
theorem dX9_moveDown_30 : decode cX9_moveDown 30 = .ok (.goto 7, 3) := by decide +kernel
theorem dX9_moveDown_33 : decode cX9_moveDown 33 = .ok (.iload_n 3, 1) := by decide +kernel
theorem dX9_moveDown_34 : decode cX9_moveDown 34 = .ok (.i2l, 1) := by decide +kernel
theorem dX9_moveDown_35 : decode cX9_moveDown 35 = .ok (.lload_n 1, 1) := by decide +kernel
theorem dX9_moveDown_36 : decode cX9_moveDown 36 = .ok (.ladd, 1) := by decide +kernel
theorem dX9_moveDown_37 : decode cX9_moveDown 37 = .ok (.invokevirtual 286, 3) := by decide +kernel
theorem dX9_moveDown_40 : decode cX9_moveDown 40 = .ok (.return_, 1) := by decide +kernel
noncomputable def f_X9_moveDown (p1 : Int64) (p3 : Int32) (T : Mm) : Option (Unit × Mm) :=
  rf true (gR T 913 23) 5 fun j1 =>
  if (gI T 507 j1) = 0 then (bd (f_X7_moveY 46 (((p3).toInt64) + p1) T) fun _ T3 =>
  some ((), T3))
  else (bd (f_X7_moveY 46 ((((gI T 707 46)).toInt64) + p1) T) fun _ T4 =>
  some ((), T4))
set_option maxRecDepth 100000 in
set_option maxHeartbeats 4000000 in
theorem s_X9_moveDown {ad : Nat → Nat} {U T : Mm} {q : Unit × Mm}  (p1 : Int64) (p3 : Int32) (h : f_X9_moveDown p1 p3 T = some q) : Cr 3 yX9_moveDown cX9_moveDown 4 none [.ref (ad 23), .long p1, .int p3] ad true U T eV q := by
  refine cr_of (by decide) (Nat.le_of_ble_eq_true rfl) fun x S0 hn9 C M => ?_
  have C : CB x RX9 cX9_moveDown := C
  refine Jr.eq (lv' := [(0, .ref (ad 23)), (1, .long p1), (3, .int p3)]) (st' := []) rfl rfl ?_
  unfold f_X9_moveDown at h
  refine r_aload_n C dX9_moveDown_0 rfl 0 rfl ?_
  refine r_getp (f := 909) (j := 45) C flX9_57 dX9_moveDown_1 kq_23 (by decide) rfl (fun W => pt_909 kq_23 W) ?_
  refine r_getp (f := 100) (j := 46) C flX9_129 dX9_moveDown_4 kq_45 (by decide) rfl (fun W => pt_100 kq_45 W) ?_
  refine r_aload_n C dX9_moveDown_7 rfl 0 rfl ?_
  refine r_getr (f := 913) (c := 5) C flX9_82 dX9_moveDown_8 kq_23 (by decide) rfl h (fun j1 hj2 h => ?_)
  show Jr _ _ _ _ _ _ 11 _
  refine r_geti (f := 507) C flX9_450 dX9_moveDown_11 hj2 (by decide) (by decide) rfl ?_
  refine r_if_eq (tgt := 33) C dX9_moveDown_14 (by decide) h (fun h => ?_) (fun h => ?_)
  · refine r_iload_n C dX9_moveDown_33 rfl 2 rfl ?_
    refine r_i2l C dX9_moveDown_34 rfl ?_
    refine r_lload_n C dX9_moveDown_35 rfl 1 rfl ?_
    refine r_ladd C dX9_moveDown_36 rfl ?_
    refine r_callVN C M h [.long (((p3).toInt64) + p1)] [] mlX9_286 mcX7_moveY (fun q9 e9 => s_X7_moveY 46 (((p3).toInt64) + p1) kq_46 e9) kq_46 rfl (by decide) (by decide) rfl rfl (Nat.le_of_ble_eq_true rfl) dX9_moveDown_37 (fun _ T3 h => ?_)
    show Jr _ _ _ _ _ _ 40 _
    exact r_vret C M dX9_moveDown_40 h
  · refine r_aload_n C dX9_moveDown_17 rfl 0 rfl ?_
    refine r_getp (f := 909) (j := 45) C flX9_57 dX9_moveDown_18 kq_23 (by decide) rfl (fun W => pt_909 kq_23 W) ?_
    refine r_getp (f := 100) (j := 46) C flX9_129 dX9_moveDown_21 kq_45 (by decide) rfl (fun W => pt_100 kq_45 W) ?_
    refine r_geti (f := 707) C flX9_138 dX9_moveDown_24 kq_46 (by decide) (by decide) rfl ?_
    refine r_i2l C dX9_moveDown_27 rfl ?_
    show Jr _ _ _ _ _ _ 28 _
    refine r_lload_n C dX9_moveDown_28 rfl 1 rfl ?_
    refine r_ladd C dX9_moveDown_29 rfl ?_
    refine r_goto (tgt := 37) C dX9_moveDown_30 (by decide) ?_
    refine r_callVN C M h [.long ((((gI T 707 46)).toInt64) + p1)] [] mlX9_286 mcX7_moveY (fun q9 e9 => s_X7_moveY 46 ((((gI T 707 46)).toInt64) + p1) kq_46 e9) kq_46 rfl (by decide) (by decide) rfl rfl (Nat.le_of_ble_eq_true rfl) dX9_moveDown_37 (fun _ T4 h => ?_)
    exact r_vret C M dX9_moveDown_40 h
theorem dX7_leftMargin_0 : decode cX7_leftMargin 0 = .ok (.iload_n 1, 1) := by decide +kernel
theorem dX7_leftMargin_1 : decode cX7_leftMargin 1 = .ok (.ifCond .lt 42, 3) := by decide +kernel
theorem dX7_leftMargin_4 : decode cX7_leftMargin 4 = .ok (.iload_n 1, 1) := by decide +kernel
theorem dX7_leftMargin_5 : decode cX7_leftMargin 5 = .ok (.aload_n 0, 1) := by decide +kernel
theorem dX7_leftMargin_6 : decode cX7_leftMargin 6 = .ok (.getfield 43, 3) := by decide +kernel
theorem dX7_leftMargin_9 : decode cX7_leftMargin 9 = .ok (.imul, 1) := by decide +kernel
theorem dX7_leftMargin_10 : decode cX7_leftMargin 10 = .ok (.aload_n 0, 1) := by decide +kernel
theorem dX7_leftMargin_11 : decode cX7_leftMargin 11 = .ok (.getfield 25, 3) := by decide +kernel
theorem dX7_leftMargin_14 : decode cX7_leftMargin 14 = .ok (.if_icmp .ge 29, 3) := by decide +kernel
theorem dX7_leftMargin_17 : decode cX7_leftMargin 17 = .ok (.aload_n 0, 1) := by decide +kernel
theorem dX7_leftMargin_18 : decode cX7_leftMargin 18 = .ok (.iload_n 1, 1) := by decide +kernel
theorem dX7_leftMargin_19 : decode cX7_leftMargin 19 = .ok (.aload_n 0, 1) := by decide +kernel
theorem dX7_leftMargin_20 : decode cX7_leftMargin 20 = .ok (.getfield 43, 3) := by decide +kernel
theorem dX7_leftMargin_23 : decode cX7_leftMargin 23 = .ok (.imul, 1) := by decide +kernel
theorem dX7_leftMargin_24 : decode cX7_leftMargin 24 = .ok (.putfield 22, 3) := by decide +kernel
theorem dX7_leftMargin_27 : decode cX7_leftMargin 27 = .ok (.aload_n 0, 1) := by decide +kernel
theorem dX7_leftMargin_28 : decode cX7_leftMargin 28 = .ok (.aload_n 0, 1) := by decide +kernel
theorem dX7_leftMargin_29 : decode cX7_leftMargin 29 = .ok (.getfield 34, 3) := by decide +kernel
theorem dX7_leftMargin_32 : decode cX7_leftMargin 32 = .ok (.aload_n 0, 1) := by decide +kernel
theorem dX7_leftMargin_33 : decode cX7_leftMargin 33 = .ok (.getfield 22, 3) := by decide +kernel
theorem dX7_leftMargin_36 : decode cX7_leftMargin 36 = .ok (.invokestatic 102, 3) := by decide +kernel
theorem dX7_leftMargin_39 : decode cX7_leftMargin 39 = .ok (.i2l, 1) := by decide +kernel
theorem dX7_leftMargin_40 : decode cX7_leftMargin 40 = .ok (.invokevirtual 65, 3) := by decide +kernel
theorem dX7_leftMargin_43 : decode cX7_leftMargin 43 = .ok (.return_, 1) := by decide +kernel
noncomputable def f_X7_leftMargin (p0 : Nat) (p1 : Int32) (T : Mm) : Option (Unit × Mm) :=
  if p1 < 0 then (some ((), T))
  else (if (gI T 703 p0) ≤ (p1 * (gI T 709 p0)) then (some ((), T))
  else (lb (uI T 702 p0 (p1 * (gI T 709 p0))) fun T1 =>
  bd (f_J9_max_7cf53 (gI T1 706 p0) (gI T1 702 p0) T1) fun v2 T3 =>
  bd (f_X7_moveX p0 ((v2).toInt64) T3) fun _ T4 =>
  some ((), T4)))
set_option maxRecDepth 100000 in
set_option maxHeartbeats 4000000 in
theorem s_X7_leftMargin {ad : Nat → Nat} {U T : Mm} {q : Unit × Mm}  (p0 : Nat) (p1 : Int32) (hk0 : kS true p0 = 7) (h : f_X7_leftMargin p0 p1 T = some q) : Cr 3 yX7_leftMargin cX7_leftMargin 2 none [.ref (ad p0), .int p1] ad true U T eV q := by
  refine cr_of (by decide) (Nat.le_of_ble_eq_true rfl) fun x S0 hn9 C M => ?_
  have C : CB x RX7 cX7_leftMargin := C
  refine Jr.eq (lv' := [(0, .ref (ad p0)), (1, .int p1)]) (st' := []) rfl rfl ?_
  unfold f_X7_leftMargin at h
  refine r_iload_n C dX7_leftMargin_0 rfl 1 rfl ?_
  refine r_if_lt (tgt := 43) C dX7_leftMargin_1 (by decide) h (fun h => ?_) (fun h => ?_)
  · exact r_vret C M dX7_leftMargin_43 h
  · refine r_iload_n C dX7_leftMargin_4 rfl 1 rfl ?_
    refine r_aload_n C dX7_leftMargin_5 rfl 0 rfl ?_
    refine r_geti (f := 709) C flX7_43 dX7_leftMargin_6 hk0 (by decide) (by decide) rfl ?_
    refine r_imul C dX7_leftMargin_9 rfl ?_
    refine r_aload_n C dX7_leftMargin_10 rfl 0 rfl ?_
    show Jr _ _ _ _ _ _ 11 _
    refine r_geti (f := 703) C flX7_25 dX7_leftMargin_11 hk0 (by decide) (by decide) rfl ?_
    refine r_ic_ge (tgt := 43) C dX7_leftMargin_14 (by decide) h (fun h => ?_) (fun h => ?_)
    · exact r_vret C M dX7_leftMargin_43 h
    · refine r_aload_n C dX7_leftMargin_17 rfl 0 rfl ?_
      refine r_iload_n C dX7_leftMargin_18 rfl 1 rfl ?_
      refine r_aload_n C dX7_leftMargin_19 rfl 0 rfl ?_
      refine r_geti (f := 709) C flX7_43 dX7_leftMargin_20 hk0 (by decide) (by decide) rfl ?_
      refine r_imul C dX7_leftMargin_23 rfl ?_
      show Jr _ _ _ _ _ _ 24 _
      refine r_puti (f := 702) C flX7_22 (by decide) rfl rfl dX7_leftMargin_24 hk0 rfl h (fun T1 h => ?_)
      refine r_aload_n C dX7_leftMargin_27 rfl 0 rfl ?_
      refine r_aload_n C dX7_leftMargin_28 rfl 0 rfl ?_
      refine r_geti (f := 706) C flX7_34 dX7_leftMargin_29 hk0 (by decide) (by decide) rfl ?_
      refine r_aload_n C dX7_leftMargin_32 rfl 0 rfl ?_
      refine r_geti (f := 702) C flX7_22 dX7_leftMargin_33 hk0 (by decide) (by decide) rfl ?_
      show Jr _ _ _ _ _ _ 36 _
      refine r_callSI C M h [.int (gI T1 706 p0), .int (gI T1 702 p0)] [.ref (ad p0)] mlX7_102 mcJ9_max_7cf53 (fun q9 e9 => s_J9_max_7cf53 (gI T1 706 p0) (gI T1 702 p0)  e9) (by decide) (by decide) rfl rfl (Nat.le_of_ble_eq_true rfl) dX7_leftMargin_36 (fun v2 T3 h => ?_)
      refine r_i2l C dX7_leftMargin_39 rfl ?_
      refine r_callVN C M h [.long ((v2).toInt64)] [] mlX7_65 mcX7_moveX (fun q9 e9 => s_X7_moveX p0 ((v2).toInt64) hk0 e9) hk0 rfl (by decide) (by decide) rfl rfl (Nat.le_of_ble_eq_true rfl) dX7_leftMargin_40 (fun _ T4 h => ?_)
      exact r_vret C M dX7_leftMargin_43 h
theorem dX7_rightMargin_0 : decode cX7_rightMargin 0 = .ok (.iload_n 1, 1) := by decide +kernel
theorem dX7_rightMargin_1 : decode cX7_rightMargin 1 = .ok (.iconst 1, 1) := by decide +kernel
theorem dX7_rightMargin_2 : decode cX7_rightMargin 2 = .ok (.iadd, 1) := by decide +kernel
theorem dX7_rightMargin_3 : decode cX7_rightMargin 3 = .ok (.aload_n 0, 1) := by decide +kernel
theorem dX7_rightMargin_4 : decode cX7_rightMargin 4 = .ok (.getfield 43, 3) := by decide +kernel
theorem dX7_rightMargin_7 : decode cX7_rightMargin 7 = .ok (.imul, 1) := by decide +kernel
theorem dX7_rightMargin_8 : decode cX7_rightMargin 8 = .ok (.istore_n 2, 1) := by decide +kernel
theorem dX7_rightMargin_9 : decode cX7_rightMargin 9 = .ok (.iload_n 1, 1) := by decide +kernel
theorem dX7_rightMargin_10 : decode cX7_rightMargin 10 = .ok (.ifCond .lt 24, 3) := by decide +kernel
theorem dX7_rightMargin_13 : decode cX7_rightMargin 13 = .ok (.iload_n 2, 1) := by decide +kernel
theorem dX7_rightMargin_14 : decode cX7_rightMargin 14 = .ok (.aload_n 0, 1) := by decide +kernel
theorem dX7_rightMargin_15 : decode cX7_rightMargin 15 = .ok (.getfield 22, 3) := by decide +kernel
theorem dX7_rightMargin_18 : decode cX7_rightMargin 18 = .ok (.if_icmp .le 16, 3) := by decide +kernel
theorem dX7_rightMargin_21 : decode cX7_rightMargin 21 = .ok (.iload_n 2, 1) := by decide +kernel
theorem dX7_rightMargin_22 : decode cX7_rightMargin 22 = .ok (.aload_n 0, 1) := by decide +kernel
theorem dX7_rightMargin_23 : decode cX7_rightMargin 23 = .ok (.invokevirtual 72, 3) := by decide +kernel
theorem dX7_rightMargin_26 : decode cX7_rightMargin 26 = .ok (.if_icmp .gt 8, 3) := by decide +kernel
theorem dX7_rightMargin_29 : decode cX7_rightMargin 29 = .ok (.aload_n 0, 1) := by decide +kernel
theorem dX7_rightMargin_30 : decode cX7_rightMargin 30 = .ok (.iload_n 2, 1) := by decide +kernel
theorem dX7_rightMargin_31 : decode cX7_rightMargin 31 = .ok (.putfield 25, 3) := by decide +kernel
theorem dX7_rightMargin_34 : decode cX7_rightMargin 34 = .ok (.return_, 1) := by decide +kernel
noncomputable def f_X7_rightMargin (p0 : Nat) (p1 : Int32) (T : Mm) : Option (Unit × Mm) :=
  lb (((p1 + 1) * (gI T 709 p0))) fun v1 =>
  if p1 < 0 then (some ((), T))
  else (if v1 ≤ (gI T 702 p0) then (some ((), T))
  else (bd (f_X7_across p0 T) fun v2 T3 =>
  if v2 < v1 then (some ((), T3))
  else (lb (uI T3 703 p0 v1) fun T4 =>
  some ((), T4))))
set_option maxRecDepth 100000 in
set_option maxHeartbeats 4000000 in
theorem s_X7_rightMargin {ad : Nat → Nat} {U T : Mm} {q : Unit × Mm}  (p0 : Nat) (p1 : Int32) (hk0 : kS true p0 = 7) (h : f_X7_rightMargin p0 p1 T = some q) : Cr 3 yX7_rightMargin cX7_rightMargin 3 none [.ref (ad p0), .int p1] ad true U T eV q := by
  refine cr_of (by decide) (Nat.le_of_ble_eq_true rfl) fun x S0 hn9 C M => ?_
  have C : CB x RX7 cX7_rightMargin := C
  refine Jr.eq (lv' := [(0, .ref (ad p0)), (1, .int p1)]) (st' := []) rfl rfl ?_
  unfold f_X7_rightMargin at h
  refine r_iload_n C dX7_rightMargin_0 rfl 1 rfl ?_
  refine r_iconst (v := 1) C dX7_rightMargin_1 (by decide) ?_
  refine r_iadd C dX7_rightMargin_2 rfl ?_
  refine r_aload_n C dX7_rightMargin_3 rfl 0 rfl ?_
  refine r_geti (f := 709) C flX7_43 dX7_rightMargin_4 hk0 (by decide) (by decide) rfl ?_
  show Jr _ _ _ _ _ _ 7 _
  refine r_imul C dX7_rightMargin_7 rfl ?_
  refine r_lbI h (fun v1 h => ?_)
  refine r_istore_n (lv' := [(2, .int v1), (0, .ref (ad p0)), (1, .int p1)]) C dX7_rightMargin_8 rfl (by rw [hn9]; decide) rfl ?_
  refine r_iload_n C dX7_rightMargin_9 rfl 2 rfl ?_
  refine r_if_lt (tgt := 34) C dX7_rightMargin_10 (by decide) h (fun h => ?_) (fun h => ?_)
  · exact r_vret C M dX7_rightMargin_34 h
  · refine r_iload_n C dX7_rightMargin_13 rfl 0 rfl ?_
    refine r_aload_n C dX7_rightMargin_14 rfl 1 rfl ?_
    refine r_geti (f := 702) C flX7_22 dX7_rightMargin_15 hk0 (by decide) (by decide) rfl ?_
    refine r_ic_le (tgt := 34) C dX7_rightMargin_18 (by decide) h (fun h => ?_) (fun h => ?_)
    · exact r_vret C M dX7_rightMargin_34 h
    · refine r_iload_n C dX7_rightMargin_21 rfl 0 rfl ?_
      refine r_aload_n C dX7_rightMargin_22 rfl 1 rfl ?_
      refine r_callVI C M h [] [.int v1] mlX7_72 mcX7_across (fun q9 e9 => s_X7_across p0 hk0 e9) hk0 rfl (by decide) (by decide) rfl rfl (Nat.le_of_ble_eq_true rfl) dX7_rightMargin_23 (fun v2 T3 h => ?_)
      refine r_ic_gt (tgt := 34) C dX7_rightMargin_26 (by decide) h (fun h => ?_) (fun h => ?_)
      · exact r_vret C M dX7_rightMargin_34 h
      · refine r_aload_n C dX7_rightMargin_29 rfl 1 rfl ?_
        refine r_iload_n C dX7_rightMargin_30 rfl 0 rfl ?_
        refine r_puti (f := 703) C flX7_25 (by decide) rfl rfl dX7_rightMargin_31 hk0 rfl h (fun T4 h => ?_)
        exact r_vret C M dX7_rightMargin_34 h
theorem dX9_placeField_0 : decode cX9_placeField 0 = .ok (.aload_n 0, 1) := by decide +kernel
theorem dX9_placeField_1 : decode cX9_placeField 1 = .ok (.getfield 57, 3) := by decide +kernel
theorem dX9_placeField_4 : decode cX9_placeField 4 = .ok (.getfield 129, 3) := by decide +kernel
theorem dX9_placeField_7 : decode cX9_placeField 7 = .ok (.astore_n 2, 1) := by decide +kernel
theorem dX9_placeField_8 : decode cX9_placeField 8 = .ok (.aload_n 0, 1) := by decide +kernel
theorem dX9_placeField_9 : decode cX9_placeField 9 = .ok (.getfield 82, 3) := by decide +kernel
theorem dX9_placeField_12 : decode cX9_placeField 12 = .ok (.getfield 327, 3) := by decide +kernel
theorem dX9_placeField_15 : decode cX9_placeField 15 = .ok (.tableswitch 185 67 86 #[93, 185, 185, 185, 185, 133, 185, 185, 185, 169, 177, 185, 185, 185, 185, 111, 185, 185, 185, 149], 93) := by decide +kernel
theorem dX9_placeField_108 : decode cX9_placeField 108 = .ok (.aload_n 0, 1) := by decide +kernel
theorem dX9_placeField_109 : decode cX9_placeField 109 = .ok (.aload_n 0, 1) := by decide +kernel
theorem dX9_placeField_110 : decode cX9_placeField 110 = .ok (.getfield 82, 3) := by decide +kernel
theorem dX9_placeField_113 : decode cX9_placeField 113 = .ok (.aload_n 2, 1) := by decide +kernel
theorem dX9_placeField_114 : decode cX9_placeField 114 = .ok (.getfield 141, 3) := by decide +kernel
theorem dX9_placeField_117 : decode cX9_placeField 117 = .ok (.invokevirtual 431, 3) := by decide +kernel
theorem dX9_placeField_120 : decode cX9_placeField 120 = .ok (.invokevirtual 437, 3) := by decide +kernel
theorem dX9_placeField_123 : decode cX9_placeField 123 = .ok (.goto 77, 3) := by decide +kernel
theorem dX9_placeField_126 : decode cX9_placeField 126 = .ok (.aload_n 0, 1) := by decide +kernel
theorem dX9_placeField_127 : decode cX9_placeField 127 = .ok (.aload_n 0, 1) := by decide +kernel
theorem dX9_placeField_128 : decode cX9_placeField 128 = .ok (.getfield 82, 3) := by decide +kernel
theorem dX9_placeField_131 : decode cX9_placeField 131 = .ok (.aload_n 2, 1) := by decide +kernel
theorem dX9_placeField_132 : decode cX9_placeField 132 = .ok (.getfield 144, 3) := by decide +kernel
theorem dX9_placeField_135 : decode cX9_placeField 135 = .ok (.invokevirtual 431, 3) := by decide +kernel
theorem dX9_placeField_138 : decode cX9_placeField 138 = .ok (.aload_n 2, 1) := by decide +kernel
theorem dX9_placeField_139 : decode cX9_placeField 139 = .ok (.getfield 153, 3) := by decide +kernel
theorem dX9_placeField_142 : decode cX9_placeField 142 = .ok (.invokevirtual 440, 3) := by decide +kernel
theorem dX9_placeField_145 : decode cX9_placeField 145 = .ok (.goto 55, 3) := by decide +kernel
theorem dX9_placeField_148 : decode cX9_placeField 148 = .ok (.aload_n 0, 1) := by decide +kernel
theorem dX9_placeField_149 : decode cX9_placeField 149 = .ok (.aload_n 0, 1) := by decide +kernel
theorem dX9_placeField_150 : decode cX9_placeField 150 = .ok (.getfield 82, 3) := by decide +kernel
theorem dX9_placeField_153 : decode cX9_placeField 153 = .ok (.bipush 10, 2) := by decide +kernel
theorem dX9_placeField_155 : decode cX9_placeField 155 = .ok (.invokevirtual 431, 3) := by decide +kernel
theorem dX9_placeField_158 : decode cX9_placeField 158 = .ok (.invokevirtual 437, 3) := by decide +kernel
theorem dX9_placeField_161 : decode cX9_placeField 161 = .ok (.goto 39, 3) := by decide +kernel
theorem dX9_placeField_164 : decode cX9_placeField 164 = .ok (.aload_n 0, 1) := by decide +kernel
theorem dX9_placeField_165 : decode cX9_placeField 165 = .ok (.aload_n 0, 1) := by decide +kernel
theorem dX9_placeField_166 : decode cX9_placeField 166 = .ok (.getfield 82, 3) := by decide +kernel
theorem dX9_placeField_169 : decode cX9_placeField 169 = .ok (.bipush 10, 2) := by decide +kernel
theorem dX9_placeField_171 : decode cX9_placeField 171 = .ok (.invokevirtual 431, 3) := by decide +kernel
theorem dX9_placeField_174 : decode cX9_placeField 174 = .ok (.aload_n 2, 1) := by decide +kernel
theorem dX9_placeField_175 : decode cX9_placeField 175 = .ok (.getfield 153, 3) := by decide +kernel
theorem dX9_placeField_178 : decode cX9_placeField 178 = .ok (.invokevirtual 440, 3) := by decide +kernel
theorem dX9_placeField_181 : decode cX9_placeField 181 = .ok (.goto 19, 3) := by decide +kernel
theorem dX9_placeField_184 : decode cX9_placeField 184 = .ok (.aload_n 2, 1) := by decide +kernel
theorem dX9_placeField_185 : decode cX9_placeField 185 = .ok (.iload_n 1, 1) := by decide +kernel
theorem dX9_placeField_186 : decode cX9_placeField 186 = .ok (.invokevirtual 444, 3) := by decide +kernel
theorem dX9_placeField_189 : decode cX9_placeField 189 = .ok (.goto 11, 3) := by decide +kernel
theorem dX9_placeField_192 : decode cX9_placeField 192 = .ok (.aload_n 2, 1) := by decide +kernel
theorem dX9_placeField_193 : decode cX9_placeField 193 = .ok (.iload_n 1, 1) := by decide +kernel
theorem dX9_placeField_194 : decode cX9_placeField 194 = .ok (.invokevirtual 447, 3) := by decide +kernel
theorem dX9_placeField_197 : decode cX9_placeField 197 = .ok (.goto 3, 3) := by decide +kernel
theorem dX9_placeField_200 : decode cX9_placeField 200 = .ok (.return_, 1) := by decide +kernel
noncomputable def f_X9_placeField (p1 : Int32) (T : Mm) : Option (Unit × Mm) :=
  rf true (gR T 913 23) 5 fun j1 =>
  lb ((gI T 505 j1)) fun v3 =>
  if v3 = 67 then (rf true (gR T 913 23) 5 fun j5 =>
  bd (f_X5_units j5 (gI T 709 46) T) fun v7 T8 =>
  bd (f_X9_moveAcross v7 T8) fun _ T9 =>
  some ((), T9))
  else if v3 = 68 then (some ((), T))
  else if v3 = 69 then (some ((), T))
  else if v3 = 70 then (some ((), T))
  else if v3 = 71 then (some ((), T))
  else if v3 = 72 then (rf true (gR T 913 23) 5 fun j15 =>
  bd (f_X5_units j15 10 T) fun v17 T18 =>
  bd (f_X9_moveAcross v17 T18) fun _ T19 =>
  some ((), T19))
  else if v3 = 73 then (some ((), T))
  else if v3 = 74 then (some ((), T))
  else if v3 = 75 then (some ((), T))
  else if v3 = 76 then (bd (f_X7_leftMargin 46 p1 T) fun _ T24 =>
  some ((), T24))
  else if v3 = 77 then (bd (f_X7_rightMargin 46 p1 T) fun _ T26 =>
  some ((), T26))
  else if v3 = 78 then (some ((), T))
  else if v3 = 79 then (some ((), T))
  else if v3 = 80 then (some ((), T))
  else if v3 = 81 then (some ((), T))
  else if v3 = 82 then (rf true (gR T 913 23) 5 fun j32 =>
  bd (f_X5_units j32 (gI T 708 46) T) fun v34 T35 =>
  bd (f_X9_moveDown v34 (gI T35 704 46) T35) fun _ T36 =>
  some ((), T36))
  else if v3 = 83 then (some ((), T))
  else if v3 = 84 then (some ((), T))
  else if v3 = 85 then (some ((), T))
  else if v3 = 86 then (rf true (gR T 913 23) 5 fun j41 =>
  bd (f_X5_units j41 10 T) fun v43 T44 =>
  bd (f_X9_moveDown v43 (gI T44 704 46) T44) fun _ T45 =>
  some ((), T45))
  else (some ((), T))
set_option maxRecDepth 100000 in
set_option maxHeartbeats 4000000 in
theorem s_X9_placeField {ad : Nat → Nat} {U T : Mm} {q : Unit × Mm}  (p1 : Int32) (h : f_X9_placeField p1 T = some q) : Cr 4 yX9_placeField cX9_placeField 3 none [.ref (ad 23), .int p1] ad true U T eV q := by
  refine cr_of (by decide) (Nat.le_of_ble_eq_true rfl) fun x S0 hn9 C M => ?_
  have C : CB x RX9 cX9_placeField := C
  refine Jr.eq (lv' := [(0, .ref (ad 23)), (1, .int p1)]) (st' := []) rfl rfl ?_
  unfold f_X9_placeField at h
  refine r_aload_n C dX9_placeField_0 rfl 0 rfl ?_
  refine r_getp (f := 909) (j := 45) C flX9_57 dX9_placeField_1 kq_23 (by decide) rfl (fun W => pt_909 kq_23 W) ?_
  refine r_getp (f := 100) (j := 46) C flX9_129 dX9_placeField_4 kq_45 (by decide) rfl (fun W => pt_100 kq_45 W) ?_
  refine r_astore_n (lv' := [(2, .ref (ad 46)), (0, .ref (ad 23)), (1, .int p1)]) C dX9_placeField_7 rfl (by rw [hn9]; decide) rfl ?_
  refine r_aload_n C dX9_placeField_8 rfl 1 rfl ?_
  show Jr _ _ _ _ _ _ 9 _
  refine r_getr (f := 913) (c := 5) C flX9_82 dX9_placeField_9 kq_23 (by decide) rfl h (fun j1 hj2 h => ?_)
  refine r_geti (f := 505) C flX9_327 dX9_placeField_12 hj2 (by decide) (by decide) rfl ?_
  refine r_lbI h (fun v3 h => ?_)
  by_cases hs4 : v3 = 67
  · rw [if_pos hs4] at h
    refine r_top hs4 ?_
    refine r_tabIn (off := 93) (tgt := 108) C dX9_placeField_15 (by decide) (by decide) (by decide) (by decide) ?_
    refine r_aload_n C dX9_placeField_108 rfl 1 rfl ?_
    refine r_aload_n C dX9_placeField_109 rfl 1 rfl ?_
    refine r_getr (f := 913) (c := 5) C flX9_82 dX9_placeField_110 kq_23 (by decide) rfl h (fun j5 hj6 h => ?_)
    refine r_aload_n C dX9_placeField_113 rfl 0 rfl ?_
    refine r_geti (f := 709) C flX9_141 dX9_placeField_114 kq_46 (by decide) (by decide) rfl ?_
    show Jr _ _ _ _ _ _ 117 _
    refine r_callVJ C M h [.int (gI T 709 46)] [.ref (ad 23)] mlX9_431 mcX5_units (fun q9 e9 => s_X5_units j5 (gI T 709 46) hj6 e9) hj6 rfl (by decide) (by decide) rfl rfl (Nat.le_of_ble_eq_true rfl) dX9_placeField_117 (fun v7 T8 h => ?_)
    refine r_callVN C M h [.long v7] [] mlX9_437 mcX9_moveAcross (fun q9 e9 => s_X9_moveAcross v7  e9) kq_23 rfl (by decide) (by decide) rfl rfl (Nat.le_of_ble_eq_true rfl) dX9_placeField_120 (fun _ T9 h => ?_)
    refine r_goto (tgt := 200) C dX9_placeField_123 (by decide) ?_
    exact r_vret C M dX9_placeField_200 h
  rw [if_neg hs4] at h
  by_cases hs10 : v3 = 68
  · rw [if_pos hs10] at h
    refine r_top hs10 ?_
    refine r_tabIn (off := 185) (tgt := 200) C dX9_placeField_15 (by decide) (by decide) (by decide) (by decide) ?_
    exact r_vret C M dX9_placeField_200 h
  rw [if_neg hs10] at h
  by_cases hs11 : v3 = 69
  · rw [if_pos hs11] at h
    refine r_top hs11 ?_
    refine r_tabIn (off := 185) (tgt := 200) C dX9_placeField_15 (by decide) (by decide) (by decide) (by decide) ?_
    exact r_vret C M dX9_placeField_200 h
  rw [if_neg hs11] at h
  by_cases hs12 : v3 = 70
  · rw [if_pos hs12] at h
    refine r_top hs12 ?_
    refine r_tabIn (off := 185) (tgt := 200) C dX9_placeField_15 (by decide) (by decide) (by decide) (by decide) ?_
    exact r_vret C M dX9_placeField_200 h
  rw [if_neg hs12] at h
  by_cases hs13 : v3 = 71
  · rw [if_pos hs13] at h
    refine r_top hs13 ?_
    refine r_tabIn (off := 185) (tgt := 200) C dX9_placeField_15 (by decide) (by decide) (by decide) (by decide) ?_
    exact r_vret C M dX9_placeField_200 h
  rw [if_neg hs13] at h
  by_cases hs14 : v3 = 72
  · rw [if_pos hs14] at h
    refine r_top hs14 ?_
    refine r_tabIn (off := 133) (tgt := 148) C dX9_placeField_15 (by decide) (by decide) (by decide) (by decide) ?_
    refine r_aload_n C dX9_placeField_148 rfl 1 rfl ?_
    refine r_aload_n C dX9_placeField_149 rfl 1 rfl ?_
    refine r_getr (f := 913) (c := 5) C flX9_82 dX9_placeField_150 kq_23 (by decide) rfl h (fun j15 hj16 h => ?_)
    refine r_bipush (v := 10) C dX9_placeField_153 (by decide) ?_
    refine r_callVJ C M h [.int 10] [.ref (ad 23)] mlX9_431 mcX5_units (fun q9 e9 => s_X5_units j15 10 hj16 e9) hj16 rfl (by decide) (by decide) rfl rfl (Nat.le_of_ble_eq_true rfl) dX9_placeField_155 (fun v17 T18 h => ?_)
    show Jr _ _ _ _ _ _ 158 _
    refine r_callVN C M h [.long v17] [] mlX9_437 mcX9_moveAcross (fun q9 e9 => s_X9_moveAcross v17  e9) kq_23 rfl (by decide) (by decide) rfl rfl (Nat.le_of_ble_eq_true rfl) dX9_placeField_158 (fun _ T19 h => ?_)
    refine r_goto (tgt := 200) C dX9_placeField_161 (by decide) ?_
    exact r_vret C M dX9_placeField_200 h
  rw [if_neg hs14] at h
  by_cases hs20 : v3 = 73
  · rw [if_pos hs20] at h
    refine r_top hs20 ?_
    refine r_tabIn (off := 185) (tgt := 200) C dX9_placeField_15 (by decide) (by decide) (by decide) (by decide) ?_
    exact r_vret C M dX9_placeField_200 h
  rw [if_neg hs20] at h
  by_cases hs21 : v3 = 74
  · rw [if_pos hs21] at h
    refine r_top hs21 ?_
    refine r_tabIn (off := 185) (tgt := 200) C dX9_placeField_15 (by decide) (by decide) (by decide) (by decide) ?_
    exact r_vret C M dX9_placeField_200 h
  rw [if_neg hs21] at h
  by_cases hs22 : v3 = 75
  · rw [if_pos hs22] at h
    refine r_top hs22 ?_
    refine r_tabIn (off := 185) (tgt := 200) C dX9_placeField_15 (by decide) (by decide) (by decide) (by decide) ?_
    exact r_vret C M dX9_placeField_200 h
  rw [if_neg hs22] at h
  by_cases hs23 : v3 = 76
  · rw [if_pos hs23] at h
    refine r_top hs23 ?_
    refine r_tabIn (off := 169) (tgt := 184) C dX9_placeField_15 (by decide) (by decide) (by decide) (by decide) ?_
    refine r_aload_n C dX9_placeField_184 rfl 0 rfl ?_
    refine r_iload_n C dX9_placeField_185 rfl 2 rfl ?_
    refine r_callVN C M h [.int p1] [] mlX9_444 mcX7_leftMargin (fun q9 e9 => s_X7_leftMargin 46 p1 kq_46 e9) kq_46 rfl (by decide) (by decide) rfl rfl (Nat.le_of_ble_eq_true rfl) dX9_placeField_186 (fun _ T24 h => ?_)
    refine r_goto (tgt := 200) C dX9_placeField_189 (by decide) ?_
    exact r_vret C M dX9_placeField_200 h
  rw [if_neg hs23] at h
  by_cases hs25 : v3 = 77
  · rw [if_pos hs25] at h
    refine r_top hs25 ?_
    refine r_tabIn (off := 177) (tgt := 192) C dX9_placeField_15 (by decide) (by decide) (by decide) (by decide) ?_
    refine r_aload_n C dX9_placeField_192 rfl 0 rfl ?_
    refine r_iload_n C dX9_placeField_193 rfl 2 rfl ?_
    refine r_callVN C M h [.int p1] [] mlX9_447 mcX7_rightMargin (fun q9 e9 => s_X7_rightMargin 46 p1 kq_46 e9) kq_46 rfl (by decide) (by decide) rfl rfl (Nat.le_of_ble_eq_true rfl) dX9_placeField_194 (fun _ T26 h => ?_)
    refine r_goto (tgt := 200) C dX9_placeField_197 (by decide) ?_
    exact r_vret C M dX9_placeField_200 h
  rw [if_neg hs25] at h
  by_cases hs27 : v3 = 78
  · rw [if_pos hs27] at h
    refine r_top hs27 ?_
    refine r_tabIn (off := 185) (tgt := 200) C dX9_placeField_15 (by decide) (by decide) (by decide) (by decide) ?_
    exact r_vret C M dX9_placeField_200 h
  rw [if_neg hs27] at h
  by_cases hs28 : v3 = 79
  · rw [if_pos hs28] at h
    refine r_top hs28 ?_
    refine r_tabIn (off := 185) (tgt := 200) C dX9_placeField_15 (by decide) (by decide) (by decide) (by decide) ?_
    exact r_vret C M dX9_placeField_200 h
  rw [if_neg hs28] at h
  by_cases hs29 : v3 = 80
  · rw [if_pos hs29] at h
    refine r_top hs29 ?_
    refine r_tabIn (off := 185) (tgt := 200) C dX9_placeField_15 (by decide) (by decide) (by decide) (by decide) ?_
    exact r_vret C M dX9_placeField_200 h
  rw [if_neg hs29] at h
  by_cases hs30 : v3 = 81
  · rw [if_pos hs30] at h
    refine r_top hs30 ?_
    refine r_tabIn (off := 185) (tgt := 200) C dX9_placeField_15 (by decide) (by decide) (by decide) (by decide) ?_
    exact r_vret C M dX9_placeField_200 h
  rw [if_neg hs30] at h
  by_cases hs31 : v3 = 82
  · rw [if_pos hs31] at h
    refine r_top hs31 ?_
    refine r_tabIn (off := 111) (tgt := 126) C dX9_placeField_15 (by decide) (by decide) (by decide) (by decide) ?_
    refine r_aload_n C dX9_placeField_126 rfl 1 rfl ?_
    refine r_aload_n C dX9_placeField_127 rfl 1 rfl ?_
    refine r_getr (f := 913) (c := 5) C flX9_82 dX9_placeField_128 kq_23 (by decide) rfl h (fun j32 hj33 h => ?_)
    refine r_aload_n C dX9_placeField_131 rfl 0 rfl ?_
    refine r_geti (f := 708) C flX9_144 dX9_placeField_132 kq_46 (by decide) (by decide) rfl ?_
    show Jr _ _ _ _ _ _ 135 _
    refine r_callVJ C M h [.int (gI T 708 46)] [.ref (ad 23)] mlX9_431 mcX5_units (fun q9 e9 => s_X5_units j32 (gI T 708 46) hj33 e9) hj33 rfl (by decide) (by decide) rfl rfl (Nat.le_of_ble_eq_true rfl) dX9_placeField_135 (fun v34 T35 h => ?_)
    refine r_aload_n C dX9_placeField_138 rfl 0 rfl ?_
    refine r_geti (f := 704) C flX9_153 dX9_placeField_139 kq_46 (by decide) (by decide) rfl ?_
    refine r_callVN C M h [.long v34, .int (gI T35 704 46)] [] mlX9_440 mcX9_moveDown (fun q9 e9 => s_X9_moveDown v34 (gI T35 704 46)  e9) kq_23 rfl (by decide) (by decide) rfl rfl (Nat.le_of_ble_eq_true rfl) dX9_placeField_142 (fun _ T36 h => ?_)
    refine r_goto (tgt := 200) C dX9_placeField_145 (by decide) ?_
    exact r_vret C M dX9_placeField_200 h
  rw [if_neg hs31] at h
  by_cases hs37 : v3 = 83
  · rw [if_pos hs37] at h
    refine r_top hs37 ?_
    refine r_tabIn (off := 185) (tgt := 200) C dX9_placeField_15 (by decide) (by decide) (by decide) (by decide) ?_
    exact r_vret C M dX9_placeField_200 h
  rw [if_neg hs37] at h
  by_cases hs38 : v3 = 84
  · rw [if_pos hs38] at h
    refine r_top hs38 ?_
    refine r_tabIn (off := 185) (tgt := 200) C dX9_placeField_15 (by decide) (by decide) (by decide) (by decide) ?_
    exact r_vret C M dX9_placeField_200 h
  rw [if_neg hs38] at h
  by_cases hs39 : v3 = 85
  · rw [if_pos hs39] at h
    refine r_top hs39 ?_
    refine r_tabIn (off := 185) (tgt := 200) C dX9_placeField_15 (by decide) (by decide) (by decide) (by decide) ?_
    exact r_vret C M dX9_placeField_200 h
  rw [if_neg hs39] at h
  by_cases hs40 : v3 = 86
  · rw [if_pos hs40] at h
    refine r_top hs40 ?_
    refine r_tabIn (off := 149) (tgt := 164) C dX9_placeField_15 (by decide) (by decide) (by decide) (by decide) ?_
    refine r_aload_n C dX9_placeField_164 rfl 1 rfl ?_
    refine r_aload_n C dX9_placeField_165 rfl 1 rfl ?_
    refine r_getr (f := 913) (c := 5) C flX9_82 dX9_placeField_166 kq_23 (by decide) rfl h (fun j41 hj42 h => ?_)
    refine r_bipush (v := 10) C dX9_placeField_169 (by decide) ?_
    refine r_callVJ C M h [.int 10] [.ref (ad 23)] mlX9_431 mcX5_units (fun q9 e9 => s_X5_units j41 10 hj42 e9) hj42 rfl (by decide) (by decide) rfl rfl (Nat.le_of_ble_eq_true rfl) dX9_placeField_171 (fun v43 T44 h => ?_)
    show Jr _ _ _ _ _ _ 174 _
    refine r_aload_n C dX9_placeField_174 rfl 0 rfl ?_
    refine r_geti (f := 704) C flX9_153 dX9_placeField_175 kq_46 (by decide) (by decide) rfl ?_
    refine r_callVN C M h [.long v43, .int (gI T44 704 46)] [] mlX9_440 mcX9_moveDown (fun q9 e9 => s_X9_moveDown v43 (gI T44 704 46)  e9) kq_23 rfl (by decide) (by decide) rfl rfl (Nat.le_of_ble_eq_true rfl) dX9_placeField_178 (fun _ T45 h => ?_)
    refine r_goto (tgt := 200) C dX9_placeField_181 (by decide) ?_
    exact r_vret C M dX9_placeField_200 h
  rw [if_neg hs40] at h
  refine r_tabOut (tgt := 200) C dX9_placeField_15 (by have t09 : (v3).toInt ≠ 67 := ne_toInt hs4 (by decide); have t19 : (v3).toInt ≠ 68 := ne_toInt hs10 (by decide); have t29 : (v3).toInt ≠ 69 := ne_toInt hs11 (by decide); have t39 : (v3).toInt ≠ 70 := ne_toInt hs12 (by decide); have t49 : (v3).toInt ≠ 71 := ne_toInt hs13 (by decide); have t59 : (v3).toInt ≠ 72 := ne_toInt hs14 (by decide); have t69 : (v3).toInt ≠ 73 := ne_toInt hs20 (by decide); have t79 : (v3).toInt ≠ 74 := ne_toInt hs21 (by decide); have t89 : (v3).toInt ≠ 75 := ne_toInt hs22 (by decide); have t99 : (v3).toInt ≠ 76 := ne_toInt hs23 (by decide); have t109 : (v3).toInt ≠ 77 := ne_toInt hs25 (by decide); have t119 : (v3).toInt ≠ 78 := ne_toInt hs27 (by decide); have t129 : (v3).toInt ≠ 79 := ne_toInt hs28 (by decide); have t139 : (v3).toInt ≠ 80 := ne_toInt hs29 (by decide); have t149 : (v3).toInt ≠ 81 := ne_toInt hs30 (by decide); have t159 : (v3).toInt ≠ 82 := ne_toInt hs31 (by decide); have t169 : (v3).toInt ≠ 83 := ne_toInt hs37 (by decide); have t179 : (v3).toInt ≠ 84 := ne_toInt hs38 (by decide); have t189 : (v3).toInt ≠ 85 := ne_toInt hs39 (by decide); have t199 : (v3).toInt ≠ 86 := ne_toInt hs40 (by decide); omega) (by decide) ?_
  exact r_vret C M dX9_placeField_200 h
theorem dX9_spaceField_0 : decode cX9_spaceField 0 = .ok (.aload_n 0, 1) := by decide +kernel
theorem dX9_spaceField_1 : decode cX9_spaceField 1 = .ok (.getfield 82, 3) := by decide +kernel
theorem dX9_spaceField_4 : decode cX9_spaceField 4 = .ok (.getfield 327, 3) := by decide +kernel
theorem dX9_spaceField_7 : decode cX9_spaceField 7 = .ok (.bipush 72, 2) := by decide +kernel
theorem dX9_spaceField_9 : decode cX9_spaceField 9 = .ok (.if_icmp .ne 32, 3) := by decide +kernel
theorem dX9_spaceField_12 : decode cX9_spaceField 12 = .ok (.aload_n 0, 1) := by decide +kernel
theorem dX9_spaceField_13 : decode cX9_spaceField 13 = .ok (.getfield 57, 3) := by decide +kernel
theorem dX9_spaceField_16 : decode cX9_spaceField 16 = .ok (.getfield 129, 3) := by decide +kernel
theorem dX9_spaceField_19 : decode cX9_spaceField 19 = .ok (.aload_n 0, 1) := by decide +kernel
theorem dX9_spaceField_20 : decode cX9_spaceField 20 = .ok (.bipush 60, 2) := by decide +kernel
theorem dX9_spaceField_22 : decode cX9_spaceField 22 = .ok (.aload_n 0, 1) := by decide +kernel
theorem dX9_spaceField_23 : decode cX9_spaceField 23 = .ok (.getfield 57, 3) := by decide +kernel
theorem dX9_spaceField_26 : decode cX9_spaceField 26 = .ok (.getfield 129, 3) := by decide +kernel
theorem dX9_spaceField_29 : decode cX9_spaceField 29 = .ok (.getfield 141, 3) := by decide +kernel
theorem dX9_spaceField_32 : decode cX9_spaceField 32 = .ok (.invokevirtual 422, 3) := by decide +kernel
theorem dX9_spaceField_35 : decode cX9_spaceField 35 = .ok (.putfield 141, 3) := by decide +kernel
theorem dX9_spaceField_38 : decode cX9_spaceField 38 = .ok (.goto 32, 3) := by decide +kernel
theorem dX9_spaceField_41 : decode cX9_spaceField 41 = .ok (.aload_n 0, 1) := by decide +kernel
theorem dX9_spaceField_42 : decode cX9_spaceField 42 = .ok (.getfield 82, 3) := by decide +kernel
theorem dX9_spaceField_45 : decode cX9_spaceField 45 = .ok (.getfield 327, 3) := by decide +kernel
theorem dX9_spaceField_48 : decode cX9_spaceField 48 = .ok (.bipush 71, 2) := by decide +kernel
theorem dX9_spaceField_50 : decode cX9_spaceField 50 = .ok (.if_icmp .ne 20, 3) := by decide +kernel
theorem dX9_spaceField_53 : decode cX9_spaceField 53 = .ok (.iload_n 1, 1) := by decide +kernel
theorem dX9_spaceField_54 : decode cX9_spaceField 54 = .ok (.ifCond .lt 16, 3) := by decide +kernel
theorem dX9_spaceField_57 : decode cX9_spaceField 57 = .ok (.iload_n 1, 1) := by decide +kernel
theorem dX9_spaceField_58 : decode cX9_spaceField 58 = .ok (.iconst 3, 1) := by decide +kernel
theorem dX9_spaceField_59 : decode cX9_spaceField 59 = .ok (.if_icmp .gt 11, 3) := by decide +kernel
theorem dX9_spaceField_62 : decode cX9_spaceField 62 = .ok (.aload_n 0, 1) := by decide +kernel
theorem dX9_spaceField_63 : decode cX9_spaceField 63 = .ok (.getfield 57, 3) := by decide +kernel
theorem dX9_spaceField_66 : decode cX9_spaceField 66 = .ok (.iload_n 1, 1) := by decide +kernel
theorem dX9_spaceField_67 : decode cX9_spaceField 67 = .ok (.putfield 265, 3) := by decide +kernel
theorem dX9_spaceField_70 : decode cX9_spaceField 70 = .ok (.return_, 1) := by decide +kernel
noncomputable def f_X9_spaceField (p1 : Int32) (T : Mm) : Option (Unit × Mm) :=
  rf true (gR T 913 23) 5 fun j1 =>
  if (gI T 505 j1) = 72 then (bd (f_X9_spacing 60 (gI T 709 46) T) fun v6 T7 =>
  lb (uI T7 709 46 v6) fun T8 =>
  some ((), T8))
  else (rf true (gR T 913 23) 5 fun j3 =>
  if (gI T 505 j3) = 71 then (if p1 < 0 then (some ((), T))
  else (if 3 < p1 then (some ((), T))
  else (lb (uI T 108 45 p1) fun T5 =>
  some ((), T5))))
  else (some ((), T)))
set_option maxRecDepth 100000 in
set_option maxHeartbeats 4000000 in
theorem s_X9_spaceField {ad : Nat → Nat} {U T : Mm} {q : Unit × Mm}  (p1 : Int32) (h : f_X9_spaceField p1 T = some q) : Cr 4 yX9_spaceField cX9_spaceField 2 none [.ref (ad 23), .int p1] ad true U T eV q := by
  refine cr_of (by decide) (Nat.le_of_ble_eq_true rfl) fun x S0 hn9 C M => ?_
  have C : CB x RX9 cX9_spaceField := C
  refine Jr.eq (lv' := [(0, .ref (ad 23)), (1, .int p1)]) (st' := []) rfl rfl ?_
  unfold f_X9_spaceField at h
  refine r_aload_n C dX9_spaceField_0 rfl 0 rfl ?_
  refine r_getr (f := 913) (c := 5) C flX9_82 dX9_spaceField_1 kq_23 (by decide) rfl h (fun j1 hj2 h => ?_)
  refine r_geti (f := 505) C flX9_327 dX9_spaceField_4 hj2 (by decide) (by decide) rfl ?_
  refine r_bipush (v := 72) C dX9_spaceField_7 (by decide) ?_
  refine r_ic_ne (tgt := 41) C dX9_spaceField_9 (by decide) h (fun h => ?_) (fun h => ?_)
  · refine r_aload_n C dX9_spaceField_41 rfl 0 rfl ?_
    refine r_getr (f := 913) (c := 5) C flX9_82 dX9_spaceField_42 kq_23 (by decide) rfl h (fun j3 hj4 h => ?_)
    refine r_geti (f := 505) C flX9_327 dX9_spaceField_45 hj4 (by decide) (by decide) rfl ?_
    refine r_bipush (v := 71) C dX9_spaceField_48 (by decide) ?_
    refine r_ic_ne (tgt := 70) C dX9_spaceField_50 (by decide) h (fun h => ?_) (fun h => ?_)
    · exact r_vret C M dX9_spaceField_70 h
    · refine r_iload_n C dX9_spaceField_53 rfl 1 rfl ?_
      refine r_if_lt (tgt := 70) C dX9_spaceField_54 (by decide) h (fun h => ?_) (fun h => ?_)
      · exact r_vret C M dX9_spaceField_70 h
      · refine r_iload_n C dX9_spaceField_57 rfl 1 rfl ?_
        refine r_iconst (v := 3) C dX9_spaceField_58 (by decide) ?_
        refine r_ic_gt (tgt := 70) C dX9_spaceField_59 (by decide) h (fun h => ?_) (fun h => ?_)
        · exact r_vret C M dX9_spaceField_70 h
        · refine r_aload_n C dX9_spaceField_62 rfl 0 rfl ?_
          refine r_getp (f := 909) (j := 45) C flX9_57 dX9_spaceField_63 kq_23 (by decide) rfl (fun W => pt_909 kq_23 W) ?_
          refine r_iload_n C dX9_spaceField_66 rfl 1 rfl ?_
          refine r_puti (f := 108) C flX9_265 (by decide) rfl rfl dX9_spaceField_67 kq_45 rfl h (fun T5 h => ?_)
          exact r_vret C M dX9_spaceField_70 h
  · refine r_aload_n C dX9_spaceField_12 rfl 0 rfl ?_
    refine r_getp (f := 909) (j := 45) C flX9_57 dX9_spaceField_13 kq_23 (by decide) rfl (fun W => pt_909 kq_23 W) ?_
    refine r_getp (f := 100) (j := 46) C flX9_129 dX9_spaceField_16 kq_45 (by decide) rfl (fun W => pt_100 kq_45 W) ?_
    refine r_aload_n C dX9_spaceField_19 rfl 0 rfl ?_
    refine r_bipush (v := 60) C dX9_spaceField_20 (by decide) ?_
    show Jr _ _ _ _ _ _ 22 _
    refine r_aload_n C dX9_spaceField_22 rfl 0 rfl ?_
    refine r_getp (f := 909) (j := 45) C flX9_57 dX9_spaceField_23 kq_23 (by decide) rfl (fun W => pt_909 kq_23 W) ?_
    refine r_getp (f := 100) (j := 46) C flX9_129 dX9_spaceField_26 kq_45 (by decide) rfl (fun W => pt_100 kq_45 W) ?_
    refine r_geti (f := 709) C flX9_141 dX9_spaceField_29 kq_46 (by decide) (by decide) rfl ?_
    refine r_callVI C M h [.int 60, .int (gI T 709 46)] [.ref (ad 46)] mlX9_422 mcX9_spacing (fun q9 e9 => s_X9_spacing 60 (gI T 709 46)  e9) kq_23 rfl (by decide) (by decide) rfl rfl (Nat.le_of_ble_eq_true rfl) dX9_spaceField_32 (fun v6 T7 h => ?_)
    refine r_puti (f := 709) C flX9_141 (by decide) rfl rfl dX9_spaceField_35 kq_46 rfl h (fun T8 h => ?_)
    show Jr _ _ _ _ _ _ 38 _
    refine r_goto (tgt := 70) C dX9_spaceField_38 (by decide) ?_
    exact r_vret C M dX9_spaceField_70 h
theorem dX9_wrapField_0 : decode cX9_wrapField 0 = .ok (.aload_n 0, 1) := by decide +kernel
theorem dX9_wrapField_1 : decode cX9_wrapField 1 = .ok (.getfield 82, 3) := by decide +kernel
theorem dX9_wrapField_4 : decode cX9_wrapField 4 = .ok (.getfield 327, 3) := by decide +kernel
theorem dX9_wrapField_7 : decode cX9_wrapField 7 = .ok (.bipush 67, 2) := by decide +kernel
theorem dX9_wrapField_9 : decode cX9_wrapField 9 = .ok (.if_icmp .ne 28, 3) := by decide +kernel
theorem dX9_wrapField_12 : decode cX9_wrapField 12 = .ok (.iload_n 1, 1) := by decide +kernel
theorem dX9_wrapField_13 : decode cX9_wrapField 13 = .ok (.ifCond .eq 8, 3) := by decide +kernel
theorem dX9_wrapField_16 : decode cX9_wrapField 16 = .ok (.iload_n 1, 1) := by decide +kernel
theorem dX9_wrapField_17 : decode cX9_wrapField 17 = .ok (.iconst 1, 1) := by decide +kernel
theorem dX9_wrapField_18 : decode cX9_wrapField 18 = .ok (.if_icmp .ne 19, 3) := by decide +kernel
theorem dX9_wrapField_21 : decode cX9_wrapField 21 = .ok (.aload_n 0, 1) := by decide +kernel
theorem dX9_wrapField_22 : decode cX9_wrapField 22 = .ok (.getfield 57, 3) := by decide +kernel
theorem dX9_wrapField_25 : decode cX9_wrapField 25 = .ok (.iload_n 1, 1) := by decide +kernel
theorem dX9_wrapField_26 : decode cX9_wrapField 26 = .ok (.ifCond .ne 7, 3) := by decide +kernel
theorem dX9_wrapField_29 : decode cX9_wrapField 29 = .ok (.iconst 1, 1) := by decide +kernel
theorem dX9_wrapField_30 : decode cX9_wrapField 30 = .ok (.goto 4, 3) := by decide +kernel
theorem dX9_wrapField_33 : decode cX9_wrapField 33 = .ok (.iconst 0, 1) := by decide +kernel
theorem dX9_wrapField_34 : decode cX9_wrapField 34 = .ok (.putfield 459, 3) := by decide +kernel
theorem dX9_wrapField_37 : decode cX9_wrapField 37 = .ok (.return_, 1) := by decide +kernel
noncomputable def f_X9_wrapField_21 (a1 : Int32) (T : Mm) : Option (Unit × Mm) :=
  if a1 = 0 then (lb (uI T 109 45 1) fun T2 =>
  some ((), T2))
  else (lb (uI T 109 45 0) fun T1 =>
  some ((), T1))
set_option maxRecDepth 100000 in
set_option maxHeartbeats 4000000 in
theorem s_X9_wrapField_21 {x : JX} {ad : Nat → Nat} {U : Mm} {S0 : Hp} {q : Unit × Mm}  (hn9 : x_n x = 2) (C : CB x RX9 cX9_wrapField) (M : CMr x 1 none S0 ad true U eV q) (a1 : Int32) (T : Mm) (h : f_X9_wrapField_21  a1 T = some q) : Jr x ad true U T [(0, .ref (ad 23)), (1, .int a1)] 21 [] := by
  unfold f_X9_wrapField_21 at h
  refine r_aload_n C dX9_wrapField_21 rfl 0 rfl ?_
  refine r_getp (f := 909) (j := 45) C flX9_57 dX9_wrapField_22 kq_23 (by decide) rfl (fun W => pt_909 kq_23 W) ?_
  refine r_iload_n C dX9_wrapField_25 rfl 1 rfl ?_
  refine r_if_ne (tgt := 33) C dX9_wrapField_26 (by decide) h (fun h => ?_) (fun h => ?_)
  · refine r_iconst (v := 0) C dX9_wrapField_33 (by decide) ?_
    refine r_putz (f := 109) C flX9_459 (by decide) rfl rfl (by decide) dX9_wrapField_34 kq_45 rfl h (fun T1 h => ?_)
    exact r_vret C M dX9_wrapField_37 h
  · refine r_iconst (v := 1) C dX9_wrapField_29 (by decide) ?_
    refine r_goto (tgt := 34) C dX9_wrapField_30 (by decide) ?_
    refine r_putz (f := 109) C flX9_459 (by decide) rfl rfl (by decide) dX9_wrapField_34 kq_45 rfl h (fun T2 h => ?_)
    exact r_vret C M dX9_wrapField_37 h
noncomputable def f_X9_wrapField (p1 : Int32) (T : Mm) : Option (Unit × Mm) :=
  rf true (gR T 913 23) 5 fun j1 =>
  if (gI T 505 j1) = 67 then (if p1 = 0 then (f_X9_wrapField_21 p1 T)
  else (if p1 = 1 then (f_X9_wrapField_21 p1 T)
  else (some ((), T))))
  else (some ((), T))
set_option maxRecDepth 100000 in
set_option maxHeartbeats 4000000 in
theorem s_X9_wrapField {ad : Nat → Nat} {U T : Mm} {q : Unit × Mm}  (p1 : Int32) (h : f_X9_wrapField p1 T = some q) : Cr 1 yX9_wrapField cX9_wrapField 2 none [.ref (ad 23), .int p1] ad true U T eV q := by
  refine cr_of (by decide) (Nat.le_of_ble_eq_true rfl) fun x S0 hn9 C M => ?_
  have C : CB x RX9 cX9_wrapField := C
  refine Jr.eq (lv' := [(0, .ref (ad 23)), (1, .int p1)]) (st' := []) rfl rfl ?_
  unfold f_X9_wrapField at h
  refine r_aload_n C dX9_wrapField_0 rfl 0 rfl ?_
  refine r_getr (f := 913) (c := 5) C flX9_82 dX9_wrapField_1 kq_23 (by decide) rfl h (fun j1 hj2 h => ?_)
  refine r_geti (f := 505) C flX9_327 dX9_wrapField_4 hj2 (by decide) (by decide) rfl ?_
  refine r_bipush (v := 67) C dX9_wrapField_7 (by decide) ?_
  refine r_ic_ne (tgt := 37) C dX9_wrapField_9 (by decide) h (fun h => ?_) (fun h => ?_)
  · exact r_vret C M dX9_wrapField_37 h
  · refine r_iload_n C dX9_wrapField_12 rfl 1 rfl ?_
    refine r_if_eq (tgt := 21) C dX9_wrapField_13 (by decide) h (fun h => ?_) (fun h => ?_)
    · exact s_X9_wrapField_21 hn9 C M  p1 T h
    · refine r_iload_n C dX9_wrapField_16 rfl 1 rfl ?_
      refine r_iconst (v := 1) C dX9_wrapField_17 (by decide) ?_
      refine r_ic_ne (tgt := 37) C dX9_wrapField_18 (by decide) h (fun h => ?_) (fun h => ?_)
      · exact r_vret C M dX9_wrapField_37 h
      · exact s_X9_wrapField_21 hn9 C M  p1 T h
theorem dX7_keepPlace_0 : decode cX7_keepPlace 0 = .ok (.iconst 2, 1) := by decide +kernel
theorem dX7_keepPlace_1 : decode cX7_keepPlace 1 = .ok (.aload_n 0, 1) := by decide +kernel
theorem dX7_keepPlace_2 : decode cX7_keepPlace 2 = .ok (.getfield 49, 3) := by decide +kernel
theorem dX7_keepPlace_5 : decode cX7_keepPlace 5 = .ok (.imul, 1) := by decide +kernel
theorem dX7_keepPlace_6 : decode cX7_keepPlace 6 = .ok (.istore_n 1, 1) := by decide +kernel
theorem dX7_keepPlace_7 : decode cX7_keepPlace 7 = .ok (.aload_n 0, 1) := by decide +kernel
theorem dX7_keepPlace_8 : decode cX7_keepPlace 8 = .ok (.getfield 49, 3) := by decide +kernel
theorem dX7_keepPlace_11 : decode cX7_keepPlace 11 = .ok (.bipush 20, 2) := by decide +kernel
theorem dX7_keepPlace_13 : decode cX7_keepPlace 13 = .ok (.if_icmp .ge 50, 3) := by decide +kernel
theorem dX7_keepPlace_16 : decode cX7_keepPlace 16 = .ok (.iload_n 1, 1) := by decide +kernel
theorem dX7_keepPlace_17 : decode cX7_keepPlace 17 = .ok (.ifCond .lt 46, 3) := by decide +kernel
theorem dX7_keepPlace_20 : decode cX7_keepPlace 20 = .ok (.iload_n 1, 1) := by decide +kernel
theorem dX7_keepPlace_21 : decode cX7_keepPlace 21 = .ok (.iconst 1, 1) := by decide +kernel
theorem dX7_keepPlace_22 : decode cX7_keepPlace 22 = .ok (.iadd, 1) := by decide +kernel
theorem dX7_keepPlace_23 : decode cX7_keepPlace 23 = .ok (.aload_n 0, 1) := by decide +kernel
theorem dX7_keepPlace_24 : decode cX7_keepPlace 24 = .ok (.getfield 11, 3) := by decide +kernel
theorem dX7_keepPlace_27 : decode cX7_keepPlace 27 = .ok (.arraylength, 1) := by decide +kernel
theorem dX7_keepPlace_28 : decode cX7_keepPlace 28 = .ok (.if_icmp .ge 35, 3) := by decide +kernel
theorem dX7_keepPlace_31 : decode cX7_keepPlace 31 = .ok (.aload_n 0, 1) := by decide +kernel
theorem dX7_keepPlace_32 : decode cX7_keepPlace 32 = .ok (.getfield 11, 3) := by decide +kernel
theorem dX7_keepPlace_35 : decode cX7_keepPlace 35 = .ok (.iload_n 1, 1) := by decide +kernel
theorem dX7_keepPlace_36 : decode cX7_keepPlace 36 = .ok (.aload_n 0, 1) := by decide +kernel
theorem dX7_keepPlace_37 : decode cX7_keepPlace 37 = .ok (.getfield 34, 3) := by decide +kernel
theorem dX7_keepPlace_40 : decode cX7_keepPlace 40 = .ok (.iastore, 1) := by decide +kernel
theorem dX7_keepPlace_41 : decode cX7_keepPlace 41 = .ok (.aload_n 0, 1) := by decide +kernel
theorem dX7_keepPlace_42 : decode cX7_keepPlace 42 = .ok (.getfield 11, 3) := by decide +kernel
theorem dX7_keepPlace_45 : decode cX7_keepPlace 45 = .ok (.iload_n 1, 1) := by decide +kernel
theorem dX7_keepPlace_46 : decode cX7_keepPlace 46 = .ok (.iconst 1, 1) := by decide +kernel
theorem dX7_keepPlace_47 : decode cX7_keepPlace 47 = .ok (.iadd, 1) := by decide +kernel
theorem dX7_keepPlace_48 : decode cX7_keepPlace 48 = .ok (.aload_n 0, 1) := by decide +kernel
theorem dX7_keepPlace_49 : decode cX7_keepPlace 49 = .ok (.getfield 37, 3) := by decide +kernel
theorem dX7_keepPlace_52 : decode cX7_keepPlace 52 = .ok (.iastore, 1) := by decide +kernel
theorem dX7_keepPlace_53 : decode cX7_keepPlace 53 = .ok (.aload_n 0, 1) := by decide +kernel
theorem dX7_keepPlace_54 : decode cX7_keepPlace 54 = .ok (.dup, 1) := by decide +kernel
theorem dX7_keepPlace_55 : decode cX7_keepPlace 55 = .ok (.getfield 49, 3) := by decide +kernel
theorem dX7_keepPlace_58 : decode cX7_keepPlace 58 = .ok (.iconst 1, 1) := by decide +kernel
theorem dX7_keepPlace_59 : decode cX7_keepPlace 59 = .ok (.iadd, 1) := by decide +kernel
theorem dX7_keepPlace_60 : decode cX7_keepPlace 60 = .ok (.putfield 49, 3) := by decide +kernel
theorem dX7_keepPlace_63 : decode cX7_keepPlace 63 = .ok (.return_, 1) := by decide +kernel
noncomputable def f_X7_keepPlace (p0 : Nat) (T : Mm) : Option (Unit × Mm) :=
  lb (((2 : Int32) * (gI T 711 p0))) fun v1 =>
  if 20 ≤ (gI T 711 p0) then (some ((), T))
  else (if v1 < 0 then (some ((), T))
  else (if 40 ≤ (v1 + 1) then (some ((), T))
  else (ix v1 40 fun j2 => lb (uA T (p0 + 1) j2 ((gI T 706 p0))) fun T4 =>
  ix (v1 + 1) 40 fun j5 => lb (uA T4 (p0 + 1) j5 ((gI T4 707 p0))) fun T7 =>
  lb (uI T7 711 p0 ((gI T7 711 p0) + 1)) fun T8 =>
  some ((), T8))))
set_option maxRecDepth 100000 in
set_option maxHeartbeats 4000000 in
theorem s_X7_keepPlace {ad : Nat → Nat} {U T : Mm} {q : Unit × Mm}  (p0 : Nat) (hk0 : kS true p0 = 7) (h : f_X7_keepPlace p0 T = some q) : Cr 1 yX7_keepPlace cX7_keepPlace 2 none [.ref (ad p0)] ad true U T eV q := by
  refine cr_of (by decide) (Nat.le_of_ble_eq_true rfl) fun x S0 hn9 C M => ?_
  have C : CB x RX7 cX7_keepPlace := C
  refine Jr.eq (lv' := [(0, .ref (ad p0))]) (st' := []) rfl rfl ?_
  unfold f_X7_keepPlace at h
  refine r_iconst (v := 2) C dX7_keepPlace_0 (by decide) ?_
  refine r_aload_n C dX7_keepPlace_1 rfl 0 rfl ?_
  refine r_geti (f := 711) C flX7_49 dX7_keepPlace_2 hk0 (by decide) (by decide) rfl ?_
  refine r_imul C dX7_keepPlace_5 rfl ?_
  refine r_lbI h (fun v1 h => ?_)
  refine r_istore_n (lv' := [(1, .int v1), (0, .ref (ad p0))]) C dX7_keepPlace_6 rfl (by rw [hn9]; decide) rfl ?_
  show Jr _ _ _ _ _ _ 7 _
  refine r_aload_n C dX7_keepPlace_7 rfl 1 rfl ?_
  refine r_geti (f := 711) C flX7_49 dX7_keepPlace_8 hk0 (by decide) (by decide) rfl ?_
  refine r_bipush (v := 20) C dX7_keepPlace_11 (by decide) ?_
  refine r_ic_ge (tgt := 63) C dX7_keepPlace_13 (by decide) h (fun h => ?_) (fun h => ?_)
  · exact r_vret C M dX7_keepPlace_63 h
  · refine r_iload_n C dX7_keepPlace_16 rfl 0 rfl ?_
    refine r_if_lt (tgt := 63) C dX7_keepPlace_17 (by decide) h (fun h => ?_) (fun h => ?_)
    · exact r_vret C M dX7_keepPlace_63 h
    · refine r_iload_n C dX7_keepPlace_20 rfl 0 rfl ?_
      refine r_iconst (v := 1) C dX7_keepPlace_21 (by decide) ?_
      refine r_iadd C dX7_keepPlace_22 rfl ?_
      refine r_aload_n C dX7_keepPlace_23 rfl 1 rfl ?_
      refine r_getp (f := 712) (j := (p0 + 1)) C flX7_11 dX7_keepPlace_24 hk0 (by decide) rfl (fun W => pt_712 hk0 W) ?_
      show Jr _ _ _ _ _ _ 27 _
      refine r_alen (n := 0) (v := 40) C dX7_keepPlace_27 (pk_712 hk0) (by decide) (by decide) (congrArg Int32.ofNat (pl_712 hk0)) ?_
      refine r_ic_ge (tgt := 63) C dX7_keepPlace_28 (by decide) h (fun h => ?_) (fun h => ?_)
      · exact r_vret C M dX7_keepPlace_63 h
      · refine r_aload_n C dX7_keepPlace_31 rfl 1 rfl ?_
        refine r_getp (f := 712) (j := (p0 + 1)) C flX7_11 dX7_keepPlace_32 hk0 (by decide) rfl (fun W => pt_712 hk0 W) ?_
        refine r_iload_n C dX7_keepPlace_35 rfl 0 rfl ?_
        refine r_aload_n C dX7_keepPlace_36 rfl 1 rfl ?_
        refine r_geti (f := 706) C flX7_34 dX7_keepPlace_37 hk0 (by decide) (by decide) rfl ?_
        show Jr _ _ _ _ _ _ 40 _
        refine r_iast (n := 40) C dX7_keepPlace_40 (pk_712 hk0) (pl_712 hk0) h (fun j2 T4 hj3 h => ?_)
        refine r_aload_n C dX7_keepPlace_41 rfl 1 rfl ?_
        refine r_getp (f := 712) (j := (p0 + 1)) C flX7_11 dX7_keepPlace_42 hk0 (by decide) rfl (fun W => pt_712 hk0 W) ?_
        refine r_iload_n C dX7_keepPlace_45 rfl 0 rfl ?_
        refine r_iconst (v := 1) C dX7_keepPlace_46 (by decide) ?_
        refine r_iadd C dX7_keepPlace_47 rfl ?_
        show Jr _ _ _ _ _ _ 48 _
        refine r_aload_n C dX7_keepPlace_48 rfl 1 rfl ?_
        refine r_geti (f := 707) C flX7_37 dX7_keepPlace_49 hk0 (by decide) (by decide) rfl ?_
        refine r_iast (n := 40) C dX7_keepPlace_52 (pk_712 hk0) (pl_712 hk0) h (fun j5 T7 hj6 h => ?_)
        refine r_aload_n C dX7_keepPlace_53 rfl 1 rfl ?_
        refine r_dup C dX7_keepPlace_54 rfl ?_
        refine r_geti (f := 711) C flX7_49 dX7_keepPlace_55 hk0 (by decide) (by decide) rfl ?_
        show Jr _ _ _ _ _ _ 58 _
        refine r_iconst (v := 1) C dX7_keepPlace_58 (by decide) ?_
        refine r_iadd C dX7_keepPlace_59 rfl ?_
        refine r_puti (f := 711) C flX7_49 (by decide) rfl rfl dX7_keepPlace_60 hk0 rfl h (fun T8 h => ?_)
        exact r_vret C M dX7_keepPlace_63 h
theorem dX7_recallPlace_0 : decode cX7_recallPlace 0 = .ok (.iconst 2, 1) := by decide +kernel
theorem dX7_recallPlace_1 : decode cX7_recallPlace 1 = .ok (.aload_n 0, 1) := by decide +kernel
theorem dX7_recallPlace_2 : decode cX7_recallPlace 2 = .ok (.getfield 49, 3) := by decide +kernel
theorem dX7_recallPlace_5 : decode cX7_recallPlace 5 = .ok (.iconst 1, 1) := by decide +kernel
theorem dX7_recallPlace_6 : decode cX7_recallPlace 6 = .ok (.isub, 1) := by decide +kernel
theorem dX7_recallPlace_7 : decode cX7_recallPlace 7 = .ok (.imul, 1) := by decide +kernel
theorem dX7_recallPlace_8 : decode cX7_recallPlace 8 = .ok (.istore_n 1, 1) := by decide +kernel
theorem dX7_recallPlace_9 : decode cX7_recallPlace 9 = .ok (.iload_n 1, 1) := by decide +kernel
theorem dX7_recallPlace_10 : decode cX7_recallPlace 10 = .ok (.ifCond .lt 48, 3) := by decide +kernel
theorem dX7_recallPlace_13 : decode cX7_recallPlace 13 = .ok (.iload_n 1, 1) := by decide +kernel
theorem dX7_recallPlace_14 : decode cX7_recallPlace 14 = .ok (.iconst 1, 1) := by decide +kernel
theorem dX7_recallPlace_15 : decode cX7_recallPlace 15 = .ok (.iadd, 1) := by decide +kernel
theorem dX7_recallPlace_16 : decode cX7_recallPlace 16 = .ok (.aload_n 0, 1) := by decide +kernel
theorem dX7_recallPlace_17 : decode cX7_recallPlace 17 = .ok (.getfield 11, 3) := by decide +kernel
theorem dX7_recallPlace_20 : decode cX7_recallPlace 20 = .ok (.arraylength, 1) := by decide +kernel
theorem dX7_recallPlace_21 : decode cX7_recallPlace 21 = .ok (.if_icmp .ge 37, 3) := by decide +kernel
theorem dX7_recallPlace_24 : decode cX7_recallPlace 24 = .ok (.aload_n 0, 1) := by decide +kernel
theorem dX7_recallPlace_25 : decode cX7_recallPlace 25 = .ok (.dup, 1) := by decide +kernel
theorem dX7_recallPlace_26 : decode cX7_recallPlace 26 = .ok (.getfield 49, 3) := by decide +kernel
theorem dX7_recallPlace_29 : decode cX7_recallPlace 29 = .ok (.iconst 1, 1) := by decide +kernel
theorem dX7_recallPlace_30 : decode cX7_recallPlace 30 = .ok (.isub, 1) := by decide +kernel
theorem dX7_recallPlace_31 : decode cX7_recallPlace 31 = .ok (.putfield 49, 3) := by decide +kernel
theorem dX7_recallPlace_34 : decode cX7_recallPlace 34 = .ok (.aload_n 0, 1) := by decide +kernel
theorem dX7_recallPlace_35 : decode cX7_recallPlace 35 = .ok (.aload_n 0, 1) := by decide +kernel
theorem dX7_recallPlace_36 : decode cX7_recallPlace 36 = .ok (.getfield 11, 3) := by decide +kernel
theorem dX7_recallPlace_39 : decode cX7_recallPlace 39 = .ok (.iload_n 1, 1) := by decide +kernel
theorem dX7_recallPlace_40 : decode cX7_recallPlace 40 = .ok (.iaload, 1) := by decide +kernel
theorem dX7_recallPlace_41 : decode cX7_recallPlace 41 = .ok (.i2l, 1) := by decide +kernel
theorem dX7_recallPlace_42 : decode cX7_recallPlace 42 = .ok (.invokevirtual 65, 3) := by decide +kernel
theorem dX7_recallPlace_45 : decode cX7_recallPlace 45 = .ok (.aload_n 0, 1) := by decide +kernel
theorem dX7_recallPlace_46 : decode cX7_recallPlace 46 = .ok (.aload_n 0, 1) := by decide +kernel
theorem dX7_recallPlace_47 : decode cX7_recallPlace 47 = .ok (.getfield 11, 3) := by decide +kernel
theorem dX7_recallPlace_50 : decode cX7_recallPlace 50 = .ok (.iload_n 1, 1) := by decide +kernel
theorem dX7_recallPlace_51 : decode cX7_recallPlace 51 = .ok (.iconst 1, 1) := by decide +kernel
theorem dX7_recallPlace_52 : decode cX7_recallPlace 52 = .ok (.iadd, 1) := by decide +kernel
theorem dX7_recallPlace_53 : decode cX7_recallPlace 53 = .ok (.iaload, 1) := by decide +kernel
theorem dX7_recallPlace_54 : decode cX7_recallPlace 54 = .ok (.i2l, 1) := by decide +kernel
theorem dX7_recallPlace_55 : decode cX7_recallPlace 55 = .ok (.invokevirtual 87, 3) := by decide +kernel
theorem dX7_recallPlace_58 : decode cX7_recallPlace 58 = .ok (.return_, 1) := by decide +kernel
noncomputable def f_X7_recallPlace (p0 : Nat) (T : Mm) : Option (Unit × Mm) :=
  lb (((2 : Int32) * ((gI T 711 p0) - 1))) fun v1 =>
  if v1 < 0 then (some ((), T))
  else (if 40 ≤ (v1 + 1) then (some ((), T))
  else (lb (uI T 711 p0 ((gI T 711 p0) - 1)) fun T2 =>
  ix v1 40 fun j3 =>
  bd (f_X7_moveX p0 (((gA T2 (p0 + 1) j3)).toInt64) T2) fun _ T5 =>
  ix (v1 + 1) 40 fun j6 =>
  bd (f_X7_moveY p0 (((gA T5 (p0 + 1) j6)).toInt64) T5) fun _ T8 =>
  some ((), T8)))
set_option maxRecDepth 100000 in
set_option maxHeartbeats 4000000 in
theorem s_X7_recallPlace {ad : Nat → Nat} {U T : Mm} {q : Unit × Mm}  (p0 : Nat) (hk0 : kS true p0 = 7) (h : f_X7_recallPlace p0 T = some q) : Cr 3 yX7_recallPlace cX7_recallPlace 2 none [.ref (ad p0)] ad true U T eV q := by
  refine cr_of (by decide) (Nat.le_of_ble_eq_true rfl) fun x S0 hn9 C M => ?_
  have C : CB x RX7 cX7_recallPlace := C
  refine Jr.eq (lv' := [(0, .ref (ad p0))]) (st' := []) rfl rfl ?_
  unfold f_X7_recallPlace at h
  refine r_iconst (v := 2) C dX7_recallPlace_0 (by decide) ?_
  refine r_aload_n C dX7_recallPlace_1 rfl 0 rfl ?_
  refine r_geti (f := 711) C flX7_49 dX7_recallPlace_2 hk0 (by decide) (by decide) rfl ?_
  refine r_iconst (v := 1) C dX7_recallPlace_5 (by decide) ?_
  refine r_isub C dX7_recallPlace_6 rfl ?_
  show Jr _ _ _ _ _ _ 7 _
  refine r_imul C dX7_recallPlace_7 rfl ?_
  refine r_lbI h (fun v1 h => ?_)
  refine r_istore_n (lv' := [(1, .int v1), (0, .ref (ad p0))]) C dX7_recallPlace_8 rfl (by rw [hn9]; decide) rfl ?_
  refine r_iload_n C dX7_recallPlace_9 rfl 0 rfl ?_
  refine r_if_lt (tgt := 58) C dX7_recallPlace_10 (by decide) h (fun h => ?_) (fun h => ?_)
  · exact r_vret C M dX7_recallPlace_58 h
  · refine r_iload_n C dX7_recallPlace_13 rfl 0 rfl ?_
    refine r_iconst (v := 1) C dX7_recallPlace_14 (by decide) ?_
    refine r_iadd C dX7_recallPlace_15 rfl ?_
    refine r_aload_n C dX7_recallPlace_16 rfl 1 rfl ?_
    refine r_getp (f := 712) (j := (p0 + 1)) C flX7_11 dX7_recallPlace_17 hk0 (by decide) rfl (fun W => pt_712 hk0 W) ?_
    show Jr _ _ _ _ _ _ 20 _
    refine r_alen (n := 0) (v := 40) C dX7_recallPlace_20 (pk_712 hk0) (by decide) (by decide) (congrArg Int32.ofNat (pl_712 hk0)) ?_
    refine r_ic_ge (tgt := 58) C dX7_recallPlace_21 (by decide) h (fun h => ?_) (fun h => ?_)
    · exact r_vret C M dX7_recallPlace_58 h
    · refine r_aload_n C dX7_recallPlace_24 rfl 1 rfl ?_
      refine r_dup C dX7_recallPlace_25 rfl ?_
      refine r_geti (f := 711) C flX7_49 dX7_recallPlace_26 hk0 (by decide) (by decide) rfl ?_
      refine r_iconst (v := 1) C dX7_recallPlace_29 (by decide) ?_
      refine r_isub C dX7_recallPlace_30 rfl ?_
      show Jr _ _ _ _ _ _ 31 _
      refine r_puti (f := 711) C flX7_49 (by decide) rfl rfl dX7_recallPlace_31 hk0 rfl h (fun T2 h => ?_)
      refine r_aload_n C dX7_recallPlace_34 rfl 1 rfl ?_
      refine r_aload_n C dX7_recallPlace_35 rfl 1 rfl ?_
      refine r_getp (f := 712) (j := (p0 + 1)) C flX7_11 dX7_recallPlace_36 hk0 (by decide) rfl (fun W => pt_712 hk0 W) ?_
      refine r_iload_n C dX7_recallPlace_39 rfl 0 rfl ?_
      refine r_iald (n := 40) C dX7_recallPlace_40 (pk_712 hk0) (pl_712 hk0) h (fun j3 hj4 h => ?_)
      show Jr _ _ _ _ _ _ 41 _
      refine r_i2l C dX7_recallPlace_41 rfl ?_
      refine r_callVN C M h [.long (((gA T2 (p0 + 1) j3)).toInt64)] [] mlX7_65 mcX7_moveX (fun q9 e9 => s_X7_moveX p0 (((gA T2 (p0 + 1) j3)).toInt64) hk0 e9) hk0 rfl (by decide) (by decide) rfl rfl (Nat.le_of_ble_eq_true rfl) dX7_recallPlace_42 (fun _ T5 h => ?_)
      refine r_aload_n C dX7_recallPlace_45 rfl 1 rfl ?_
      refine r_aload_n C dX7_recallPlace_46 rfl 1 rfl ?_
      refine r_getp (f := 712) (j := (p0 + 1)) C flX7_11 dX7_recallPlace_47 hk0 (by decide) rfl (fun W => pt_712 hk0 W) ?_
      refine r_iload_n C dX7_recallPlace_50 rfl 0 rfl ?_
      show Jr _ _ _ _ _ _ 51 _
      refine r_iconst (v := 1) C dX7_recallPlace_51 (by decide) ?_
      refine r_iadd C dX7_recallPlace_52 rfl ?_
      refine r_iald (n := 40) C dX7_recallPlace_53 (pk_712 hk0) (pl_712 hk0) h (fun j6 hj7 h => ?_)
      refine r_i2l C dX7_recallPlace_54 rfl ?_
      refine r_callVN C M h [.long (((gA T5 (p0 + 1) j6)).toInt64)] [] mlX7_87 mcX7_moveY (fun q9 e9 => s_X7_moveY p0 (((gA T5 (p0 + 1) j6)).toInt64) hk0 e9) hk0 rfl (by decide) (by decide) rfl rfl (Nat.le_of_ble_eq_true rfl) dX7_recallPlace_55 (fun _ T8 h => ?_)
      exact r_vret C M dX7_recallPlace_58 h
theorem dX9_isMacroEnd_0 : decode cX9_isMacroEnd 0 = .ok (.aload_n 0, 1) := by decide +kernel
theorem dX9_isMacroEnd_1 : decode cX9_isMacroEnd 1 = .ok (.getfield 82, 3) := by decide +kernel
theorem dX9_isMacroEnd_4 : decode cX9_isMacroEnd 4 = .ok (.iload_n 1, 1) := by decide +kernel
theorem dX9_isMacroEnd_5 : decode cX9_isMacroEnd 5 = .ok (.invokevirtual 311, 3) := by decide +kernel
theorem dX9_isMacroEnd_8 : decode cX9_isMacroEnd 8 = .ok (.bipush 27, 2) := by decide +kernel
theorem dX9_isMacroEnd_10 : decode cX9_isMacroEnd 10 = .ok (.if_icmp .ne 67, 3) := by decide +kernel
theorem dX9_isMacroEnd_13 : decode cX9_isMacroEnd 13 = .ok (.aload_n 0, 1) := by decide +kernel
theorem dX9_isMacroEnd_14 : decode cX9_isMacroEnd 14 = .ok (.getfield 82, 3) := by decide +kernel
theorem dX9_isMacroEnd_17 : decode cX9_isMacroEnd 17 = .ok (.iload_n 1, 1) := by decide +kernel
theorem dX9_isMacroEnd_18 : decode cX9_isMacroEnd 18 = .ok (.iconst 1, 1) := by decide +kernel
theorem dX9_isMacroEnd_19 : decode cX9_isMacroEnd 19 = .ok (.iadd, 1) := by decide +kernel
theorem dX9_isMacroEnd_20 : decode cX9_isMacroEnd 20 = .ok (.invokevirtual 311, 3) := by decide +kernel
theorem dX9_isMacroEnd_23 : decode cX9_isMacroEnd 23 = .ok (.bipush 38, 2) := by decide +kernel
theorem dX9_isMacroEnd_25 : decode cX9_isMacroEnd 25 = .ok (.if_icmp .ne 52, 3) := by decide +kernel
theorem dX9_isMacroEnd_28 : decode cX9_isMacroEnd 28 = .ok (.aload_n 0, 1) := by decide +kernel
theorem dX9_isMacroEnd_29 : decode cX9_isMacroEnd 29 = .ok (.getfield 82, 3) := by decide +kernel
theorem dX9_isMacroEnd_32 : decode cX9_isMacroEnd 32 = .ok (.iload_n 1, 1) := by decide +kernel
theorem dX9_isMacroEnd_33 : decode cX9_isMacroEnd 33 = .ok (.iconst 2, 1) := by decide +kernel
theorem dX9_isMacroEnd_34 : decode cX9_isMacroEnd 34 = .ok (.iadd, 1) := by decide +kernel
theorem dX9_isMacroEnd_35 : decode cX9_isMacroEnd 35 = .ok (.invokevirtual 311, 3) := by decide +kernel
theorem dX9_isMacroEnd_38 : decode cX9_isMacroEnd 38 = .ok (.bipush 102, 2) := by decide +kernel
theorem dX9_isMacroEnd_40 : decode cX9_isMacroEnd 40 = .ok (.if_icmp .ne 37, 3) := by decide +kernel
theorem dX9_isMacroEnd_43 : decode cX9_isMacroEnd 43 = .ok (.aload_n 0, 1) := by decide +kernel
theorem dX9_isMacroEnd_44 : decode cX9_isMacroEnd 44 = .ok (.getfield 82, 3) := by decide +kernel
theorem dX9_isMacroEnd_47 : decode cX9_isMacroEnd 47 = .ok (.iload_n 1, 1) := by decide +kernel
theorem dX9_isMacroEnd_48 : decode cX9_isMacroEnd 48 = .ok (.iconst 3, 1) := by decide +kernel
theorem dX9_isMacroEnd_49 : decode cX9_isMacroEnd 49 = .ok (.iadd, 1) := by decide +kernel
theorem dX9_isMacroEnd_50 : decode cX9_isMacroEnd 50 = .ok (.invokevirtual 311, 3) := by decide +kernel
theorem dX9_isMacroEnd_53 : decode cX9_isMacroEnd 53 = .ok (.bipush 49, 2) := by decide +kernel
theorem dX9_isMacroEnd_55 : decode cX9_isMacroEnd 55 = .ok (.if_icmp .ne 22, 3) := by decide +kernel
theorem dX9_isMacroEnd_58 : decode cX9_isMacroEnd 58 = .ok (.aload_n 0, 1) := by decide +kernel
theorem dX9_isMacroEnd_59 : decode cX9_isMacroEnd 59 = .ok (.getfield 82, 3) := by decide +kernel
theorem dX9_isMacroEnd_62 : decode cX9_isMacroEnd 62 = .ok (.iload_n 1, 1) := by decide +kernel
theorem dX9_isMacroEnd_63 : decode cX9_isMacroEnd 63 = .ok (.iconst 4, 1) := by decide +kernel
theorem dX9_isMacroEnd_64 : decode cX9_isMacroEnd 64 = .ok (.iadd, 1) := by decide +kernel
theorem dX9_isMacroEnd_65 : decode cX9_isMacroEnd 65 = .ok (.invokevirtual 311, 3) := by decide +kernel
theorem dX9_isMacroEnd_68 : decode cX9_isMacroEnd 68 = .ok (.bipush 88, 2) := by decide +kernel
theorem dX9_isMacroEnd_70 : decode cX9_isMacroEnd 70 = .ok (.if_icmp .ne 7, 3) := by decide +kernel
theorem dX9_isMacroEnd_73 : decode cX9_isMacroEnd 73 = .ok (.iconst 1, 1) := by decide +kernel
theorem dX9_isMacroEnd_74 : decode cX9_isMacroEnd 74 = .ok (.goto 4, 3) := by decide +kernel
theorem dX9_isMacroEnd_77 : decode cX9_isMacroEnd 77 = .ok (.iconst 0, 1) := by decide +kernel
theorem dX9_isMacroEnd_78 : decode cX9_isMacroEnd 78 = .ok (.ireturn, 1) := by decide +kernel
noncomputable def f_X9_isMacroEnd (p1 : Int32) (T : Mm) : Option (Int32 × Mm) :=
  rf true (gR T 913 23) 5 fun j1 =>
  bd (f_X5_byteAt j1 p1 T) fun v3 T4 =>
  if v3 = 27 then (rf true (gR T4 913 23) 5 fun j5 =>
  bd (f_X5_byteAt j5 (p1 + 1) T4) fun v7 T8 =>
  if v7 = 38 then (rf true (gR T8 913 23) 5 fun j9 =>
  bd (f_X5_byteAt j9 (p1 + 2) T8) fun v11 T12 =>
  if v11 = 102 then (rf true (gR T12 913 23) 5 fun j13 =>
  bd (f_X5_byteAt j13 (p1 + 3) T12) fun v15 T16 =>
  if v15 = 49 then (rf true (gR T16 913 23) 5 fun j17 =>
  bd (f_X5_byteAt j17 (p1 + 4) T16) fun v19 T20 =>
  if v19 = 88 then (some (1, T20))
  else (some (0, T20)))
  else (some (0, T16)))
  else (some (0, T12)))
  else (some (0, T8)))
  else (some (0, T4))
set_option maxRecDepth 100000 in
set_option maxHeartbeats 4000000 in
theorem s_X9_isMacroEnd {ad : Nat → Nat} {U T : Mm} {q : Int32 × Mm}  (p1 : Int32) (h : f_X9_isMacroEnd p1 T = some q) : Cr 2 yX9_isMacroEnd cX9_isMacroEnd 2 (some .boolean) [.ref (ad 23), .int p1] ad true U T eI q := by
  refine cr_of (by decide) (Nat.le_of_ble_eq_true rfl) fun x S0 hn9 C M => ?_
  have C : CB x RX9 cX9_isMacroEnd := C
  refine Jr.eq (lv' := [(0, .ref (ad 23)), (1, .int p1)]) (st' := []) rfl rfl ?_
  unfold f_X9_isMacroEnd at h
  refine r_aload_n C dX9_isMacroEnd_0 rfl 0 rfl ?_
  refine r_getr (f := 913) (c := 5) C flX9_82 dX9_isMacroEnd_1 kq_23 (by decide) rfl h (fun j1 hj2 h => ?_)
  refine r_iload_n C dX9_isMacroEnd_4 rfl 1 rfl ?_
  refine r_callVI C M h [.int p1] [] mlX9_311 mcX5_byteAt (fun q9 e9 => s_X5_byteAt j1 p1 hj2 e9) hj2 rfl (by decide) (by decide) rfl rfl (Nat.le_of_ble_eq_true rfl) dX9_isMacroEnd_5 (fun v3 T4 h => ?_)
  refine r_bipush (v := 27) C dX9_isMacroEnd_8 (by decide) ?_
  show Jr _ _ _ _ _ _ 10 _
  refine r_ic_ne (tgt := 77) C dX9_isMacroEnd_10 (by decide) h (fun h => ?_) (fun h => ?_)
  · refine r_iconst (v := 0) C dX9_isMacroEnd_77 (by decide) ?_
    exact r_zret C M dX9_isMacroEnd_78 (by decide) h
  · refine r_aload_n C dX9_isMacroEnd_13 rfl 0 rfl ?_
    refine r_getr (f := 913) (c := 5) C flX9_82 dX9_isMacroEnd_14 kq_23 (by decide) rfl h (fun j5 hj6 h => ?_)
    refine r_iload_n C dX9_isMacroEnd_17 rfl 1 rfl ?_
    refine r_iconst (v := 1) C dX9_isMacroEnd_18 (by decide) ?_
    refine r_iadd C dX9_isMacroEnd_19 rfl ?_
    show Jr _ _ _ _ _ _ 20 _
    refine r_callVI C M h [.int (p1 + 1)] [] mlX9_311 mcX5_byteAt (fun q9 e9 => s_X5_byteAt j5 (p1 + 1) hj6 e9) hj6 rfl (by decide) (by decide) rfl rfl (Nat.le_of_ble_eq_true rfl) dX9_isMacroEnd_20 (fun v7 T8 h => ?_)
    refine r_bipush (v := 38) C dX9_isMacroEnd_23 (by decide) ?_
    refine r_ic_ne (tgt := 77) C dX9_isMacroEnd_25 (by decide) h (fun h => ?_) (fun h => ?_)
    · refine r_iconst (v := 0) C dX9_isMacroEnd_77 (by decide) ?_
      exact r_zret C M dX9_isMacroEnd_78 (by decide) h
    · refine r_aload_n C dX9_isMacroEnd_28 rfl 0 rfl ?_
      refine r_getr (f := 913) (c := 5) C flX9_82 dX9_isMacroEnd_29 kq_23 (by decide) rfl h (fun j9 hj10 h => ?_)
      refine r_iload_n C dX9_isMacroEnd_32 rfl 1 rfl ?_
      refine r_iconst (v := 2) C dX9_isMacroEnd_33 (by decide) ?_
      refine r_iadd C dX9_isMacroEnd_34 rfl ?_
      show Jr _ _ _ _ _ _ 35 _
      refine r_callVI C M h [.int (p1 + 2)] [] mlX9_311 mcX5_byteAt (fun q9 e9 => s_X5_byteAt j9 (p1 + 2) hj10 e9) hj10 rfl (by decide) (by decide) rfl rfl (Nat.le_of_ble_eq_true rfl) dX9_isMacroEnd_35 (fun v11 T12 h => ?_)
      refine r_bipush (v := 102) C dX9_isMacroEnd_38 (by decide) ?_
      refine r_ic_ne (tgt := 77) C dX9_isMacroEnd_40 (by decide) h (fun h => ?_) (fun h => ?_)
      · refine r_iconst (v := 0) C dX9_isMacroEnd_77 (by decide) ?_
        exact r_zret C M dX9_isMacroEnd_78 (by decide) h
      · refine r_aload_n C dX9_isMacroEnd_43 rfl 0 rfl ?_
        refine r_getr (f := 913) (c := 5) C flX9_82 dX9_isMacroEnd_44 kq_23 (by decide) rfl h (fun j13 hj14 h => ?_)
        refine r_iload_n C dX9_isMacroEnd_47 rfl 1 rfl ?_
        refine r_iconst (v := 3) C dX9_isMacroEnd_48 (by decide) ?_
        refine r_iadd C dX9_isMacroEnd_49 rfl ?_
        show Jr _ _ _ _ _ _ 50 _
        refine r_callVI C M h [.int (p1 + 3)] [] mlX9_311 mcX5_byteAt (fun q9 e9 => s_X5_byteAt j13 (p1 + 3) hj14 e9) hj14 rfl (by decide) (by decide) rfl rfl (Nat.le_of_ble_eq_true rfl) dX9_isMacroEnd_50 (fun v15 T16 h => ?_)
        refine r_bipush (v := 49) C dX9_isMacroEnd_53 (by decide) ?_
        refine r_ic_ne (tgt := 77) C dX9_isMacroEnd_55 (by decide) h (fun h => ?_) (fun h => ?_)
        · refine r_iconst (v := 0) C dX9_isMacroEnd_77 (by decide) ?_
          exact r_zret C M dX9_isMacroEnd_78 (by decide) h
        · refine r_aload_n C dX9_isMacroEnd_58 rfl 0 rfl ?_
          refine r_getr (f := 913) (c := 5) C flX9_82 dX9_isMacroEnd_59 kq_23 (by decide) rfl h (fun j17 hj18 h => ?_)
          refine r_iload_n C dX9_isMacroEnd_62 rfl 1 rfl ?_
          refine r_iconst (v := 4) C dX9_isMacroEnd_63 (by decide) ?_
          refine r_iadd C dX9_isMacroEnd_64 rfl ?_
          show Jr _ _ _ _ _ _ 65 _
          refine r_callVI C M h [.int (p1 + 4)] [] mlX9_311 mcX5_byteAt (fun q9 e9 => s_X5_byteAt j17 (p1 + 4) hj18 e9) hj18 rfl (by decide) (by decide) rfl rfl (Nat.le_of_ble_eq_true rfl) dX9_isMacroEnd_65 (fun v19 T20 h => ?_)
          refine r_bipush (v := 88) C dX9_isMacroEnd_68 (by decide) ?_
          refine r_ic_ne (tgt := 77) C dX9_isMacroEnd_70 (by decide) h (fun h => ?_) (fun h => ?_)
          · refine r_iconst (v := 0) C dX9_isMacroEnd_77 (by decide) ?_
            exact r_zret C M dX9_isMacroEnd_78 (by decide) h
          · refine r_iconst (v := 1) C dX9_isMacroEnd_73 (by decide) ?_
            refine r_goto (tgt := 78) C dX9_isMacroEnd_74 (by decide) ?_
            exact r_zret C M dX9_isMacroEnd_78 (by decide) h
theorem dX8_put_0 : decode cX8_put 0 = .ok (.iload_n 1, 1) := by decide +kernel
theorem dX8_put_1 : decode cX8_put 1 = .ok (.ifCond .lt 16, 3) := by decide +kernel
theorem dX8_put_4 : decode cX8_put 4 = .ok (.iload_n 1, 1) := by decide +kernel
theorem dX8_put_5 : decode cX8_put 5 = .ok (.bipush 16, 2) := by decide +kernel
theorem dX8_put_7 : decode cX8_put 7 = .ok (.if_icmp .ge 10, 3) := by decide +kernel
theorem dX8_put_10 : decode cX8_put 10 = .ok (.aload_n 0, 1) := by decide +kernel
theorem dX8_put_11 : decode cX8_put 11 = .ok (.getfield 9, 3) := by decide +kernel
theorem dX8_put_14 : decode cX8_put 14 = .ok (.iload_n 1, 1) := by decide +kernel
theorem dX8_put_15 : decode cX8_put 15 = .ok (.iconst 1, 1) := by decide +kernel
theorem dX8_put_16 : decode cX8_put 16 = .ok (.iastore, 1) := by decide +kernel
theorem dX8_put_17 : decode cX8_put 17 = .ok (.return_, 1) := by decide +kernel
noncomputable def f_X8_put (p0 : Nat) (p1 : Int32) (T : Mm) : Option (Unit × Mm) :=
  if p1 < 0 then (some ((), T))
  else (if 16 ≤ p1 then (some ((), T))
  else (ix p1 16 fun j1 => lb (uA T (p0 + 1) j1 (1)) fun T3 =>
  some ((), T3)))
set_option maxRecDepth 100000 in
set_option maxHeartbeats 4000000 in
theorem s_X8_put {ad : Nat → Nat} {U T : Mm} {q : Unit × Mm}  (p0 : Nat) (p1 : Int32) (hk0 : kS true p0 = 8) (h : f_X8_put p0 p1 T = some q) : Cr 1 yX8_put cX8_put 2 none [.ref (ad p0), .int p1] ad true U T eV q := by
  refine cr_of (by decide) (Nat.le_of_ble_eq_true rfl) fun x S0 hn9 C M => ?_
  have C : CB x RX8 cX8_put := C
  refine Jr.eq (lv' := [(0, .ref (ad p0)), (1, .int p1)]) (st' := []) rfl rfl ?_
  unfold f_X8_put at h
  refine r_iload_n C dX8_put_0 rfl 1 rfl ?_
  refine r_if_lt (tgt := 17) C dX8_put_1 (by decide) h (fun h => ?_) (fun h => ?_)
  · exact r_vret C M dX8_put_17 h
  · refine r_iload_n C dX8_put_4 rfl 1 rfl ?_
    refine r_bipush (v := 16) C dX8_put_5 (by decide) ?_
    refine r_ic_ge (tgt := 17) C dX8_put_7 (by decide) h (fun h => ?_) (fun h => ?_)
    · exact r_vret C M dX8_put_17 h
    · refine r_aload_n C dX8_put_10 rfl 0 rfl ?_
      refine r_getp (f := 800) (j := (p0 + 1)) C flX8_9 dX8_put_11 hk0 (by decide) rfl (fun W => pt_800 hk0 W) ?_
      refine r_iload_n C dX8_put_14 rfl 1 rfl ?_
      refine r_iconst (v := 1) C dX8_put_15 (by decide) ?_
      refine r_iast (n := 16) C dX8_put_16 (pk_800 hk0) (pl_800 hk0) h (fun j1 T3 hj2 h => ?_)
      show Jr _ _ _ _ _ _ 17 _
      exact r_vret C M dX8_put_17 h
theorem dX9_tellMacro_0 : decode cX9_tellMacro 0 = .ok (.aload_n 0, 1) := by decide +kernel
theorem dX9_tellMacro_1 : decode cX9_tellMacro 1 = .ok (.getfield 82, 3) := by decide +kernel
theorem dX9_tellMacro_4 : decode cX9_tellMacro 4 = .ok (.getfield 201, 3) := by decide +kernel
theorem dX9_tellMacro_7 : decode cX9_tellMacro 7 = .ok (.istore_n 2, 1) := by decide +kernel
theorem dX9_tellMacro_8 : decode cX9_tellMacro 8 = .ok (.iload_n 2, 1) := by decide +kernel
theorem dX9_tellMacro_9 : decode cX9_tellMacro 9 = .ok (.istore_n 3, 1) := by decide +kernel
theorem dX9_tellMacro_10 : decode cX9_tellMacro 10 = .ok (.iload_n 3, 1) := by decide +kernel
theorem dX9_tellMacro_11 : decode cX9_tellMacro 11 = .ok (.aload_n 0, 1) := by decide +kernel
theorem dX9_tellMacro_12 : decode cX9_tellMacro 12 = .ok (.getfield 82, 3) := by decide +kernel
theorem dX9_tellMacro_15 : decode cX9_tellMacro 15 = .ok (.getfield 336, 3) := by decide +kernel
theorem dX9_tellMacro_18 : decode cX9_tellMacro 18 = .ok (.if_icmp .ge 17, 3) := by decide +kernel
theorem dX9_tellMacro_21 : decode cX9_tellMacro 21 = .ok (.aload_n 0, 1) := by decide +kernel
theorem dX9_tellMacro_22 : decode cX9_tellMacro 22 = .ok (.iload_n 3, 1) := by decide +kernel
theorem dX9_tellMacro_23 : decode cX9_tellMacro 23 = .ok (.invokevirtual 490, 3) := by decide +kernel
theorem dX9_tellMacro_26 : decode cX9_tellMacro 26 = .ok (.ifCond .ne 9, 3) := by decide +kernel
theorem dX9_tellMacro_29 : decode cX9_tellMacro 29 = .ok (.iinc 3 1, 3) := by decide +kernel
theorem dX9_tellMacro_32 : decode cX9_tellMacro 32 = .ok (.goto (-22), 3) := by decide +kernel
theorem dX9_tellMacro_35 : decode cX9_tellMacro 35 = .ok (.iload_n 3, 1) := by decide +kernel
theorem dX9_tellMacro_36 : decode cX9_tellMacro 36 = .ok (.iload_n 2, 1) := by decide +kernel
theorem dX9_tellMacro_37 : decode cX9_tellMacro 37 = .ok (.isub, 1) := by decide +kernel
theorem dX9_tellMacro_38 : decode cX9_tellMacro 38 = .ok (.istore 4, 2) := by decide +kernel
theorem dX9_tellMacro_40 : decode cX9_tellMacro 40 = .ok (.aload_n 0, 1) := by decide +kernel
theorem dX9_tellMacro_41 : decode cX9_tellMacro 41 = .ok (.getfield 82, 3) := by decide +kernel
theorem dX9_tellMacro_44 : decode cX9_tellMacro 44 = .ok (.iconst 1, 1) := by decide +kernel
theorem dX9_tellMacro_45 : decode cX9_tellMacro 45 = .ok (.putfield 230, 3) := by decide +kernel
theorem dX9_tellMacro_48 : decode cX9_tellMacro 48 = .ok (.aload_n 0, 1) := by decide +kernel
theorem dX9_tellMacro_49 : decode cX9_tellMacro 49 = .ok (.iload_n 3, 1) := by decide +kernel
theorem dX9_tellMacro_50 : decode cX9_tellMacro 50 = .ok (.aload_n 0, 1) := by decide +kernel
theorem dX9_tellMacro_51 : decode cX9_tellMacro 51 = .ok (.getfield 82, 3) := by decide +kernel
theorem dX9_tellMacro_54 : decode cX9_tellMacro 54 = .ok (.getfield 336, 3) := by decide +kernel
theorem dX9_tellMacro_57 : decode cX9_tellMacro 57 = .ok (.if_icmp .ge 10, 3) := by decide +kernel
theorem dX9_tellMacro_60 : decode cX9_tellMacro 60 = .ok (.iload 4, 2) := by decide +kernel
theorem dX9_tellMacro_62 : decode cX9_tellMacro 62 = .ok (.iconst 5, 1) := by decide +kernel
theorem dX9_tellMacro_63 : decode cX9_tellMacro 63 = .ok (.iadd, 1) := by decide +kernel
theorem dX9_tellMacro_64 : decode cX9_tellMacro 64 = .ok (.goto 5, 3) := by decide +kernel
theorem dX9_tellMacro_67 : decode cX9_tellMacro 67 = .ok (.iload 4, 2) := by decide +kernel
theorem dX9_tellMacro_69 : decode cX9_tellMacro 69 = .ok (.invokevirtual 204, 3) := by decide +kernel
theorem dX9_tellMacro_72 : decode cX9_tellMacro 72 = .ok (.ifCond .eq 11, 3) := by decide +kernel
theorem dX9_tellMacro_75 : decode cX9_tellMacro 75 = .ok (.iload 4, 2) := by decide +kernel
theorem dX9_tellMacro_77 : decode cX9_tellMacro 77 = .ok (.sipush 1500, 3) := by decide +kernel
theorem dX9_tellMacro_80 : decode cX9_tellMacro 80 = .ok (.if_icmp .le 4, 3) := by decide +kernel
theorem dX9_tellMacro_83 : decode cX9_tellMacro 83 = .ok (.return_, 1) := by decide +kernel
theorem dX9_tellMacro_84 : decode cX9_tellMacro 84 = .ok (.iload_n 1, 1) := by decide +kernel
theorem dX9_tellMacro_85 : decode cX9_tellMacro 85 = .ok (.sipush 1500, 3) := by decide +kernel
theorem dX9_tellMacro_88 : decode cX9_tellMacro 88 = .ok (.imul, 1) := by decide +kernel
theorem dX9_tellMacro_89 : decode cX9_tellMacro 89 = .ok (.istore 5, 2) := by decide +kernel
theorem dX9_tellMacro_91 : decode cX9_tellMacro 91 = .ok (.iload_n 1, 1) := by decide +kernel
theorem dX9_tellMacro_92 : decode cX9_tellMacro 92 = .ok (.ifCond .lt 60, 3) := by decide +kernel
theorem dX9_tellMacro_95 : decode cX9_tellMacro 95 = .ok (.iload_n 1, 1) := by decide +kernel
theorem dX9_tellMacro_96 : decode cX9_tellMacro 96 = .ok (.aload_n 0, 1) := by decide +kernel
theorem dX9_tellMacro_97 : decode cX9_tellMacro 97 = .ok (.getfield 50, 3) := by decide +kernel
theorem dX9_tellMacro_100 : decode cX9_tellMacro 100 = .ok (.arraylength, 1) := by decide +kernel
theorem dX9_tellMacro_101 : decode cX9_tellMacro 101 = .ok (.if_icmp .ge 51, 3) := by decide +kernel
theorem dX9_tellMacro_104 : decode cX9_tellMacro 104 = .ok (.iload 5, 2) := by decide +kernel
theorem dX9_tellMacro_106 : decode cX9_tellMacro 106 = .ok (.iload 4, 2) := by decide +kernel
theorem dX9_tellMacro_108 : decode cX9_tellMacro 108 = .ok (.iadd, 1) := by decide +kernel
theorem dX9_tellMacro_109 : decode cX9_tellMacro 109 = .ok (.aload_n 0, 1) := by decide +kernel
theorem dX9_tellMacro_110 : decode cX9_tellMacro 110 = .ok (.getfield 46, 3) := by decide +kernel
theorem dX9_tellMacro_113 : decode cX9_tellMacro 113 = .ok (.arraylength, 1) := by decide +kernel
theorem dX9_tellMacro_114 : decode cX9_tellMacro 114 = .ok (.if_icmp .gt 38, 3) := by decide +kernel
theorem dX9_tellMacro_117 : decode cX9_tellMacro 117 = .ok (.aload_n 0, 1) := by decide +kernel
theorem dX9_tellMacro_118 : decode cX9_tellMacro 118 = .ok (.getfield 82, 3) := by decide +kernel
theorem dX9_tellMacro_121 : decode cX9_tellMacro 121 = .ok (.getfield 493, 3) := by decide +kernel
theorem dX9_tellMacro_124 : decode cX9_tellMacro 124 = .ok (.iload_n 2, 1) := by decide +kernel
theorem dX9_tellMacro_125 : decode cX9_tellMacro 125 = .ok (.aload_n 0, 1) := by decide +kernel
theorem dX9_tellMacro_126 : decode cX9_tellMacro 126 = .ok (.getfield 46, 3) := by decide +kernel
theorem dX9_tellMacro_129 : decode cX9_tellMacro 129 = .ok (.iload 5, 2) := by decide +kernel
theorem dX9_tellMacro_131 : decode cX9_tellMacro 131 = .ok (.iload 4, 2) := by decide +kernel
theorem dX9_tellMacro_133 : decode cX9_tellMacro 133 = .ok (.invokestatic 496, 3) := by decide +kernel
theorem dX9_tellMacro_136 : decode cX9_tellMacro 136 = .ok (.aload_n 0, 1) := by decide +kernel
theorem dX9_tellMacro_137 : decode cX9_tellMacro 137 = .ok (.getfield 50, 3) := by decide +kernel
theorem dX9_tellMacro_140 : decode cX9_tellMacro 140 = .ok (.iload_n 1, 1) := by decide +kernel
theorem dX9_tellMacro_141 : decode cX9_tellMacro 141 = .ok (.iload 4, 2) := by decide +kernel
theorem dX9_tellMacro_143 : decode cX9_tellMacro 143 = .ok (.iastore, 1) := by decide +kernel
theorem dX9_tellMacro_144 : decode cX9_tellMacro 144 = .ok (.aload_n 0, 1) := by decide +kernel
theorem dX9_tellMacro_145 : decode cX9_tellMacro 145 = .ok (.getfield 43, 3) := by decide +kernel
theorem dX9_tellMacro_148 : decode cX9_tellMacro 148 = .ok (.iload_n 1, 1) := by decide +kernel
theorem dX9_tellMacro_149 : decode cX9_tellMacro 149 = .ok (.invokevirtual 502, 3) := by decide +kernel
theorem dX9_tellMacro_152 : decode cX9_tellMacro 152 = .ok (.return_, 1) := by decide +kernel
noncomputable def f_X9_tellMacro_69 (a1 : Int32) (a2 : Int32) (a4 : Int32) (b0 : Int32) (T : Mm) : Option (Unit × Mm) :=
  bd (f_X9_pass b0 T) fun v1 T2 =>
  if v1 = 0 then (some ((), T2))
  else (if a4 ≤ 1500 then (lb ((a1 * 1500)) fun v3 =>
  if a1 < 0 then (some ((), T2))
  else (if 16 ≤ a1 then (some ((), T2))
  else (if 24000 < (v3 + a4) then (some ((), T2))
  else (rf true (gR T2 913 23) 5 fun j4 =>
  rf true (gR T2 500 j4) 13 fun j6 =>
  cp a2 v3 a4 (LN j6) 24000 fun q8 q9 q10 => lb (vA T2 43 (va_cpy (gA T2 j6) (gA T2 43) q8 q9 q10)) fun T11 =>
  ix a1 16 fun j12 => lb (uA T11 44 j12 (a4)) fun T14 =>
  bd (f_X8_put 41 a1 T14) fun _ T15 =>
  some ((), T15)))))
  else (some ((), T2)))
set_option maxRecDepth 100000 in
set_option maxHeartbeats 4000000 in
theorem s_X9_tellMacro_69 {x : JX} {ad : Nat → Nat} {U : Mm} {S0 : Hp} {q : Unit × Mm}  (hn9 : x_n x = 6) (C : CB x RX9 cX9_tellMacro) (M : CMr x 3 none S0 ad true U eV q) (a1 : Int32) (a2 : Int32) (a4 : Int32) (b0 : Int32) (T : Mm) (h : f_X9_tellMacro_69  a1 a2 a4 b0 T = some q) : Jr x ad true U T [(0, .ref (ad 23)), (1, .int a1), (2, .int a2), (4, .int a4)] 69 [.int b0, .ref (ad 23)] := by
  unfold f_X9_tellMacro_69 at h
  refine r_callVI C M h [.int b0] [] mlX9_204 mcX9_pass (fun q9 e9 => s_X9_pass b0  e9) kq_23 rfl (by decide) (by decide) rfl rfl (Nat.le_of_ble_eq_true rfl) dX9_tellMacro_69 (fun v1 T2 h => ?_)
  refine r_if_eq (tgt := 83) C dX9_tellMacro_72 (by decide) h (fun h => ?_) (fun h => ?_)
  · exact r_vret C M dX9_tellMacro_83 h
  · refine r_iload C dX9_tellMacro_75 3 rfl ?_
    refine r_sipush (v := 1500) C dX9_tellMacro_77 (by decide) ?_
    refine r_ic_le (tgt := 84) C dX9_tellMacro_80 (by decide) h (fun h => ?_) (fun h => ?_)
    · refine r_iload_n C dX9_tellMacro_84 rfl 1 rfl ?_
      refine r_sipush (v := 1500) C dX9_tellMacro_85 (by decide) ?_
      refine r_imul C dX9_tellMacro_88 rfl ?_
      refine r_lbI h (fun v3 h => ?_)
      refine r_istore (lv' := [(5, .int v3), (0, .ref (ad 23)), (1, .int a1), (2, .int a2), (4, .int a4)]) C dX9_tellMacro_89 (by rw [hn9]; decide) rfl ?_
      refine r_iload_n C dX9_tellMacro_91 rfl 2 rfl ?_
      show Jr _ _ _ _ _ _ 92 _
      refine r_if_lt (tgt := 152) C dX9_tellMacro_92 (by decide) h (fun h => ?_) (fun h => ?_)
      · exact r_vret C M dX9_tellMacro_152 h
      · refine r_iload_n C dX9_tellMacro_95 rfl 2 rfl ?_
        refine r_aload_n C dX9_tellMacro_96 rfl 1 rfl ?_
        refine r_getp (f := 908) (j := 44) C flX9_50 dX9_tellMacro_97 kq_23 (by decide) rfl (fun W => pt_908 kq_23 W) ?_
        refine r_alen (n := 0) (v := 16) C dX9_tellMacro_100 kq_44 (by decide) (by decide) (congrArg Int32.ofNat lq_44) ?_
        refine r_ic_ge (tgt := 152) C dX9_tellMacro_101 (by decide) h (fun h => ?_) (fun h => ?_)
        · exact r_vret C M dX9_tellMacro_152 h
        · refine r_iload C dX9_tellMacro_104 0 rfl ?_
          refine r_iload C dX9_tellMacro_106 4 rfl ?_
          refine r_iadd C dX9_tellMacro_108 rfl ?_
          refine r_aload_n C dX9_tellMacro_109 rfl 1 rfl ?_
          refine r_getp (f := 907) (j := 43) C flX9_46 dX9_tellMacro_110 kq_23 (by decide) rfl (fun W => pt_907 kq_23 W) ?_
          show Jr _ _ _ _ _ _ 113 _
          refine r_alen (n := 0) (v := 24000) C dX9_tellMacro_113 kq_43 (by decide) (by decide) (congrArg Int32.ofNat lq_43) ?_
          refine r_ic_gt (tgt := 152) C dX9_tellMacro_114 (by decide) h (fun h => ?_) (fun h => ?_)
          · exact r_vret C M dX9_tellMacro_152 h
          · refine r_aload_n C dX9_tellMacro_117 rfl 1 rfl ?_
            refine r_getr (f := 913) (c := 5) C flX9_82 dX9_tellMacro_118 kq_23 (by decide) rfl h (fun j4 hj5 h => ?_)
            refine r_getr (f := 500) (c := 13) C flX9_493 dX9_tellMacro_121 hj5 (by decide) rfl h (fun j6 hj7 h => ?_)
            refine r_iload_n C dX9_tellMacro_124 rfl 3 rfl ?_
            refine r_aload_n C dX9_tellMacro_125 rfl 1 rfl ?_
            show Jr _ _ _ _ _ _ 126 _
            refine r_getp (f := 907) (j := 43) C flX9_46 dX9_tellMacro_126 kq_23 (by decide) rfl (fun W => pt_907 kq_23 W) ?_
            refine r_iload C dX9_tellMacro_129 0 rfl ?_
            refine r_iload C dX9_tellMacro_131 4 rfl ?_
            refine r_copy (n0 := (LN j6)) (n1 := 24000) (kd := 13) (ty := .byte) C M (by decide) mlX9_496 (by decide) hj7 rfl kq_43 lq_43 dX9_tellMacro_133 h (fun q8 q9 q10 T11 h => ?_)
            refine r_aload_n C dX9_tellMacro_136 rfl 1 rfl ?_
            refine r_getp (f := 908) (j := 44) C flX9_50 dX9_tellMacro_137 kq_23 (by decide) rfl (fun W => pt_908 kq_23 W) ?_
            show Jr _ _ _ _ _ _ 140 _
            refine r_iload_n C dX9_tellMacro_140 rfl 2 rfl ?_
            refine r_iload C dX9_tellMacro_141 4 rfl ?_
            refine r_iast (n := 16) C dX9_tellMacro_143 kq_44 lq_44 h (fun j12 T14 hj13 h => ?_)
            refine r_aload_n C dX9_tellMacro_144 rfl 1 rfl ?_
            refine r_getp (f := 906) (j := 41) C flX9_43 dX9_tellMacro_145 kq_23 (by decide) rfl (fun W => pt_906 kq_23 W) ?_
            refine r_iload_n C dX9_tellMacro_148 rfl 2 rfl ?_
            show Jr _ _ _ _ _ _ 149 _
            refine r_callVN C M h [.int a1] [] mlX9_502 mcX8_put (fun q9 e9 => s_X8_put 41 a1 kq_41 e9) kq_41 rfl (by decide) (by decide) rfl rfl (Nat.le_of_ble_eq_true rfl) dX9_tellMacro_149 (fun _ T15 h => ?_)
            exact r_vret C M dX9_tellMacro_152 h
    · exact r_vret C M dX9_tellMacro_83 h
noncomputable def f_X9_tellMacro_35 (a1 : Int32) (a2 : Int32) (a3 : Int32) (T : Mm) : Option (Unit × Mm) :=
  lb ((a3 - a2)) fun v1 =>
  rf true (gR T 913 23) 5 fun j2 =>
  lb (uI T 506 j2 1) fun T4 =>
  rf true (gR T4 913 23) 5 fun j5 =>
  if (gI T4 502 j5) ≤ a3 then (f_X9_tellMacro_69 a1 a2 v1 v1 T4)
  else (f_X9_tellMacro_69 a1 a2 v1 (v1 + 5) T4)
set_option maxRecDepth 100000 in
set_option maxHeartbeats 4000000 in
theorem s_X9_tellMacro_35 {x : JX} {ad : Nat → Nat} {U : Mm} {S0 : Hp} {q : Unit × Mm}  (hn9 : x_n x = 6) (C : CB x RX9 cX9_tellMacro) (M : CMr x 3 none S0 ad true U eV q) (a1 : Int32) (a2 : Int32) (a3 : Int32) (T : Mm) (h : f_X9_tellMacro_35  a1 a2 a3 T = some q) : Jr x ad true U T [(0, .ref (ad 23)), (1, .int a1), (2, .int a2), (3, .int a3)] 35 [] := by
  unfold f_X9_tellMacro_35 at h
  refine r_iload_n C dX9_tellMacro_35 rfl 3 rfl ?_
  refine r_iload_n C dX9_tellMacro_36 rfl 2 rfl ?_
  refine r_isub C dX9_tellMacro_37 rfl ?_
  refine r_lbI h (fun v1 h => ?_)
  refine r_istore (lv' := [(4, .int v1), (0, .ref (ad 23)), (1, .int a1), (2, .int a2), (3, .int a3)]) C dX9_tellMacro_38 (by rw [hn9]; decide) rfl ?_
  refine r_aload_n C dX9_tellMacro_40 rfl 1 rfl ?_
  show Jr _ _ _ _ _ _ 41 _
  refine r_getr (f := 913) (c := 5) C flX9_82 dX9_tellMacro_41 kq_23 (by decide) rfl h (fun j2 hj3 h => ?_)
  refine r_iconst (v := 1) C dX9_tellMacro_44 (by decide) ?_
  refine r_putz (f := 506) C flX9_230 (by decide) rfl rfl (by decide) dX9_tellMacro_45 hj3 rfl h (fun T4 h => ?_)
  refine r_aload_n C dX9_tellMacro_48 rfl 1 rfl ?_
  refine r_iload_n C dX9_tellMacro_49 rfl 4 rfl ?_
  refine r_aload_n C dX9_tellMacro_50 rfl 1 rfl ?_
  show Jr _ _ _ _ _ _ 51 _
  refine r_getr (f := 913) (c := 5) C flX9_82 dX9_tellMacro_51 kq_23 (by decide) rfl h (fun j5 hj6 h => ?_)
  refine r_geti (f := 502) C flX9_336 dX9_tellMacro_54 hj6 (by decide) (by decide) rfl ?_
  refine r_ic_ge (tgt := 67) C dX9_tellMacro_57 (by decide) h (fun h => ?_) (fun h => ?_)
  · refine r_iload C dX9_tellMacro_67 0 rfl ?_
    refine Jr.sub [1, 2, 3, 0] (lv' := [(0, .ref (ad 23)), (1, .int a1), (2, .int a2), (4, .int v1)]) rfl ?_
    exact s_X9_tellMacro_69 hn9 C M  a1 a2 v1 v1 T4 h
  · refine r_iload C dX9_tellMacro_60 0 rfl ?_
    refine r_iconst (v := 5) C dX9_tellMacro_62 (by decide) ?_
    refine r_iadd C dX9_tellMacro_63 rfl ?_
    refine r_goto (tgt := 69) C dX9_tellMacro_64 (by decide) ?_
    refine Jr.sub [1, 2, 3, 0] (lv' := [(0, .ref (ad 23)), (1, .int a1), (2, .int a2), (4, .int v1)]) rfl ?_
    exact s_X9_tellMacro_69 hn9 C M  a1 a2 v1 (v1 + 5) T4 h
noncomputable def f_X9_tellMacro_b10 (k10 : Int32 → Int32 → Int32 → Mm → Option (Unit × Mm)) (a1 : Int32) (a2 : Int32) (a3 : Int32) (T : Mm) : Option (Unit × Mm) :=
  rf true (gR T 913 23) 5 fun j1 =>
  if (gI T 502 j1) ≤ a3 then (f_X9_tellMacro_35 a1 a2 a3 T)
  else (bd (f_X9_isMacroEnd a3 T) fun v3 T4 =>
  if v3 = 0 then (k10 a1 a2 (a3 + 1) T4)
  else (f_X9_tellMacro_35 a1 a2 a3 T4))
set_option maxRecDepth 100000 in
set_option maxHeartbeats 4000000 in
theorem s_X9_tellMacro_b10 {x : JX} {ad : Nat → Nat} {U : Mm} {S0 : Hp} {q : Unit × Mm}  {k10 : Int32 → Int32 → Int32 → Mm → Option (Unit × Mm)} (hn9 : x_n x = 6) (C : CB x RX9 cX9_tellMacro) (M : CMr x 3 none S0 ad true U eV q) (hk10 : ∀ (a1 : Int32) (a2 : Int32) (a3 : Int32) (T : Mm), k10 a1 a2 a3 T = some q → Jr x ad true U T [(0, .ref (ad 23)), (1, .int a1), (2, .int a2), (3, .int a3)] 10 []) (a1 : Int32) (a2 : Int32) (a3 : Int32) (T : Mm) (h : f_X9_tellMacro_b10 k10 a1 a2 a3 T = some q) : Jr x ad true U T [(0, .ref (ad 23)), (1, .int a1), (2, .int a2), (3, .int a3)] 10 [] := by
  unfold f_X9_tellMacro_b10 at h
  refine r_iload_n C dX9_tellMacro_10 rfl 3 rfl ?_
  refine r_aload_n C dX9_tellMacro_11 rfl 0 rfl ?_
  refine r_getr (f := 913) (c := 5) C flX9_82 dX9_tellMacro_12 kq_23 (by decide) rfl h (fun j1 hj2 h => ?_)
  refine r_geti (f := 502) C flX9_336 dX9_tellMacro_15 hj2 (by decide) (by decide) rfl ?_
  refine r_ic_ge (tgt := 35) C dX9_tellMacro_18 (by decide) h (fun h => ?_) (fun h => ?_)
  · exact s_X9_tellMacro_35 hn9 C M  a1 a2 a3 T h
  · refine r_aload_n C dX9_tellMacro_21 rfl 0 rfl ?_
    refine r_iload_n C dX9_tellMacro_22 rfl 3 rfl ?_
    refine r_callVI C M h [.int a3] [] mlX9_490 mcX9_isMacroEnd (fun q9 e9 => s_X9_isMacroEnd a3  e9) kq_23 rfl (by decide) (by decide) rfl rfl (Nat.le_of_ble_eq_true rfl) dX9_tellMacro_23 (fun v3 T4 h => ?_)
    refine r_if_ne (tgt := 35) C dX9_tellMacro_26 (by decide) h (fun h => ?_) (fun h => ?_)
    · exact s_X9_tellMacro_35 hn9 C M  a1 a2 a3 T4 h
    · refine r_iinc (q := 3) (v := (a3 + 1)) (lv' := [(3, .int (a3 + 1)), (0, .ref (ad 23)), (1, .int a1), (2, .int a2)]) C dX9_tellMacro_29 rfl (by rw [show Int32.ofInt (1) = 1 by decide]) (by rw [hn9]; decide) rfl ?_
      refine r_goto (tgt := 10) C dX9_tellMacro_32 (by decide) ?_
      refine Jr.sub [1, 2, 3, 0] (lv' := [(0, .ref (ad 23)), (1, .int a1), (2, .int a2), (3, .int (a3 + 1))]) rfl ?_
      exact hk10 a1 a2 (a3 + 1) T4 h
noncomputable def f_X9_tellMacro_l10 (n : Nat) : Int32 → Int32 → Int32 → Mm → Option (Unit × Mm) := Nat.rec (fun _ _ _ _ => none) (fun _ ih => f_X9_tellMacro_b10 ih) n
theorem s_X9_tellMacro_l10 {x : JX} {ad : Nat → Nat} {U : Mm} {S0 : Hp} {q : Unit × Mm}  (hn9 : x_n x = 6) (C : CB x RX9 cX9_tellMacro) (M : CMr x 3 none S0 ad true U eV q) : ∀ (n : Nat), ∀ (a1 : Int32) (a2 : Int32) (a3 : Int32) (T : Mm), f_X9_tellMacro_l10  n a1 a2 a3 T = some q → Jr x ad true U T [(0, .ref (ad 23)), (1, .int a1), (2, .int a2), (3, .int a3)] 10 [] := by
  intro n
  induction n with
  | zero => intro a1 a2 a3 T  h; exact absurd h (by intro h; cases h)
  | succ n ih => exact fun a1 a2 a3 T  h => s_X9_tellMacro_b10 hn9 C M (ih) a1 a2 a3 T  h
noncomputable def f_X9_tellMacro (p1 : Int32) (T : Mm) : Option (Unit × Mm) :=
  rf true (gR T 913 23) 5 fun j1 =>
  lb ((gI T 501 j1)) fun v3 =>
  f_X9_tellMacro_l10 FU p1 v3 v3 T
set_option maxRecDepth 100000 in
set_option maxHeartbeats 4000000 in
theorem s_X9_tellMacro {ad : Nat → Nat} {U T : Mm} {q : Unit × Mm}  (p1 : Int32) (h : f_X9_tellMacro p1 T = some q) : Cr 3 yX9_tellMacro cX9_tellMacro 6 none [.ref (ad 23), .int p1] ad true U T eV q := by
  refine cr_of (by decide) (Nat.le_of_ble_eq_true rfl) fun x S0 hn9 C M => ?_
  have C : CB x RX9 cX9_tellMacro := C
  refine Jr.eq (lv' := [(0, .ref (ad 23)), (1, .int p1)]) (st' := []) rfl rfl ?_
  unfold f_X9_tellMacro at h
  refine r_aload_n C dX9_tellMacro_0 rfl 0 rfl ?_
  refine r_getr (f := 913) (c := 5) C flX9_82 dX9_tellMacro_1 kq_23 (by decide) rfl h (fun j1 hj2 h => ?_)
  refine r_geti (f := 501) C flX9_201 dX9_tellMacro_4 hj2 (by decide) (by decide) rfl ?_
  refine r_lbI h (fun v3 h => ?_)
  refine r_istore_n (lv' := [(2, .int v3), (0, .ref (ad 23)), (1, .int p1)]) C dX9_tellMacro_7 rfl (by rw [hn9]; decide) rfl ?_
  refine r_iload_n C dX9_tellMacro_8 rfl 0 rfl ?_
  show Jr _ _ _ _ _ _ 9 _
  refine r_istore_n (lv' := [(3, .int v3), (2, .int v3), (0, .ref (ad 23)), (1, .int p1)]) C dX9_tellMacro_9 rfl (by rw [hn9]; decide) rfl ?_
  refine Jr.sub [2, 3, 1, 0] (lv' := [(0, .ref (ad 23)), (1, .int p1), (2, .int v3), (3, .int v3)]) rfl ?_
  exact s_X9_tellMacro_l10 hn9 C M  FU p1 v3 v3 T h
theorem dX9_callMacro_0 : decode cX9_callMacro 0 = .ok (.aload_n 0, 1) := by decide +kernel
theorem dX9_callMacro_1 : decode cX9_callMacro 1 = .ok (.getfield 108, 3) := by decide +kernel
theorem dX9_callMacro_4 : decode cX9_callMacro 4 = .ok (.ifCond .lt 27, 3) := by decide +kernel
theorem dX9_callMacro_7 : decode cX9_callMacro 7 = .ok (.aload_n 0, 1) := by decide +kernel
theorem dX9_callMacro_8 : decode cX9_callMacro 8 = .ok (.getfield 108, 3) := by decide +kernel
theorem dX9_callMacro_11 : decode cX9_callMacro 11 = .ok (.aload_n 0, 1) := by decide +kernel
theorem dX9_callMacro_12 : decode cX9_callMacro 12 = .ok (.getfield 64, 3) := by decide +kernel
theorem dX9_callMacro_15 : decode cX9_callMacro 15 = .ok (.arraylength, 1) := by decide +kernel
theorem dX9_callMacro_16 : decode cX9_callMacro 16 = .ok (.if_icmp .ge 15, 3) := by decide +kernel
theorem dX9_callMacro_19 : decode cX9_callMacro 19 = .ok (.aload_n 0, 1) := by decide +kernel
theorem dX9_callMacro_20 : decode cX9_callMacro 20 = .ok (.getfield 64, 3) := by decide +kernel
theorem dX9_callMacro_23 : decode cX9_callMacro 23 = .ok (.aload_n 0, 1) := by decide +kernel
theorem dX9_callMacro_24 : decode cX9_callMacro 24 = .ok (.getfield 108, 3) := by decide +kernel
theorem dX9_callMacro_27 : decode cX9_callMacro 27 = .ok (.aaload, 1) := by decide +kernel
theorem dX9_callMacro_28 : decode cX9_callMacro 28 = .ok (.ifnonnull 4, 3) := by decide +kernel
theorem dX9_callMacro_31 : decode cX9_callMacro 31 = .ok (.return_, 1) := by decide +kernel
theorem dX9_callMacro_32 : decode cX9_callMacro 32 = .ok (.aload_n 0, 1) := by decide +kernel
theorem dX9_callMacro_33 : decode cX9_callMacro 33 = .ok (.getfield 64, 3) := by decide +kernel
theorem dX9_callMacro_36 : decode cX9_callMacro 36 = .ok (.aload_n 0, 1) := by decide +kernel
theorem dX9_callMacro_37 : decode cX9_callMacro 37 = .ok (.getfield 108, 3) := by decide +kernel
theorem dX9_callMacro_40 : decode cX9_callMacro 40 = .ok (.aaload, 1) := by decide +kernel
theorem dX9_callMacro_41 : decode cX9_callMacro 41 = .ok (.astore_n 2, 1) := by decide +kernel
theorem dX9_callMacro_42 : decode cX9_callMacro 42 = .ok (.aload_n 2, 1) := by decide +kernel
theorem dX9_callMacro_43 : decode cX9_callMacro 43 = .ok (.aload_n 0, 1) := by decide +kernel
theorem dX9_callMacro_44 : decode cX9_callMacro 44 = .ok (.getfield 57, 3) := by decide +kernel
theorem dX9_callMacro_47 : decode cX9_callMacro 47 = .ok (.invokevirtual 233, 3) := by decide +kernel
theorem dX9_callMacro_50 : decode cX9_callMacro 50 = .ok (.aload_n 0, 1) := by decide +kernel
theorem dX9_callMacro_51 : decode cX9_callMacro 51 = .ok (.iload_n 1, 1) := by decide +kernel
theorem dX9_callMacro_52 : decode cX9_callMacro 52 = .ok (.invokevirtual 237, 3) := by decide +kernel
theorem dX9_callMacro_55 : decode cX9_callMacro 55 = .ok (.aload_n 0, 1) := by decide +kernel
theorem dX9_callMacro_56 : decode cX9_callMacro 56 = .ok (.getfield 57, 3) := by decide +kernel
theorem dX9_callMacro_59 : decode cX9_callMacro 59 = .ok (.getfield 129, 3) := by decide +kernel
theorem dX9_callMacro_62 : decode cX9_callMacro 62 = .ok (.getfield 167, 3) := by decide +kernel
theorem dX9_callMacro_65 : decode cX9_callMacro 65 = .ok (.aload_n 2, 1) := by decide +kernel
theorem dX9_callMacro_66 : decode cX9_callMacro 66 = .ok (.getfield 129, 3) := by decide +kernel
theorem dX9_callMacro_69 : decode cX9_callMacro 69 = .ok (.getfield 167, 3) := by decide +kernel
theorem dX9_callMacro_72 : decode cX9_callMacro 72 = .ok (.if_icmp .ne 23, 3) := by decide +kernel
theorem dX9_callMacro_75 : decode cX9_callMacro 75 = .ok (.aload_n 0, 1) := by decide +kernel
theorem dX9_callMacro_76 : decode cX9_callMacro 76 = .ok (.getfield 57, 3) := by decide +kernel
theorem dX9_callMacro_79 : decode cX9_callMacro 79 = .ok (.getfield 129, 3) := by decide +kernel
theorem dX9_callMacro_82 : decode cX9_callMacro 82 = .ok (.getfield 170, 3) := by decide +kernel
theorem dX9_callMacro_85 : decode cX9_callMacro 85 = .ok (.aload_n 2, 1) := by decide +kernel
theorem dX9_callMacro_86 : decode cX9_callMacro 86 = .ok (.getfield 129, 3) := by decide +kernel
theorem dX9_callMacro_89 : decode cX9_callMacro 89 = .ok (.getfield 170, 3) := by decide +kernel
theorem dX9_callMacro_92 : decode cX9_callMacro 92 = .ok (.if_icmp .eq 7, 3) := by decide +kernel
theorem dX9_callMacro_95 : decode cX9_callMacro 95 = .ok (.iconst 1, 1) := by decide +kernel
theorem dX9_callMacro_96 : decode cX9_callMacro 96 = .ok (.goto 4, 3) := by decide +kernel
theorem dX9_callMacro_99 : decode cX9_callMacro 99 = .ok (.iconst 0, 1) := by decide +kernel
theorem dX9_callMacro_100 : decode cX9_callMacro 100 = .ok (.istore_n 3, 1) := by decide +kernel
theorem dX9_callMacro_101 : decode cX9_callMacro 101 = .ok (.iload_n 3, 1) := by decide +kernel
theorem dX9_callMacro_102 : decode cX9_callMacro 102 = .ok (.ifCond .eq 7, 3) := by decide +kernel
theorem dX9_callMacro_105 : decode cX9_callMacro 105 = .ok (.aload_n 0, 1) := by decide +kernel
theorem dX9_callMacro_106 : decode cX9_callMacro 106 = .ok (.invokevirtual 240, 3) := by decide +kernel
theorem dX9_callMacro_109 : decode cX9_callMacro 109 = .ok (.aload_n 0, 1) := by decide +kernel
theorem dX9_callMacro_110 : decode cX9_callMacro 110 = .ok (.getfield 57, 3) := by decide +kernel
theorem dX9_callMacro_113 : decode cX9_callMacro 113 = .ok (.aload_n 2, 1) := by decide +kernel
theorem dX9_callMacro_114 : decode cX9_callMacro 114 = .ok (.invokevirtual 233, 3) := by decide +kernel
theorem dX9_callMacro_117 : decode cX9_callMacro 117 = .ok (.return_, 1) := by decide +kernel
noncomputable def f_X9_callMacro_100 (G : Int32 → Mm → Option (Unit × Mm)) (a2 : Nat) (b0 : Int32) (T : Mm) : Option (Unit × Mm) :=
  if b0 = 0 then (bd (f_X1_copy 45 a2 T) fun _ T1 =>
  some ((), T1))
  else (bd (f_X9_eject G T) fun _ T2 =>
  bd (f_X1_copy 45 a2 T2) fun _ T3 =>
  some ((), T3))
set_option maxRecDepth 100000 in
set_option maxHeartbeats 4000000 in
theorem s_X9_callMacro_100 {x : JX} {ad : Nat → Nat} {U : Mm} {S0 : Hp} {q : Unit × Mm} {D : Nat} {G : Int32 → Mm → Option (Unit × Mm)}  (hn9 : x_n x = 4) (C : CB x RX9 cX9_callMacro) (M : CMr x (D + 2) none S0 ad true U eV q) (hD : 40 ≤ D) (hG : ∀ (i : Int32) (T : Mm) (q : Unit × Mm), G i T = some q → Cr D yX9_goMacro cX9_goMacro 3 none [.ref (ad 23), .int i] ad true U T eV q) (a2 : Nat) (b0 : Int32) (T : Mm) (ha2 : kS true a2 = 1) (h : f_X9_callMacro_100 G  a2 b0 T = some q) : Jr x ad true U T [(0, .ref (ad 23)), (2, .ref (ad a2))] 100 [.int b0] := by
  unfold f_X9_callMacro_100 at h
  refine r_istore_n (lv' := [(3, .int b0), (0, .ref (ad 23)), (2, .ref (ad a2))]) C dX9_callMacro_100 rfl (by rw [hn9]; decide) rfl ?_
  refine r_iload_n C dX9_callMacro_101 rfl 0 rfl ?_
  refine r_if_eq (tgt := 109) C dX9_callMacro_102 (by decide) h (fun h => ?_) (fun h => ?_)
  · refine r_aload_n C dX9_callMacro_109 rfl 1 rfl ?_
    refine r_getp (f := 909) (j := 45) C flX9_57 dX9_callMacro_110 kq_23 (by decide) rfl (fun W => pt_909 kq_23 W) ?_
    refine r_aload_n C dX9_callMacro_113 rfl 2 rfl ?_
    refine r_callVN C M h [.ref (ad a2)] [] mlX9_233 mcX1_copy (fun q9 e9 => s_X1_copy 45 a2 kq_45 ha2 e9) kq_45 rfl (by omega) (by decide) rfl rfl (Nat.le_of_ble_eq_true rfl) dX9_callMacro_114 (fun _ T1 h => ?_)
    exact r_vret C M dX9_callMacro_117 h
  · refine r_aload_n C dX9_callMacro_105 rfl 1 rfl ?_
    refine r_callVN C M h [] [] mlX9_240 mcX9_eject (fun q9 e9 => s_X9_eject hD (fun i9 T9 q9 e9 => hG i9 T9 q9 e9)   e9) kq_23 rfl (by omega) (by decide) rfl rfl (Nat.le_of_ble_eq_true rfl) dX9_callMacro_106 (fun _ T2 h => ?_)
    refine r_aload_n C dX9_callMacro_109 rfl 1 rfl ?_
    refine r_getp (f := 909) (j := 45) C flX9_57 dX9_callMacro_110 kq_23 (by decide) rfl (fun W => pt_909 kq_23 W) ?_
    refine r_aload_n C dX9_callMacro_113 rfl 2 rfl ?_
    show Jr _ _ _ _ _ _ 114 _
    refine r_callVN C M h [.ref (ad a2)] [] mlX9_233 mcX1_copy (fun q9 e9 => s_X1_copy 45 a2 kq_45 ha2 e9) kq_45 rfl (by omega) (by decide) rfl rfl (Nat.le_of_ble_eq_true rfl) dX9_callMacro_114 (fun _ T3 h => ?_)
    exact r_vret C M dX9_callMacro_117 h
noncomputable def f_X9_callMacro (G : Int32 → Mm → Option (Unit × Mm)) (p1 : Int32) (T : Mm) : Option (Unit × Mm) :=
  if (gI T 914 23) < 0 then (some ((), T))
  else (if 3 ≤ (gI T 914 23) then (some ((), T))
  else (ix (gI T 914 23) 3 fun j1 =>
  ix (gI T 914 23) 3 fun j3 =>
  bd (f_X1_copy (98 + 9 * j3) 45 T) fun _ T5 =>
  bd (G p1 T5) fun _ T6 =>
  if (gI T6 700 46) = (gI T6 700 ((98 + 9 * j3) + 1)) then (if (gI T6 701 46) = (gI T6 701 ((98 + 9 * j3) + 1)) then (f_X9_callMacro_100 G (98 + 9 * j3) 0 T6)
  else (f_X9_callMacro_100 G (98 + 9 * j3) 1 T6))
  else (f_X9_callMacro_100 G (98 + 9 * j3) 1 T6)))
set_option maxRecDepth 100000 in
set_option maxHeartbeats 4000000 in
theorem s_X9_callMacro {ad : Nat → Nat} {U T : Mm} {q : Unit × Mm} {D : Nat} {G : Int32 → Mm → Option (Unit × Mm)}  (hD : 40 ≤ D) (hG : ∀ (i : Int32) (T : Mm) (q : Unit × Mm), G i T = some q → Cr D yX9_goMacro cX9_goMacro 3 none [.ref (ad 23), .int i] ad true U T eV q) (p1 : Int32) (h : f_X9_callMacro G p1 T = some q) : Cr (D + 2) yX9_callMacro cX9_callMacro 4 none [.ref (ad 23), .int p1] ad true U T eV q := by
  refine cr_of (by decide) (Nat.le_of_ble_eq_true rfl) fun x S0 hn9 C M => ?_
  have C : CB x RX9 cX9_callMacro := C
  refine Jr.eq (lv' := [(0, .ref (ad 23)), (1, .int p1)]) (st' := []) rfl rfl ?_
  unfold f_X9_callMacro at h
  refine r_aload_n C dX9_callMacro_0 rfl 0 rfl ?_
  refine r_geti (f := 914) C flX9_108 dX9_callMacro_1 kq_23 (by decide) (by decide) rfl ?_
  refine r_if_lt (tgt := 31) C dX9_callMacro_4 (by decide) h (fun h => ?_) (fun h => ?_)
  · exact r_vret C M dX9_callMacro_31 h
  · refine r_aload_n C dX9_callMacro_7 rfl 0 rfl ?_
    refine r_geti (f := 914) C flX9_108 dX9_callMacro_8 kq_23 (by decide) (by decide) rfl ?_
    refine r_aload_n C dX9_callMacro_11 rfl 0 rfl ?_
    refine r_getp (f := 911) (j := 63) C flX9_64 dX9_callMacro_12 kq_23 (by decide) rfl (fun W => pt_911 kq_23 W) ?_
    refine r_alen (n := 0) (v := 3) C dX9_callMacro_15 kq_63 (by decide) (by decide) (congrArg Int32.ofNat lq_63) ?_
    show Jr _ _ _ _ _ _ 16 _
    refine r_ic_ge (tgt := 31) C dX9_callMacro_16 (by decide) h (fun h => ?_) (fun h => ?_)
    · exact r_vret C M dX9_callMacro_31 h
    · refine r_aload_n C dX9_callMacro_19 rfl 0 rfl ?_
      refine r_getp (f := 911) (j := 63) C flX9_64 dX9_callMacro_20 kq_23 (by decide) rfl (fun W => pt_911 kq_23 W) ?_
      refine r_aload_n C dX9_callMacro_23 rfl 0 rfl ?_
      refine r_geti (f := 914) C flX9_108 dX9_callMacro_24 kq_23 (by decide) (by decide) rfl ?_
      refine r_aald (n := 3) (t := fun j9 => (98 + 9 * j9)) C 18 (by decide) rfl dX9_callMacro_27 kq_63 lq_63 (fun hj W => pe_63 hj W) h (fun j1 hj2 h => ?_)
      refine Jr.eq (lv' := [(0, .ref (ad 23)), (1, .int p1)]) (st' := [.ref (ad (98 + 9 * j1))]) rfl rfl ?_
      show Jr _ _ _ _ _ _ 28 _
      refine r_ifnonnull (tgt := 32) C dX9_callMacro_28 (by decide) ?_
      refine r_aload_n C dX9_callMacro_32 rfl 0 rfl ?_
      refine r_getp (f := 911) (j := 63) C flX9_64 dX9_callMacro_33 kq_23 (by decide) rfl (fun W => pt_911 kq_23 W) ?_
      refine r_aload_n C dX9_callMacro_36 rfl 0 rfl ?_
      refine r_geti (f := 914) C flX9_108 dX9_callMacro_37 kq_23 (by decide) (by decide) rfl ?_
      refine r_aald (n := 3) (t := fun j9 => (98 + 9 * j9)) C 18 (by decide) rfl dX9_callMacro_40 kq_63 lq_63 (fun hj W => pe_63 hj W) h (fun j3 hj4 h => ?_)
      refine Jr.eq (lv' := [(0, .ref (ad 23)), (1, .int p1)]) (st' := [.ref (ad (98 + 9 * j3))]) rfl rfl ?_
      show Jr _ _ _ _ _ _ 41 _
      refine r_astore_n (lv' := [(2, .ref (ad (98 + 9 * j3))), (0, .ref (ad 23)), (1, .int p1)]) C dX9_callMacro_41 rfl (by rw [hn9]; decide) rfl ?_
      refine r_aload_n C dX9_callMacro_42 rfl 0 rfl ?_
      refine r_aload_n C dX9_callMacro_43 rfl 1 rfl ?_
      refine r_getp (f := 909) (j := 45) C flX9_57 dX9_callMacro_44 kq_23 (by decide) rfl (fun W => pt_909 kq_23 W) ?_
      refine r_callVN C M h [.ref (ad 45)] [] mlX9_233 mcX1_copy (fun q9 e9 => s_X1_copy (98 + 9 * j3) 45 (pek_63 hj4) kq_45 e9) (pek_63 hj4) rfl (by omega) (by decide) rfl rfl (Nat.le_of_ble_eq_true rfl) dX9_callMacro_47 (fun _ T5 h => ?_)
      refine r_aload_n C dX9_callMacro_50 rfl 1 rfl ?_
      show Jr _ _ _ _ _ _ 51 _
      refine r_iload_n C dX9_callMacro_51 rfl 2 rfl ?_
      refine r_callVN C M h [.int p1] [] mlX9_237 mcX9_goMacro (fun q9 e9 => hG p1 _ q9 e9) kq_23 rfl (by omega) (by decide) rfl rfl (Nat.le_of_ble_eq_true rfl) dX9_callMacro_52 (fun _ T6 h => ?_)
      refine r_aload_n C dX9_callMacro_55 rfl 1 rfl ?_
      refine r_getp (f := 909) (j := 45) C flX9_57 dX9_callMacro_56 kq_23 (by decide) rfl (fun W => pt_909 kq_23 W) ?_
      refine r_getp (f := 100) (j := 46) C flX9_129 dX9_callMacro_59 kq_45 (by decide) rfl (fun W => pt_100 kq_45 W) ?_
      refine r_geti (f := 700) C flX9_167 dX9_callMacro_62 kq_46 (by decide) (by decide) rfl ?_
      show Jr _ _ _ _ _ _ 65 _
      refine r_aload_n C dX9_callMacro_65 rfl 0 rfl ?_
      refine r_getp (f := 100) (j := ((98 + 9 * j3) + 1)) C flX9_129 dX9_callMacro_66 (pek_63 hj4) (by decide) rfl (fun W => pt_100 (pek_63 hj4) W) ?_
      refine r_geti (f := 700) C flX9_167 dX9_callMacro_69 (pk_100 (pek_63 hj4)) (by decide) (by decide) rfl ?_
      refine r_ic_ne (tgt := 95) C dX9_callMacro_72 (by decide) h (fun h => ?_) (fun h => ?_)
      · refine r_iconst (v := 1) C dX9_callMacro_95 (by decide) ?_
        refine r_goto (tgt := 100) C dX9_callMacro_96 (by decide) ?_
        refine Jr.sub [1, 0] (lv' := [(0, .ref (ad 23)), (2, .ref (ad (98 + 9 * j3)))]) rfl ?_
        exact s_X9_callMacro_100 hn9 C M hD hG  (98 + 9 * j3) 1 T6 (pek_63 hj4) h
      · refine r_aload_n C dX9_callMacro_75 rfl 1 rfl ?_
        refine r_getp (f := 909) (j := 45) C flX9_57 dX9_callMacro_76 kq_23 (by decide) rfl (fun W => pt_909 kq_23 W) ?_
        refine r_getp (f := 100) (j := 46) C flX9_129 dX9_callMacro_79 kq_45 (by decide) rfl (fun W => pt_100 kq_45 W) ?_
        refine r_geti (f := 701) C flX9_170 dX9_callMacro_82 kq_46 (by decide) (by decide) rfl ?_
        refine r_aload_n C dX9_callMacro_85 rfl 0 rfl ?_
        show Jr _ _ _ _ _ _ 86 _
        refine r_getp (f := 100) (j := ((98 + 9 * j3) + 1)) C flX9_129 dX9_callMacro_86 (pek_63 hj4) (by decide) rfl (fun W => pt_100 (pek_63 hj4) W) ?_
        refine r_geti (f := 701) C flX9_170 dX9_callMacro_89 (pk_100 (pek_63 hj4)) (by decide) (by decide) rfl ?_
        refine r_ic_eq (tgt := 99) C dX9_callMacro_92 (by decide) h (fun h => ?_) (fun h => ?_)
        · refine r_iconst (v := 0) C dX9_callMacro_99 (by decide) ?_
          refine Jr.sub [1, 0] (lv' := [(0, .ref (ad 23)), (2, .ref (ad (98 + 9 * j3)))]) rfl ?_
          exact s_X9_callMacro_100 hn9 C M hD hG  (98 + 9 * j3) 0 T6 (pek_63 hj4) h
        · refine r_iconst (v := 1) C dX9_callMacro_95 (by decide) ?_
          refine r_goto (tgt := 100) C dX9_callMacro_96 (by decide) ?_
          refine Jr.sub [1, 0] (lv' := [(0, .ref (ad 23)), (2, .ref (ad (98 + 9 * j3)))]) rfl ?_
          exact s_X9_callMacro_100 hn9 C M hD hG  (98 + 9 * j3) 1 T6 (pek_63 hj4) h
theorem dX8_mark_0 : decode cX8_mark 0 = .ok (.aload_n 0, 1) := by decide +kernel
theorem dX8_mark_1 : decode cX8_mark 1 = .ok (.iload_n 1, 1) := by decide +kernel
theorem dX8_mark_2 : decode cX8_mark 2 = .ok (.invokevirtual 13, 3) := by decide +kernel
theorem dX8_mark_5 : decode cX8_mark 5 = .ok (.ifCond .eq 18, 3) := by decide +kernel
theorem dX8_mark_8 : decode cX8_mark 8 = .ok (.aload_n 0, 1) := by decide +kernel
theorem dX8_mark_9 : decode cX8_mark 9 = .ok (.getfield 9, 3) := by decide +kernel
theorem dX8_mark_12 : decode cX8_mark 12 = .ok (.iload_n 1, 1) := by decide +kernel
theorem dX8_mark_13 : decode cX8_mark 13 = .ok (.iload_n 2, 1) := by decide +kernel
theorem dX8_mark_14 : decode cX8_mark 14 = .ok (.ifCond .eq 7, 3) := by decide +kernel
theorem dX8_mark_17 : decode cX8_mark 17 = .ok (.iconst 1, 1) := by decide +kernel
theorem dX8_mark_18 : decode cX8_mark 18 = .ok (.goto 4, 3) := by decide +kernel
theorem dX8_mark_21 : decode cX8_mark 21 = .ok (.iconst 2, 1) := by decide +kernel
theorem dX8_mark_22 : decode cX8_mark 22 = .ok (.iastore, 1) := by decide +kernel
theorem dX8_mark_23 : decode cX8_mark 23 = .ok (.return_, 1) := by decide +kernel
noncomputable def f_X8_mark (p0 : Nat) (p1 : Int32) (p2 : Int32) (T : Mm) : Option (Unit × Mm) :=
  bd (f_X8_has p0 p1 T) fun v1 T2 =>
  if v1 = 0 then (some ((), T2))
  else (if p2 = 0 then (ix p1 16 fun j3 => lb (uA T2 (p0 + 1) j3 (2)) fun T5 =>
  some ((), T5))
  else (ix p1 16 fun j6 => lb (uA T2 (p0 + 1) j6 (1)) fun T8 =>
  some ((), T8)))
set_option maxRecDepth 100000 in
set_option maxHeartbeats 4000000 in
theorem s_X8_mark {ad : Nat → Nat} {U T : Mm} {q : Unit × Mm}  (p0 : Nat) (p1 : Int32) (p2 : Int32) (hk0 : kS true p0 = 8) (h : f_X8_mark p0 p1 p2 T = some q) : Cr 2 yX8_mark cX8_mark 3 none [.ref (ad p0), .int p1, .int p2] ad true U T eV q := by
  refine cr_of (by decide) (Nat.le_of_ble_eq_true rfl) fun x S0 hn9 C M => ?_
  have C : CB x RX8 cX8_mark := C
  refine Jr.eq (lv' := [(0, .ref (ad p0)), (1, .int p1), (2, .int p2)]) (st' := []) rfl rfl ?_
  unfold f_X8_mark at h
  refine r_aload_n C dX8_mark_0 rfl 0 rfl ?_
  refine r_iload_n C dX8_mark_1 rfl 1 rfl ?_
  refine r_callVI C M h [.int p1] [] mlX8_13 mcX8_has (fun q9 e9 => s_X8_has p0 p1 hk0 e9) hk0 rfl (by decide) (by decide) rfl rfl (Nat.le_of_ble_eq_true rfl) dX8_mark_2 (fun v1 T2 h => ?_)
  refine r_if_eq (tgt := 23) C dX8_mark_5 (by decide) h (fun h => ?_) (fun h => ?_)
  · exact r_vret C M dX8_mark_23 h
  · refine r_aload_n C dX8_mark_8 rfl 0 rfl ?_
    refine r_getp (f := 800) (j := (p0 + 1)) C flX8_9 dX8_mark_9 hk0 (by decide) rfl (fun W => pt_800 hk0 W) ?_
    refine r_iload_n C dX8_mark_12 rfl 1 rfl ?_
    refine r_iload_n C dX8_mark_13 rfl 2 rfl ?_
    refine r_if_eq (tgt := 21) C dX8_mark_14 (by decide) h (fun h => ?_) (fun h => ?_)
    · refine r_iconst (v := 2) C dX8_mark_21 (by decide) ?_
      refine r_iast (n := 16) C dX8_mark_22 (pk_800 hk0) (pl_800 hk0) h (fun j3 T5 hj4 h => ?_)
      exact r_vret C M dX8_mark_23 h
    · refine r_iconst (v := 1) C dX8_mark_17 (by decide) ?_
      refine r_goto (tgt := 22) C dX8_mark_18 (by decide) ?_
      refine r_iast (n := 16) C dX8_mark_22 (pk_800 hk0) (pl_800 hk0) h (fun j6 T8 hj7 h => ?_)
      exact r_vret C M dX8_mark_23 h
theorem dX9_macroTask_0 : decode cX9_macroTask 0 = .ok (.iload_n 1, 1) := by decide +kernel
theorem dX9_macroTask_1 : decode cX9_macroTask 1 = .ok (.tableswitch 202 0 10 #[59, 202, 80, 94, 108, 125, 136, 136, 157, 174, 174], 59) := by decide +kernel
theorem dX9_macroTask_60 : decode cX9_macroTask 60 = .ok (.aload_n 0, 1) := by decide +kernel
theorem dX9_macroTask_61 : decode cX9_macroTask 61 = .ok (.getfield 108, 3) := by decide +kernel
theorem dX9_macroTask_64 : decode cX9_macroTask 64 = .ok (.ifCond .ne 139, 3) := by decide +kernel
theorem dX9_macroTask_67 : decode cX9_macroTask 67 = .ok (.aload_n 0, 1) := by decide +kernel
theorem dX9_macroTask_68 : decode cX9_macroTask 68 = .ok (.aload_n 0, 1) := by decide +kernel
theorem dX9_macroTask_69 : decode cX9_macroTask 69 = .ok (.getfield 57, 3) := by decide +kernel
theorem dX9_macroTask_72 : decode cX9_macroTask 72 = .ok (.getfield 462, 3) := by decide +kernel
theorem dX9_macroTask_75 : decode cX9_macroTask 75 = .ok (.invokevirtual 474, 3) := by decide +kernel
theorem dX9_macroTask_78 : decode cX9_macroTask 78 = .ok (.goto 125, 3) := by decide +kernel
theorem dX9_macroTask_81 : decode cX9_macroTask 81 = .ok (.aload_n 0, 1) := by decide +kernel
theorem dX9_macroTask_82 : decode cX9_macroTask 82 = .ok (.aload_n 0, 1) := by decide +kernel
theorem dX9_macroTask_83 : decode cX9_macroTask 83 = .ok (.getfield 57, 3) := by decide +kernel
theorem dX9_macroTask_86 : decode cX9_macroTask 86 = .ok (.getfield 462, 3) := by decide +kernel
theorem dX9_macroTask_89 : decode cX9_macroTask 89 = .ok (.invokevirtual 237, 3) := by decide +kernel
theorem dX9_macroTask_92 : decode cX9_macroTask 92 = .ok (.goto 111, 3) := by decide +kernel
theorem dX9_macroTask_95 : decode cX9_macroTask 95 = .ok (.aload_n 0, 1) := by decide +kernel
theorem dX9_macroTask_96 : decode cX9_macroTask 96 = .ok (.aload_n 0, 1) := by decide +kernel
theorem dX9_macroTask_97 : decode cX9_macroTask 97 = .ok (.getfield 57, 3) := by decide +kernel
theorem dX9_macroTask_100 : decode cX9_macroTask 100 = .ok (.getfield 462, 3) := by decide +kernel
theorem dX9_macroTask_103 : decode cX9_macroTask 103 = .ok (.invokevirtual 477, 3) := by decide +kernel
theorem dX9_macroTask_106 : decode cX9_macroTask 106 = .ok (.goto 97, 3) := by decide +kernel
theorem dX9_macroTask_109 : decode cX9_macroTask 109 = .ok (.aload_n 0, 1) := by decide +kernel
theorem dX9_macroTask_110 : decode cX9_macroTask 110 = .ok (.getfield 57, 3) := by decide +kernel
theorem dX9_macroTask_113 : decode cX9_macroTask 113 = .ok (.aload_n 0, 1) := by decide +kernel
theorem dX9_macroTask_114 : decode cX9_macroTask 114 = .ok (.getfield 57, 3) := by decide +kernel
theorem dX9_macroTask_117 : decode cX9_macroTask 117 = .ok (.getfield 462, 3) := by decide +kernel
theorem dX9_macroTask_120 : decode cX9_macroTask 120 = .ok (.putfield 480, 3) := by decide +kernel
theorem dX9_macroTask_123 : decode cX9_macroTask 123 = .ok (.goto 80, 3) := by decide +kernel
theorem dX9_macroTask_126 : decode cX9_macroTask 126 = .ok (.aload_n 0, 1) := by decide +kernel
theorem dX9_macroTask_127 : decode cX9_macroTask 127 = .ok (.getfield 57, 3) := by decide +kernel
theorem dX9_macroTask_130 : decode cX9_macroTask 130 = .ok (.iconst (-1), 1) := by decide +kernel
theorem dX9_macroTask_131 : decode cX9_macroTask 131 = .ok (.putfield 480, 3) := by decide +kernel
theorem dX9_macroTask_134 : decode cX9_macroTask 134 = .ok (.goto 69, 3) := by decide +kernel
theorem dX9_macroTask_137 : decode cX9_macroTask 137 = .ok (.aload_n 0, 1) := by decide +kernel
theorem dX9_macroTask_138 : decode cX9_macroTask 138 = .ok (.getfield 43, 3) := by decide +kernel
theorem dX9_macroTask_141 : decode cX9_macroTask 141 = .ok (.iload_n 1, 1) := by decide +kernel
theorem dX9_macroTask_142 : decode cX9_macroTask 142 = .ok (.bipush 7, 2) := by decide +kernel
theorem dX9_macroTask_144 : decode cX9_macroTask 144 = .ok (.if_icmp .ne 7, 3) := by decide +kernel
theorem dX9_macroTask_147 : decode cX9_macroTask 147 = .ok (.iconst 1, 1) := by decide +kernel
theorem dX9_macroTask_148 : decode cX9_macroTask 148 = .ok (.goto 4, 3) := by decide +kernel
theorem dX9_macroTask_151 : decode cX9_macroTask 151 = .ok (.iconst 0, 1) := by decide +kernel
theorem dX9_macroTask_152 : decode cX9_macroTask 152 = .ok (.invokevirtual 200, 3) := by decide +kernel
theorem dX9_macroTask_155 : decode cX9_macroTask 155 = .ok (.goto 48, 3) := by decide +kernel
theorem dX9_macroTask_158 : decode cX9_macroTask 158 = .ok (.aload_n 0, 1) := by decide +kernel
theorem dX9_macroTask_159 : decode cX9_macroTask 159 = .ok (.getfield 43, 3) := by decide +kernel
theorem dX9_macroTask_162 : decode cX9_macroTask 162 = .ok (.aload_n 0, 1) := by decide +kernel
theorem dX9_macroTask_163 : decode cX9_macroTask 163 = .ok (.getfield 57, 3) := by decide +kernel
theorem dX9_macroTask_166 : decode cX9_macroTask 166 = .ok (.getfield 462, 3) := by decide +kernel
theorem dX9_macroTask_169 : decode cX9_macroTask 169 = .ok (.invokevirtual 483, 3) := by decide +kernel
theorem dX9_macroTask_172 : decode cX9_macroTask 172 = .ok (.goto 31, 3) := by decide +kernel
theorem dX9_macroTask_175 : decode cX9_macroTask 175 = .ok (.aload_n 0, 1) := by decide +kernel
theorem dX9_macroTask_176 : decode cX9_macroTask 176 = .ok (.getfield 43, 3) := by decide +kernel
theorem dX9_macroTask_179 : decode cX9_macroTask 179 = .ok (.aload_n 0, 1) := by decide +kernel
theorem dX9_macroTask_180 : decode cX9_macroTask 180 = .ok (.getfield 57, 3) := by decide +kernel
theorem dX9_macroTask_183 : decode cX9_macroTask 183 = .ok (.getfield 462, 3) := by decide +kernel
theorem dX9_macroTask_186 : decode cX9_macroTask 186 = .ok (.iload_n 1, 1) := by decide +kernel
theorem dX9_macroTask_187 : decode cX9_macroTask 187 = .ok (.bipush 9, 2) := by decide +kernel
theorem dX9_macroTask_189 : decode cX9_macroTask 189 = .ok (.if_icmp .ne 7, 3) := by decide +kernel
theorem dX9_macroTask_192 : decode cX9_macroTask 192 = .ok (.iconst 1, 1) := by decide +kernel
theorem dX9_macroTask_193 : decode cX9_macroTask 193 = .ok (.goto 4, 3) := by decide +kernel
theorem dX9_macroTask_196 : decode cX9_macroTask 196 = .ok (.iconst 0, 1) := by decide +kernel
theorem dX9_macroTask_197 : decode cX9_macroTask 197 = .ok (.invokevirtual 486, 3) := by decide +kernel
theorem dX9_macroTask_200 : decode cX9_macroTask 200 = .ok (.goto 3, 3) := by decide +kernel
theorem dX9_macroTask_203 : decode cX9_macroTask 203 = .ok (.return_, 1) := by decide +kernel
noncomputable def f_X9_macroTask (G : Int32 → Mm → Option (Unit × Mm)) (p1 : Int32) (T : Mm) : Option (Unit × Mm) :=
  if p1 = 0 then (if (gI T 914 23) = 0 then (bd (f_X9_tellMacro (gI T 119 45) T) fun _ T2 =>
  some ((), T2))
  else (some ((), T)))
  else if p1 = 1 then (some ((), T))
  else if p1 = 2 then (bd (G (gI T 119 45) T) fun _ T5 =>
  some ((), T5))
  else if p1 = 3 then (bd (f_X9_callMacro G (gI T 119 45) T) fun _ T7 =>
  some ((), T7))
  else if p1 = 4 then (lb (uI T 120 45 (gI T 119 45)) fun T9 =>
  some ((), T9))
  else if p1 = 5 then (lb (uI T 120 45 (-1)) fun T11 =>
  some ((), T11))
  else if p1 = 6 then (if p1 = 7 then (bd (f_X8_removeMany 41 1 T) fun _ T14 =>
  some ((), T14))
  else (bd (f_X8_removeMany 41 0 T) fun _ T13 =>
  some ((), T13)))
  else if p1 = 7 then (if p1 = 7 then (bd (f_X8_removeMany 41 1 T) fun _ T17 =>
  some ((), T17))
  else (bd (f_X8_removeMany 41 0 T) fun _ T16 =>
  some ((), T16)))
  else if p1 = 8 then (bd (f_X8_remove 41 (gI T 119 45) T) fun _ T19 =>
  some ((), T19))
  else if p1 = 9 then (if p1 = 9 then (bd (f_X8_mark 41 (gI T 119 45) 1 T) fun _ T22 =>
  some ((), T22))
  else (bd (f_X8_mark 41 (gI T 119 45) 0 T) fun _ T21 =>
  some ((), T21)))
  else if p1 = 10 then (if p1 = 9 then (bd (f_X8_mark 41 (gI T 119 45) 1 T) fun _ T25 =>
  some ((), T25))
  else (bd (f_X8_mark 41 (gI T 119 45) 0 T) fun _ T24 =>
  some ((), T24)))
  else (some ((), T))
set_option maxRecDepth 100000 in
set_option maxHeartbeats 4000000 in
theorem s_X9_macroTask {ad : Nat → Nat} {U T : Mm} {q : Unit × Mm} {D : Nat} {G : Int32 → Mm → Option (Unit × Mm)}  (hD : 40 ≤ D) (hG : ∀ (i : Int32) (T : Mm) (q : Unit × Mm), G i T = some q → Cr D yX9_goMacro cX9_goMacro 3 none [.ref (ad 23), .int i] ad true U T eV q) (p1 : Int32) (h : f_X9_macroTask G p1 T = some q) : Cr (D + 3) yX9_macroTask cX9_macroTask 2 none [.ref (ad 23), .int p1] ad true U T eV q := by
  refine cr_of (by decide) (Nat.le_of_ble_eq_true rfl) fun x S0 hn9 C M => ?_
  have C : CB x RX9 cX9_macroTask := C
  refine Jr.eq (lv' := [(0, .ref (ad 23)), (1, .int p1)]) (st' := []) rfl rfl ?_
  unfold f_X9_macroTask at h
  refine r_iload_n C dX9_macroTask_0 rfl 1 rfl ?_
  by_cases hs1 : p1 = 0
  · rw [if_pos hs1] at h
    refine r_top hs1 ?_
    refine r_tabIn (off := 59) (tgt := 60) C dX9_macroTask_1 (by decide) (by decide) (by decide) (by decide) ?_
    refine r_aload_n C dX9_macroTask_60 rfl 0 rfl ?_
    refine r_geti (f := 914) C flX9_108 dX9_macroTask_61 kq_23 (by decide) (by decide) rfl ?_
    refine r_if_ne (tgt := 203) C dX9_macroTask_64 (by decide) h (fun h => ?_) (fun h => ?_)
    · exact r_vret C M dX9_macroTask_203 h
    · refine r_aload_n C dX9_macroTask_67 rfl 0 rfl ?_
      refine r_aload_n C dX9_macroTask_68 rfl 0 rfl ?_
      refine r_getp (f := 909) (j := 45) C flX9_57 dX9_macroTask_69 kq_23 (by decide) rfl (fun W => pt_909 kq_23 W) ?_
      refine r_geti (f := 119) C flX9_462 dX9_macroTask_72 kq_45 (by decide) (by decide) rfl ?_
      refine r_callVN C M h [.int (gI T 119 45)] [] mlX9_474 mcX9_tellMacro (fun q9 e9 => s_X9_tellMacro (gI T 119 45)  e9) kq_23 rfl (by omega) (by decide) rfl rfl (Nat.le_of_ble_eq_true rfl) dX9_macroTask_75 (fun _ T2 h => ?_)
      show Jr _ _ _ _ _ _ 78 _
      refine r_goto (tgt := 203) C dX9_macroTask_78 (by decide) ?_
      exact r_vret C M dX9_macroTask_203 h
  rw [if_neg hs1] at h
  by_cases hs3 : p1 = 1
  · rw [if_pos hs3] at h
    refine r_top hs3 ?_
    refine r_tabIn (off := 202) (tgt := 203) C dX9_macroTask_1 (by decide) (by decide) (by decide) (by decide) ?_
    exact r_vret C M dX9_macroTask_203 h
  rw [if_neg hs3] at h
  by_cases hs4 : p1 = 2
  · rw [if_pos hs4] at h
    refine r_top hs4 ?_
    refine r_tabIn (off := 80) (tgt := 81) C dX9_macroTask_1 (by decide) (by decide) (by decide) (by decide) ?_
    refine r_aload_n C dX9_macroTask_81 rfl 0 rfl ?_
    refine r_aload_n C dX9_macroTask_82 rfl 0 rfl ?_
    refine r_getp (f := 909) (j := 45) C flX9_57 dX9_macroTask_83 kq_23 (by decide) rfl (fun W => pt_909 kq_23 W) ?_
    refine r_geti (f := 119) C flX9_462 dX9_macroTask_86 kq_45 (by decide) (by decide) rfl ?_
    refine r_callVN C M h [.int (gI T 119 45)] [] mlX9_237 mcX9_goMacro (fun q9 e9 => hG (gI T 119 45) _ q9 e9) kq_23 rfl (by omega) (by decide) rfl rfl (Nat.le_of_ble_eq_true rfl) dX9_macroTask_89 (fun _ T5 h => ?_)
    show Jr _ _ _ _ _ _ 92 _
    refine r_goto (tgt := 203) C dX9_macroTask_92 (by decide) ?_
    exact r_vret C M dX9_macroTask_203 h
  rw [if_neg hs4] at h
  by_cases hs6 : p1 = 3
  · rw [if_pos hs6] at h
    refine r_top hs6 ?_
    refine r_tabIn (off := 94) (tgt := 95) C dX9_macroTask_1 (by decide) (by decide) (by decide) (by decide) ?_
    refine r_aload_n C dX9_macroTask_95 rfl 0 rfl ?_
    refine r_aload_n C dX9_macroTask_96 rfl 0 rfl ?_
    refine r_getp (f := 909) (j := 45) C flX9_57 dX9_macroTask_97 kq_23 (by decide) rfl (fun W => pt_909 kq_23 W) ?_
    refine r_geti (f := 119) C flX9_462 dX9_macroTask_100 kq_45 (by decide) (by decide) rfl ?_
    refine r_callVN C M h [.int (gI T 119 45)] [] mlX9_477 mcX9_callMacro (fun q9 e9 => s_X9_callMacro hD (fun i9 T9 q9 e9 => hG i9 T9 q9 e9) (gI T 119 45)  e9) kq_23 rfl (by omega) (by decide) rfl rfl (Nat.le_of_ble_eq_true rfl) dX9_macroTask_103 (fun _ T7 h => ?_)
    show Jr _ _ _ _ _ _ 106 _
    refine r_goto (tgt := 203) C dX9_macroTask_106 (by decide) ?_
    exact r_vret C M dX9_macroTask_203 h
  rw [if_neg hs6] at h
  by_cases hs8 : p1 = 4
  · rw [if_pos hs8] at h
    refine r_top hs8 ?_
    refine r_tabIn (off := 108) (tgt := 109) C dX9_macroTask_1 (by decide) (by decide) (by decide) (by decide) ?_
    refine r_aload_n C dX9_macroTask_109 rfl 0 rfl ?_
    refine r_getp (f := 909) (j := 45) C flX9_57 dX9_macroTask_110 kq_23 (by decide) rfl (fun W => pt_909 kq_23 W) ?_
    refine r_aload_n C dX9_macroTask_113 rfl 0 rfl ?_
    refine r_getp (f := 909) (j := 45) C flX9_57 dX9_macroTask_114 kq_23 (by decide) rfl (fun W => pt_909 kq_23 W) ?_
    refine r_geti (f := 119) C flX9_462 dX9_macroTask_117 kq_45 (by decide) (by decide) rfl ?_
    show Jr _ _ _ _ _ _ 120 _
    refine r_puti (f := 120) C flX9_480 (by decide) rfl rfl dX9_macroTask_120 kq_45 rfl h (fun T9 h => ?_)
    refine r_goto (tgt := 203) C dX9_macroTask_123 (by decide) ?_
    exact r_vret C M dX9_macroTask_203 h
  rw [if_neg hs8] at h
  by_cases hs10 : p1 = 5
  · rw [if_pos hs10] at h
    refine r_top hs10 ?_
    refine r_tabIn (off := 125) (tgt := 126) C dX9_macroTask_1 (by decide) (by decide) (by decide) (by decide) ?_
    refine r_aload_n C dX9_macroTask_126 rfl 0 rfl ?_
    refine r_getp (f := 909) (j := 45) C flX9_57 dX9_macroTask_127 kq_23 (by decide) rfl (fun W => pt_909 kq_23 W) ?_
    refine r_iconst (v := (-1)) C dX9_macroTask_130 (by decide) ?_
    refine r_puti (f := 120) C flX9_480 (by decide) rfl rfl dX9_macroTask_131 kq_45 rfl h (fun T11 h => ?_)
    refine r_goto (tgt := 203) C dX9_macroTask_134 (by decide) ?_
    show Jr _ _ _ _ _ _ 203 _
    exact r_vret C M dX9_macroTask_203 h
  rw [if_neg hs10] at h
  by_cases hs12 : p1 = 6
  · rw [if_pos hs12] at h
    refine r_top hs12 ?_
    refine r_tabIn (off := 136) (tgt := 137) C dX9_macroTask_1 (by decide) (by decide) (by decide) (by decide) ?_
    refine r_aload_n C dX9_macroTask_137 rfl 0 rfl ?_
    refine r_getp (f := 906) (j := 41) C flX9_43 dX9_macroTask_138 kq_23 (by decide) rfl (fun W => pt_906 kq_23 W) ?_
    refine r_iload_n C dX9_macroTask_141 rfl 1 rfl ?_
    refine r_bipush (v := 7) C dX9_macroTask_142 (by decide) ?_
    refine r_ic_ne (tgt := 151) C dX9_macroTask_144 (by decide) h (fun h => ?_) (fun h => ?_)
    · refine r_iconst (v := 0) C dX9_macroTask_151 (by decide) ?_
      refine r_callVN C M h [.int 0] [] mlX9_200 mcX8_removeMany (fun q9 e9 => s_X8_removeMany 41 0 kq_41 e9) kq_41 rfl (by omega) (by decide) rfl rfl (Nat.le_of_ble_eq_true rfl) dX9_macroTask_152 (fun _ T13 h => ?_)
      refine r_goto (tgt := 203) C dX9_macroTask_155 (by decide) ?_
      exact r_vret C M dX9_macroTask_203 h
    · refine r_iconst (v := 1) C dX9_macroTask_147 (by decide) ?_
      refine r_goto (tgt := 152) C dX9_macroTask_148 (by decide) ?_
      refine r_callVN C M h [.int 1] [] mlX9_200 mcX8_removeMany (fun q9 e9 => s_X8_removeMany 41 1 kq_41 e9) kq_41 rfl (by omega) (by decide) rfl rfl (Nat.le_of_ble_eq_true rfl) dX9_macroTask_152 (fun _ T14 h => ?_)
      refine r_goto (tgt := 203) C dX9_macroTask_155 (by decide) ?_
      exact r_vret C M dX9_macroTask_203 h
  rw [if_neg hs12] at h
  by_cases hs15 : p1 = 7
  · rw [if_pos hs15] at h
    refine r_top hs15 ?_
    refine r_tabIn (off := 136) (tgt := 137) C dX9_macroTask_1 (by decide) (by decide) (by decide) (by decide) ?_
    refine r_aload_n C dX9_macroTask_137 rfl 0 rfl ?_
    refine r_getp (f := 906) (j := 41) C flX9_43 dX9_macroTask_138 kq_23 (by decide) rfl (fun W => pt_906 kq_23 W) ?_
    refine r_iload_n C dX9_macroTask_141 rfl 1 rfl ?_
    refine r_bipush (v := 7) C dX9_macroTask_142 (by decide) ?_
    refine r_ic_ne (tgt := 151) C dX9_macroTask_144 (by decide) h (fun h => ?_) (fun h => ?_)
    · refine r_iconst (v := 0) C dX9_macroTask_151 (by decide) ?_
      refine r_callVN C M h [.int 0] [] mlX9_200 mcX8_removeMany (fun q9 e9 => s_X8_removeMany 41 0 kq_41 e9) kq_41 rfl (by omega) (by decide) rfl rfl (Nat.le_of_ble_eq_true rfl) dX9_macroTask_152 (fun _ T16 h => ?_)
      refine r_goto (tgt := 203) C dX9_macroTask_155 (by decide) ?_
      exact r_vret C M dX9_macroTask_203 h
    · refine r_iconst (v := 1) C dX9_macroTask_147 (by decide) ?_
      refine r_goto (tgt := 152) C dX9_macroTask_148 (by decide) ?_
      refine r_callVN C M h [.int 1] [] mlX9_200 mcX8_removeMany (fun q9 e9 => s_X8_removeMany 41 1 kq_41 e9) kq_41 rfl (by omega) (by decide) rfl rfl (Nat.le_of_ble_eq_true rfl) dX9_macroTask_152 (fun _ T17 h => ?_)
      refine r_goto (tgt := 203) C dX9_macroTask_155 (by decide) ?_
      exact r_vret C M dX9_macroTask_203 h
  rw [if_neg hs15] at h
  by_cases hs18 : p1 = 8
  · rw [if_pos hs18] at h
    refine r_top hs18 ?_
    refine r_tabIn (off := 157) (tgt := 158) C dX9_macroTask_1 (by decide) (by decide) (by decide) (by decide) ?_
    refine r_aload_n C dX9_macroTask_158 rfl 0 rfl ?_
    refine r_getp (f := 906) (j := 41) C flX9_43 dX9_macroTask_159 kq_23 (by decide) rfl (fun W => pt_906 kq_23 W) ?_
    refine r_aload_n C dX9_macroTask_162 rfl 0 rfl ?_
    refine r_getp (f := 909) (j := 45) C flX9_57 dX9_macroTask_163 kq_23 (by decide) rfl (fun W => pt_909 kq_23 W) ?_
    refine r_geti (f := 119) C flX9_462 dX9_macroTask_166 kq_45 (by decide) (by decide) rfl ?_
    show Jr _ _ _ _ _ _ 169 _
    refine r_callVN C M h [.int (gI T 119 45)] [] mlX9_483 mcX8_remove (fun q9 e9 => s_X8_remove 41 (gI T 119 45) kq_41 e9) kq_41 rfl (by omega) (by decide) rfl rfl (Nat.le_of_ble_eq_true rfl) dX9_macroTask_169 (fun _ T19 h => ?_)
    refine r_goto (tgt := 203) C dX9_macroTask_172 (by decide) ?_
    exact r_vret C M dX9_macroTask_203 h
  rw [if_neg hs18] at h
  by_cases hs20 : p1 = 9
  · rw [if_pos hs20] at h
    refine r_top hs20 ?_
    refine r_tabIn (off := 174) (tgt := 175) C dX9_macroTask_1 (by decide) (by decide) (by decide) (by decide) ?_
    refine r_aload_n C dX9_macroTask_175 rfl 0 rfl ?_
    refine r_getp (f := 906) (j := 41) C flX9_43 dX9_macroTask_176 kq_23 (by decide) rfl (fun W => pt_906 kq_23 W) ?_
    refine r_aload_n C dX9_macroTask_179 rfl 0 rfl ?_
    refine r_getp (f := 909) (j := 45) C flX9_57 dX9_macroTask_180 kq_23 (by decide) rfl (fun W => pt_909 kq_23 W) ?_
    refine r_geti (f := 119) C flX9_462 dX9_macroTask_183 kq_45 (by decide) (by decide) rfl ?_
    show Jr _ _ _ _ _ _ 186 _
    refine r_iload_n C dX9_macroTask_186 rfl 1 rfl ?_
    refine r_bipush (v := 9) C dX9_macroTask_187 (by decide) ?_
    refine r_ic_ne (tgt := 196) C dX9_macroTask_189 (by decide) h (fun h => ?_) (fun h => ?_)
    · refine r_iconst (v := 0) C dX9_macroTask_196 (by decide) ?_
      refine r_callVN C M h [.int (gI T 119 45), .int 0] [] mlX9_486 mcX8_mark (fun q9 e9 => s_X8_mark 41 (gI T 119 45) 0 kq_41 e9) kq_41 rfl (by omega) (by decide) rfl rfl (Nat.le_of_ble_eq_true rfl) dX9_macroTask_197 (fun _ T21 h => ?_)
      refine r_goto (tgt := 203) C dX9_macroTask_200 (by decide) ?_
      exact r_vret C M dX9_macroTask_203 h
    · refine r_iconst (v := 1) C dX9_macroTask_192 (by decide) ?_
      refine r_goto (tgt := 197) C dX9_macroTask_193 (by decide) ?_
      refine r_callVN C M h [.int (gI T 119 45), .int 1] [] mlX9_486 mcX8_mark (fun q9 e9 => s_X8_mark 41 (gI T 119 45) 1 kq_41 e9) kq_41 rfl (by omega) (by decide) rfl rfl (Nat.le_of_ble_eq_true rfl) dX9_macroTask_197 (fun _ T22 h => ?_)
      refine r_goto (tgt := 203) C dX9_macroTask_200 (by decide) ?_
      exact r_vret C M dX9_macroTask_203 h
  rw [if_neg hs20] at h
  by_cases hs23 : p1 = 10
  · rw [if_pos hs23] at h
    refine r_top hs23 ?_
    refine r_tabIn (off := 174) (tgt := 175) C dX9_macroTask_1 (by decide) (by decide) (by decide) (by decide) ?_
    refine r_aload_n C dX9_macroTask_175 rfl 0 rfl ?_
    refine r_getp (f := 906) (j := 41) C flX9_43 dX9_macroTask_176 kq_23 (by decide) rfl (fun W => pt_906 kq_23 W) ?_
    refine r_aload_n C dX9_macroTask_179 rfl 0 rfl ?_
    refine r_getp (f := 909) (j := 45) C flX9_57 dX9_macroTask_180 kq_23 (by decide) rfl (fun W => pt_909 kq_23 W) ?_
    refine r_geti (f := 119) C flX9_462 dX9_macroTask_183 kq_45 (by decide) (by decide) rfl ?_
    show Jr _ _ _ _ _ _ 186 _
    refine r_iload_n C dX9_macroTask_186 rfl 1 rfl ?_
    refine r_bipush (v := 9) C dX9_macroTask_187 (by decide) ?_
    refine r_ic_ne (tgt := 196) C dX9_macroTask_189 (by decide) h (fun h => ?_) (fun h => ?_)
    · refine r_iconst (v := 0) C dX9_macroTask_196 (by decide) ?_
      refine r_callVN C M h [.int (gI T 119 45), .int 0] [] mlX9_486 mcX8_mark (fun q9 e9 => s_X8_mark 41 (gI T 119 45) 0 kq_41 e9) kq_41 rfl (by omega) (by decide) rfl rfl (Nat.le_of_ble_eq_true rfl) dX9_macroTask_197 (fun _ T24 h => ?_)
      refine r_goto (tgt := 203) C dX9_macroTask_200 (by decide) ?_
      exact r_vret C M dX9_macroTask_203 h
    · refine r_iconst (v := 1) C dX9_macroTask_192 (by decide) ?_
      refine r_goto (tgt := 197) C dX9_macroTask_193 (by decide) ?_
      refine r_callVN C M h [.int (gI T 119 45), .int 1] [] mlX9_486 mcX8_mark (fun q9 e9 => s_X8_mark 41 (gI T 119 45) 1 kq_41 e9) kq_41 rfl (by omega) (by decide) rfl rfl (Nat.le_of_ble_eq_true rfl) dX9_macroTask_197 (fun _ T25 h => ?_)
      refine r_goto (tgt := 203) C dX9_macroTask_200 (by decide) ?_
      exact r_vret C M dX9_macroTask_203 h
  rw [if_neg hs23] at h
  refine r_tabOut (tgt := 203) C dX9_macroTask_1 (by have t09 : (p1).toInt ≠ 0 := ne_toInt hs1 (by decide); have t19 : (p1).toInt ≠ 1 := ne_toInt hs3 (by decide); have t29 : (p1).toInt ≠ 2 := ne_toInt hs4 (by decide); have t39 : (p1).toInt ≠ 3 := ne_toInt hs6 (by decide); have t49 : (p1).toInt ≠ 4 := ne_toInt hs8 (by decide); have t59 : (p1).toInt ≠ 5 := ne_toInt hs10 (by decide); have t69 : (p1).toInt ≠ 6 := ne_toInt hs12 (by decide); have t79 : (p1).toInt ≠ 7 := ne_toInt hs15 (by decide); have t89 : (p1).toInt ≠ 8 := ne_toInt hs18 (by decide); have t99 : (p1).toInt ≠ 9 := ne_toInt hs20 (by decide); have t109 : (p1).toInt ≠ 10 := ne_toInt hs23 (by decide); omega) (by decide) ?_
  exact r_vret C M dX9_macroTask_203 h
theorem dX9_macroField_0 : decode cX9_macroField 0 = .ok (.aload_n 0, 1) := by decide +kernel
theorem dX9_macroField_1 : decode cX9_macroField 1 = .ok (.getfield 82, 3) := by decide +kernel
theorem dX9_macroField_4 : decode cX9_macroField 4 = .ok (.getfield 327, 3) := by decide +kernel
theorem dX9_macroField_7 : decode cX9_macroField 7 = .ok (.bipush 89, 2) := by decide +kernel
theorem dX9_macroField_9 : decode cX9_macroField 9 = .ok (.if_icmp .ne 24, 3) := by decide +kernel
theorem dX9_macroField_12 : decode cX9_macroField 12 = .ok (.iload_n 1, 1) := by decide +kernel
theorem dX9_macroField_13 : decode cX9_macroField 13 = .ok (.ifCond .lt 20, 3) := by decide +kernel
theorem dX9_macroField_16 : decode cX9_macroField 16 = .ok (.iload_n 1, 1) := by decide +kernel
theorem dX9_macroField_17 : decode cX9_macroField 17 = .ok (.bipush 16, 2) := by decide +kernel
theorem dX9_macroField_19 : decode cX9_macroField 19 = .ok (.if_icmp .ge 14, 3) := by decide +kernel
theorem dX9_macroField_22 : decode cX9_macroField 22 = .ok (.aload_n 0, 1) := by decide +kernel
theorem dX9_macroField_23 : decode cX9_macroField 23 = .ok (.getfield 57, 3) := by decide +kernel
theorem dX9_macroField_26 : decode cX9_macroField 26 = .ok (.iload_n 1, 1) := by decide +kernel
theorem dX9_macroField_27 : decode cX9_macroField 27 = .ok (.putfield 462, 3) := by decide +kernel
theorem dX9_macroField_30 : decode cX9_macroField 30 = .ok (.goto 79, 3) := by decide +kernel
theorem dX9_macroField_33 : decode cX9_macroField 33 = .ok (.aload_n 0, 1) := by decide +kernel
theorem dX9_macroField_34 : decode cX9_macroField 34 = .ok (.getfield 82, 3) := by decide +kernel
theorem dX9_macroField_37 : decode cX9_macroField 37 = .ok (.getfield 327, 3) := by decide +kernel
theorem dX9_macroField_40 : decode cX9_macroField 40 = .ok (.bipush 83, 2) := by decide +kernel
theorem dX9_macroField_42 : decode cX9_macroField 42 = .ok (.if_icmp .ne 20, 3) := by decide +kernel
theorem dX9_macroField_45 : decode cX9_macroField 45 = .ok (.iload_n 1, 1) := by decide +kernel
theorem dX9_macroField_46 : decode cX9_macroField 46 = .ok (.ifCond .ne 16, 3) := by decide +kernel
theorem dX9_macroField_49 : decode cX9_macroField 49 = .ok (.aload_n 0, 1) := by decide +kernel
theorem dX9_macroField_50 : decode cX9_macroField 50 = .ok (.getfield 57, 3) := by decide +kernel
theorem dX9_macroField_53 : decode cX9_macroField 53 = .ok (.getfield 129, 3) := by decide +kernel
theorem dX9_macroField_56 : decode cX9_macroField 56 = .ok (.invokevirtual 465, 3) := by decide +kernel
theorem dX9_macroField_59 : decode cX9_macroField 59 = .ok (.goto 50, 3) := by decide +kernel
theorem dX9_macroField_62 : decode cX9_macroField 62 = .ok (.aload_n 0, 1) := by decide +kernel
theorem dX9_macroField_63 : decode cX9_macroField 63 = .ok (.getfield 82, 3) := by decide +kernel
theorem dX9_macroField_66 : decode cX9_macroField 66 = .ok (.getfield 327, 3) := by decide +kernel
theorem dX9_macroField_69 : decode cX9_macroField 69 = .ok (.bipush 83, 2) := by decide +kernel
theorem dX9_macroField_71 : decode cX9_macroField 71 = .ok (.if_icmp .ne 21, 3) := by decide +kernel
theorem dX9_macroField_74 : decode cX9_macroField 74 = .ok (.iload_n 1, 1) := by decide +kernel
theorem dX9_macroField_75 : decode cX9_macroField 75 = .ok (.iconst 1, 1) := by decide +kernel
theorem dX9_macroField_76 : decode cX9_macroField 76 = .ok (.if_icmp .ne 16, 3) := by decide +kernel
theorem dX9_macroField_79 : decode cX9_macroField 79 = .ok (.aload_n 0, 1) := by decide +kernel
theorem dX9_macroField_80 : decode cX9_macroField 80 = .ok (.getfield 57, 3) := by decide +kernel
theorem dX9_macroField_83 : decode cX9_macroField 83 = .ok (.getfield 129, 3) := by decide +kernel
theorem dX9_macroField_86 : decode cX9_macroField 86 = .ok (.invokevirtual 468, 3) := by decide +kernel
theorem dX9_macroField_89 : decode cX9_macroField 89 = .ok (.goto 20, 3) := by decide +kernel
theorem dX9_macroField_92 : decode cX9_macroField 92 = .ok (.aload_n 0, 1) := by decide +kernel
theorem dX9_macroField_93 : decode cX9_macroField 93 = .ok (.getfield 82, 3) := by decide +kernel
theorem dX9_macroField_96 : decode cX9_macroField 96 = .ok (.getfield 327, 3) := by decide +kernel
theorem dX9_macroField_99 : decode cX9_macroField 99 = .ok (.bipush 88, 2) := by decide +kernel
theorem dX9_macroField_101 : decode cX9_macroField 101 = .ok (.if_icmp .ne 8, 3) := by decide +kernel
theorem dX9_macroField_104 : decode cX9_macroField 104 = .ok (.aload_n 0, 1) := by decide +kernel
theorem dX9_macroField_105 : decode cX9_macroField 105 = .ok (.iload_n 1, 1) := by decide +kernel
theorem dX9_macroField_106 : decode cX9_macroField 106 = .ok (.invokevirtual 471, 3) := by decide +kernel
theorem dX9_macroField_109 : decode cX9_macroField 109 = .ok (.return_, 1) := by decide +kernel
noncomputable def f_X9_macroField_92 (G : Int32 → Mm → Option (Unit × Mm)) (a1 : Int32) (T : Mm) : Option (Unit × Mm) :=
  rf true (gR T 913 23) 5 fun j1 =>
  if (gI T 505 j1) = 88 then (bd (f_X9_macroTask G a1 T) fun _ T3 =>
  some ((), T3))
  else (some ((), T))
set_option maxRecDepth 100000 in
set_option maxHeartbeats 4000000 in
theorem s_X9_macroField_92 {x : JX} {ad : Nat → Nat} {U : Mm} {S0 : Hp} {q : Unit × Mm} {D : Nat} {G : Int32 → Mm → Option (Unit × Mm)}  (hn9 : x_n x = 2) (C : CB x RX9 cX9_macroField) (M : CMr x (D + 4) none S0 ad true U eV q) (hD : 40 ≤ D) (hG : ∀ (i : Int32) (T : Mm) (q : Unit × Mm), G i T = some q → Cr D yX9_goMacro cX9_goMacro 3 none [.ref (ad 23), .int i] ad true U T eV q) (a1 : Int32) (T : Mm) (h : f_X9_macroField_92 G  a1 T = some q) : Jr x ad true U T [(0, .ref (ad 23)), (1, .int a1)] 92 [] := by
  unfold f_X9_macroField_92 at h
  refine r_aload_n C dX9_macroField_92 rfl 0 rfl ?_
  refine r_getr (f := 913) (c := 5) C flX9_82 dX9_macroField_93 kq_23 (by decide) rfl h (fun j1 hj2 h => ?_)
  refine r_geti (f := 505) C flX9_327 dX9_macroField_96 hj2 (by decide) (by decide) rfl ?_
  refine r_bipush (v := 88) C dX9_macroField_99 (by decide) ?_
  refine r_ic_ne (tgt := 109) C dX9_macroField_101 (by decide) h (fun h => ?_) (fun h => ?_)
  · exact r_vret C M dX9_macroField_109 h
  · refine r_aload_n C dX9_macroField_104 rfl 0 rfl ?_
    refine r_iload_n C dX9_macroField_105 rfl 1 rfl ?_
    refine r_callVN C M h [.int a1] [] mlX9_471 mcX9_macroTask (fun q9 e9 => s_X9_macroTask hD (fun i9 T9 q9 e9 => hG i9 T9 q9 e9) a1  e9) kq_23 rfl (by omega) (by decide) rfl rfl (Nat.le_of_ble_eq_true rfl) dX9_macroField_106 (fun _ T3 h => ?_)
    exact r_vret C M dX9_macroField_109 h
noncomputable def f_X9_macroField_62 (G : Int32 → Mm → Option (Unit × Mm)) (a1 : Int32) (T : Mm) : Option (Unit × Mm) :=
  rf true (gR T 913 23) 5 fun j1 =>
  if (gI T 505 j1) = 83 then (if a1 = 1 then (bd (f_X7_recallPlace 46 T) fun _ T3 =>
  some ((), T3))
  else (f_X9_macroField_92 G a1 T))
  else (f_X9_macroField_92 G a1 T)
set_option maxRecDepth 100000 in
set_option maxHeartbeats 4000000 in
theorem s_X9_macroField_62 {x : JX} {ad : Nat → Nat} {U : Mm} {S0 : Hp} {q : Unit × Mm} {D : Nat} {G : Int32 → Mm → Option (Unit × Mm)}  (hn9 : x_n x = 2) (C : CB x RX9 cX9_macroField) (M : CMr x (D + 4) none S0 ad true U eV q) (hD : 40 ≤ D) (hG : ∀ (i : Int32) (T : Mm) (q : Unit × Mm), G i T = some q → Cr D yX9_goMacro cX9_goMacro 3 none [.ref (ad 23), .int i] ad true U T eV q) (a1 : Int32) (T : Mm) (h : f_X9_macroField_62 G  a1 T = some q) : Jr x ad true U T [(0, .ref (ad 23)), (1, .int a1)] 62 [] := by
  unfold f_X9_macroField_62 at h
  refine r_aload_n C dX9_macroField_62 rfl 0 rfl ?_
  refine r_getr (f := 913) (c := 5) C flX9_82 dX9_macroField_63 kq_23 (by decide) rfl h (fun j1 hj2 h => ?_)
  refine r_geti (f := 505) C flX9_327 dX9_macroField_66 hj2 (by decide) (by decide) rfl ?_
  refine r_bipush (v := 83) C dX9_macroField_69 (by decide) ?_
  refine r_ic_ne (tgt := 92) C dX9_macroField_71 (by decide) h (fun h => ?_) (fun h => ?_)
  · exact s_X9_macroField_92 hn9 C M hD hG  a1 T h
  · refine r_iload_n C dX9_macroField_74 rfl 1 rfl ?_
    refine r_iconst (v := 1) C dX9_macroField_75 (by decide) ?_
    refine r_ic_ne (tgt := 92) C dX9_macroField_76 (by decide) h (fun h => ?_) (fun h => ?_)
    · exact s_X9_macroField_92 hn9 C M hD hG  a1 T h
    · refine r_aload_n C dX9_macroField_79 rfl 0 rfl ?_
      refine r_getp (f := 909) (j := 45) C flX9_57 dX9_macroField_80 kq_23 (by decide) rfl (fun W => pt_909 kq_23 W) ?_
      refine r_getp (f := 100) (j := 46) C flX9_129 dX9_macroField_83 kq_45 (by decide) rfl (fun W => pt_100 kq_45 W) ?_
      refine r_callVN C M h [] [] mlX9_468 mcX7_recallPlace (fun q9 e9 => s_X7_recallPlace 46 kq_46 e9) kq_46 rfl (by omega) (by decide) rfl rfl (Nat.le_of_ble_eq_true rfl) dX9_macroField_86 (fun _ T3 h => ?_)
      refine r_goto (tgt := 109) C dX9_macroField_89 (by decide) ?_
      show Jr _ _ _ _ _ _ 109 _
      exact r_vret C M dX9_macroField_109 h
noncomputable def f_X9_macroField_33 (G : Int32 → Mm → Option (Unit × Mm)) (a1 : Int32) (T : Mm) : Option (Unit × Mm) :=
  rf true (gR T 913 23) 5 fun j1 =>
  if (gI T 505 j1) = 83 then (if a1 = 0 then (bd (f_X7_keepPlace 46 T) fun _ T3 =>
  some ((), T3))
  else (f_X9_macroField_62 G a1 T))
  else (f_X9_macroField_62 G a1 T)
set_option maxRecDepth 100000 in
set_option maxHeartbeats 4000000 in
theorem s_X9_macroField_33 {x : JX} {ad : Nat → Nat} {U : Mm} {S0 : Hp} {q : Unit × Mm} {D : Nat} {G : Int32 → Mm → Option (Unit × Mm)}  (hn9 : x_n x = 2) (C : CB x RX9 cX9_macroField) (M : CMr x (D + 4) none S0 ad true U eV q) (hD : 40 ≤ D) (hG : ∀ (i : Int32) (T : Mm) (q : Unit × Mm), G i T = some q → Cr D yX9_goMacro cX9_goMacro 3 none [.ref (ad 23), .int i] ad true U T eV q) (a1 : Int32) (T : Mm) (h : f_X9_macroField_33 G  a1 T = some q) : Jr x ad true U T [(0, .ref (ad 23)), (1, .int a1)] 33 [] := by
  unfold f_X9_macroField_33 at h
  refine r_aload_n C dX9_macroField_33 rfl 0 rfl ?_
  refine r_getr (f := 913) (c := 5) C flX9_82 dX9_macroField_34 kq_23 (by decide) rfl h (fun j1 hj2 h => ?_)
  refine r_geti (f := 505) C flX9_327 dX9_macroField_37 hj2 (by decide) (by decide) rfl ?_
  refine r_bipush (v := 83) C dX9_macroField_40 (by decide) ?_
  refine r_ic_ne (tgt := 62) C dX9_macroField_42 (by decide) h (fun h => ?_) (fun h => ?_)
  · exact s_X9_macroField_62 hn9 C M hD hG  a1 T h
  · refine r_iload_n C dX9_macroField_45 rfl 1 rfl ?_
    refine r_if_ne (tgt := 62) C dX9_macroField_46 (by decide) h (fun h => ?_) (fun h => ?_)
    · exact s_X9_macroField_62 hn9 C M hD hG  a1 T h
    · refine r_aload_n C dX9_macroField_49 rfl 0 rfl ?_
      refine r_getp (f := 909) (j := 45) C flX9_57 dX9_macroField_50 kq_23 (by decide) rfl (fun W => pt_909 kq_23 W) ?_
      refine r_getp (f := 100) (j := 46) C flX9_129 dX9_macroField_53 kq_45 (by decide) rfl (fun W => pt_100 kq_45 W) ?_
      refine r_callVN C M h [] [] mlX9_465 mcX7_keepPlace (fun q9 e9 => s_X7_keepPlace 46 kq_46 e9) kq_46 rfl (by omega) (by decide) rfl rfl (Nat.le_of_ble_eq_true rfl) dX9_macroField_56 (fun _ T3 h => ?_)
      refine r_goto (tgt := 109) C dX9_macroField_59 (by decide) ?_
      show Jr _ _ _ _ _ _ 109 _
      exact r_vret C M dX9_macroField_109 h
noncomputable def f_X9_macroField (G : Int32 → Mm → Option (Unit × Mm)) (p1 : Int32) (T : Mm) : Option (Unit × Mm) :=
  rf true (gR T 913 23) 5 fun j1 =>
  if (gI T 505 j1) = 89 then (if p1 < 0 then (f_X9_macroField_33 G p1 T)
  else (if 16 ≤ p1 then (f_X9_macroField_33 G p1 T)
  else (lb (uI T 119 45 p1) fun T3 =>
  some ((), T3))))
  else (f_X9_macroField_33 G p1 T)
set_option maxRecDepth 100000 in
set_option maxHeartbeats 4000000 in
theorem s_X9_macroField {ad : Nat → Nat} {U T : Mm} {q : Unit × Mm} {D : Nat} {G : Int32 → Mm → Option (Unit × Mm)}  (hD : 40 ≤ D) (hG : ∀ (i : Int32) (T : Mm) (q : Unit × Mm), G i T = some q → Cr D yX9_goMacro cX9_goMacro 3 none [.ref (ad 23), .int i] ad true U T eV q) (p1 : Int32) (h : f_X9_macroField G p1 T = some q) : Cr (D + 4) yX9_macroField cX9_macroField 2 none [.ref (ad 23), .int p1] ad true U T eV q := by
  refine cr_of (by decide) (Nat.le_of_ble_eq_true rfl) fun x S0 hn9 C M => ?_
  have C : CB x RX9 cX9_macroField := C
  refine Jr.eq (lv' := [(0, .ref (ad 23)), (1, .int p1)]) (st' := []) rfl rfl ?_
  unfold f_X9_macroField at h
  refine r_aload_n C dX9_macroField_0 rfl 0 rfl ?_
  refine r_getr (f := 913) (c := 5) C flX9_82 dX9_macroField_1 kq_23 (by decide) rfl h (fun j1 hj2 h => ?_)
  refine r_geti (f := 505) C flX9_327 dX9_macroField_4 hj2 (by decide) (by decide) rfl ?_
  refine r_bipush (v := 89) C dX9_macroField_7 (by decide) ?_
  refine r_ic_ne (tgt := 33) C dX9_macroField_9 (by decide) h (fun h => ?_) (fun h => ?_)
  · exact s_X9_macroField_33 hn9 C M hD hG  p1 T h
  · refine r_iload_n C dX9_macroField_12 rfl 1 rfl ?_
    refine r_if_lt (tgt := 33) C dX9_macroField_13 (by decide) h (fun h => ?_) (fun h => ?_)
    · exact s_X9_macroField_33 hn9 C M hD hG  p1 T h
    · refine r_iload_n C dX9_macroField_16 rfl 1 rfl ?_
      refine r_bipush (v := 16) C dX9_macroField_17 (by decide) ?_
      refine r_ic_ge (tgt := 33) C dX9_macroField_19 (by decide) h (fun h => ?_) (fun h => ?_)
      · exact s_X9_macroField_33 hn9 C M hD hG  p1 T h
      · refine r_aload_n C dX9_macroField_22 rfl 0 rfl ?_
        refine r_getp (f := 909) (j := 45) C flX9_57 dX9_macroField_23 kq_23 (by decide) rfl (fun W => pt_909 kq_23 W) ?_
        refine r_iload_n C dX9_macroField_26 rfl 1 rfl ?_
        refine r_puti (f := 119) C flX9_462 (by decide) rfl rfl dX9_macroField_27 kq_45 rfl h (fun T3 h => ?_)
        refine r_goto (tgt := 109) C dX9_macroField_30 (by decide) ?_
        show Jr _ _ _ _ _ _ 109 _
        exact r_vret C M dX9_macroField_109 h
theorem dX5_dataByte_0 : decode cX5_dataByte 0 = .ok (.aload_n 0, 1) := by decide +kernel
theorem dX5_dataByte_1 : decode cX5_dataByte 1 = .ok (.getfield 61, 3) := by decide +kernel
theorem dX5_dataByte_4 : decode cX5_dataByte 4 = .ok (.iload_n 1, 1) := by decide +kernel
theorem dX5_dataByte_5 : decode cX5_dataByte 5 = .ok (.iadd, 1) := by decide +kernel
theorem dX5_dataByte_6 : decode cX5_dataByte 6 = .ok (.istore_n 2, 1) := by decide +kernel
theorem dX5_dataByte_7 : decode cX5_dataByte 7 = .ok (.iload_n 1, 1) := by decide +kernel
theorem dX5_dataByte_8 : decode cX5_dataByte 8 = .ok (.ifCond .lt 37, 3) := by decide +kernel
theorem dX5_dataByte_11 : decode cX5_dataByte 11 = .ok (.iload_n 1, 1) := by decide +kernel
theorem dX5_dataByte_12 : decode cX5_dataByte 12 = .ok (.aload_n 0, 1) := by decide +kernel
theorem dX5_dataByte_13 : decode cX5_dataByte 13 = .ok (.getfield 64, 3) := by decide +kernel
theorem dX5_dataByte_16 : decode cX5_dataByte 16 = .ok (.if_icmp .ge 29, 3) := by decide +kernel
theorem dX5_dataByte_19 : decode cX5_dataByte 19 = .ok (.iload_n 2, 1) := by decide +kernel
theorem dX5_dataByte_20 : decode cX5_dataByte 20 = .ok (.ifCond .lt 25, 3) := by decide +kernel
theorem dX5_dataByte_23 : decode cX5_dataByte 23 = .ok (.iload_n 2, 1) := by decide +kernel
theorem dX5_dataByte_24 : decode cX5_dataByte 24 = .ok (.aload_n 0, 1) := by decide +kernel
theorem dX5_dataByte_25 : decode cX5_dataByte 25 = .ok (.getfield 9, 3) := by decide +kernel
theorem dX5_dataByte_28 : decode cX5_dataByte 28 = .ok (.arraylength, 1) := by decide +kernel
theorem dX5_dataByte_29 : decode cX5_dataByte 29 = .ok (.if_icmp .ge 16, 3) := by decide +kernel
theorem dX5_dataByte_32 : decode cX5_dataByte 32 = .ok (.aload_n 0, 1) := by decide +kernel
theorem dX5_dataByte_33 : decode cX5_dataByte 33 = .ok (.getfield 9, 3) := by decide +kernel
theorem dX5_dataByte_36 : decode cX5_dataByte 36 = .ok (.iload_n 2, 1) := by decide +kernel
theorem dX5_dataByte_37 : decode cX5_dataByte 37 = .ok (.baload, 1) := by decide +kernel
theorem dX5_dataByte_38 : decode cX5_dataByte 38 = .ok (.sipush 255, 3) := by decide +kernel
theorem dX5_dataByte_41 : decode cX5_dataByte 41 = .ok (.iand, 1) := by decide +kernel
theorem dX5_dataByte_42 : decode cX5_dataByte 42 = .ok (.goto 4, 3) := by decide +kernel
theorem dX5_dataByte_45 : decode cX5_dataByte 45 = .ok (.iconst 0, 1) := by decide +kernel
theorem dX5_dataByte_46 : decode cX5_dataByte 46 = .ok (.ireturn, 1) := by decide +kernel
noncomputable def f_X5_dataByte (p0 : Nat) (p1 : Int32) (T : Mm) : Option (Int32 × Mm) :=
  lb (((gI T 511 p0) + p1)) fun v1 =>
  if p1 < 0 then (some (0, T))
  else (if (gI T 512 p0) ≤ p1 then (some (0, T))
  else (if v1 < 0 then (some (0, T))
  else (rf true (gR T 500 p0) 13 fun j2 =>
  if (Int32.ofNat (LN j2)) ≤ v1 then (some (0, T))
  else (rf true (gR T 500 p0) 13 fun j4 =>
  ix v1 (LN j4) fun j6 =>
  some (((gA T j4 j6) &&& 255), T)))))
set_option maxRecDepth 100000 in
set_option maxHeartbeats 4000000 in
theorem s_X5_dataByte {ad : Nat → Nat} {U T : Mm} {q : Int32 × Mm}  (p0 : Nat) (p1 : Int32) (hk0 : kS true p0 = 5) (h : f_X5_dataByte p0 p1 T = some q) : Cr 1 yX5_dataByte cX5_dataByte 3 (some .int) [.ref (ad p0), .int p1] ad true U T eI q := by
  refine cr_of (by decide) (Nat.le_of_ble_eq_true rfl) fun x S0 hn9 C M => ?_
  have C : CB x RX5 cX5_dataByte := C
  refine Jr.eq (lv' := [(0, .ref (ad p0)), (1, .int p1)]) (st' := []) rfl rfl ?_
  unfold f_X5_dataByte at h
  refine r_aload_n C dX5_dataByte_0 rfl 0 rfl ?_
  refine r_geti (f := 511) C flX5_61 dX5_dataByte_1 hk0 (by decide) (by decide) rfl ?_
  refine r_iload_n C dX5_dataByte_4 rfl 1 rfl ?_
  refine r_iadd C dX5_dataByte_5 rfl ?_
  refine r_lbI h (fun v1 h => ?_)
  refine r_istore_n (lv' := [(2, .int v1), (0, .ref (ad p0)), (1, .int p1)]) C dX5_dataByte_6 rfl (by rw [hn9]; decide) rfl ?_
  show Jr _ _ _ _ _ _ 7 _
  refine r_iload_n C dX5_dataByte_7 rfl 2 rfl ?_
  refine r_if_lt (tgt := 45) C dX5_dataByte_8 (by decide) h (fun h => ?_) (fun h => ?_)
  · refine r_iconst (v := 0) C dX5_dataByte_45 (by decide) ?_
    exact r_iret C M dX5_dataByte_46 h
  · refine r_iload_n C dX5_dataByte_11 rfl 2 rfl ?_
    refine r_aload_n C dX5_dataByte_12 rfl 1 rfl ?_
    refine r_geti (f := 512) C flX5_64 dX5_dataByte_13 hk0 (by decide) (by decide) rfl ?_
    refine r_ic_ge (tgt := 45) C dX5_dataByte_16 (by decide) h (fun h => ?_) (fun h => ?_)
    · refine r_iconst (v := 0) C dX5_dataByte_45 (by decide) ?_
      exact r_iret C M dX5_dataByte_46 h
    · refine r_iload_n C dX5_dataByte_19 rfl 0 rfl ?_
      refine r_if_lt (tgt := 45) C dX5_dataByte_20 (by decide) h (fun h => ?_) (fun h => ?_)
      · refine r_iconst (v := 0) C dX5_dataByte_45 (by decide) ?_
        exact r_iret C M dX5_dataByte_46 h
      · refine r_iload_n C dX5_dataByte_23 rfl 0 rfl ?_
        refine r_aload_n C dX5_dataByte_24 rfl 1 rfl ?_
        refine r_getr (f := 500) (c := 13) C flX5_9 dX5_dataByte_25 hk0 (by decide) rfl h (fun j2 hj3 h => ?_)
        refine r_alen (n := 0) C dX5_dataByte_28 hj3 (by decide) (by decide) rfl ?_
        refine r_ic_ge (tgt := 45) C dX5_dataByte_29 (by decide) h (fun h => ?_) (fun h => ?_)
        · refine r_iconst (v := 0) C dX5_dataByte_45 (by decide) ?_
          exact r_iret C M dX5_dataByte_46 h
        · refine r_aload_n C dX5_dataByte_32 rfl 1 rfl ?_
          refine r_getr (f := 500) (c := 13) C flX5_9 dX5_dataByte_33 hk0 (by decide) rfl h (fun j4 hj5 h => ?_)
          refine r_iload_n C dX5_dataByte_36 rfl 0 rfl ?_
          refine r_bald (n := (LN j4)) C dX5_dataByte_37 hj5 rfl h (fun j6 hj7 h => ?_)
          refine r_sipush (v := 255) C dX5_dataByte_38 (by decide) ?_
          show Jr _ _ _ _ _ _ 41 _
          refine r_iand C dX5_dataByte_41 rfl ?_
          refine r_goto (tgt := 46) C dX5_dataByte_42 (by decide) ?_
          exact r_iret C M dX5_dataByte_46 h
theorem dX9_showData_0 : decode cX9_showData 0 = .ok (.aload_n 0, 1) := by decide +kernel
theorem dX9_showData_1 : decode cX9_showData 1 = .ok (.getfield 82, 3) := by decide +kernel
theorem dX9_showData_4 : decode cX9_showData 4 = .ok (.astore_n 1, 1) := by decide +kernel
theorem dX9_showData_5 : decode cX9_showData 5 = .ok (.iconst 0, 1) := by decide +kernel
theorem dX9_showData_6 : decode cX9_showData 6 = .ok (.istore_n 2, 1) := by decide +kernel
theorem dX9_showData_7 : decode cX9_showData 7 = .ok (.iload_n 2, 1) := by decide +kernel
theorem dX9_showData_8 : decode cX9_showData 8 = .ok (.aload_n 1, 1) := by decide +kernel
theorem dX9_showData_9 : decode cX9_showData 9 = .ok (.getfield 318, 3) := by decide +kernel
theorem dX9_showData_12 : decode cX9_showData 12 = .ok (.if_icmp .ge 25, 3) := by decide +kernel
theorem dX9_showData_15 : decode cX9_showData 15 = .ok (.aload_n 0, 1) := by decide +kernel
theorem dX9_showData_16 : decode cX9_showData 16 = .ok (.invokevirtual 118, 3) := by decide +kernel
theorem dX9_showData_19 : decode cX9_showData 19 = .ok (.ifCond .ne 18, 3) := by decide +kernel
theorem dX9_showData_22 : decode cX9_showData 22 = .ok (.aload_n 0, 1) := by decide +kernel
theorem dX9_showData_23 : decode cX9_showData 23 = .ok (.aload_n 1, 1) := by decide +kernel
theorem dX9_showData_24 : decode cX9_showData 24 = .ok (.iload_n 2, 1) := by decide +kernel
theorem dX9_showData_25 : decode cX9_showData 25 = .ok (.invokevirtual 321, 3) := by decide +kernel
theorem dX9_showData_28 : decode cX9_showData 28 = .ok (.invokevirtual 277, 3) := by decide +kernel
theorem dX9_showData_31 : decode cX9_showData 31 = .ok (.iinc 2 1, 3) := by decide +kernel
theorem dX9_showData_34 : decode cX9_showData 34 = .ok (.goto (-27), 3) := by decide +kernel
theorem dX9_showData_37 : decode cX9_showData 37 = .ok (.return_, 1) := by decide +kernel
noncomputable def f_X9_showData_b7 (G : Int32 → Mm → Option (Unit × Mm)) (k7 : Nat → Int32 → Mm → Option (Unit × Mm)) (a1 : Nat) (a2 : Int32) (T : Mm) : Option (Unit × Mm) :=
  if (gI T 512 a1) ≤ a2 then (some ((), T))
  else (bd (f_X9_isMuch T) fun v1 T2 =>
  if v1 = 0 then (bd (f_X5_dataByte a1 a2 T2) fun v3 T4 =>
  bd (f_X9_show G v3 T4) fun _ T5 =>
  k7 a1 (a2 + 1) T5)
  else (some ((), T2)))
set_option maxRecDepth 100000 in
set_option maxHeartbeats 4000000 in
theorem s_X9_showData_b7 {x : JX} {ad : Nat → Nat} {U : Mm} {S0 : Hp} {q : Unit × Mm} {D : Nat} {G : Int32 → Mm → Option (Unit × Mm)}  {k7 : Nat → Int32 → Mm → Option (Unit × Mm)} (hn9 : x_n x = 3) (C : CB x RX9 cX9_showData) (M : CMr x (D + 5) none S0 ad true U eV q) (hD : 40 ≤ D) (hG : ∀ (i : Int32) (T : Mm) (q : Unit × Mm), G i T = some q → Cr D yX9_goMacro cX9_goMacro 3 none [.ref (ad 23), .int i] ad true U T eV q) (hk7 : ∀ (a1 : Nat) (a2 : Int32) (T : Mm) (_ : kS true a1 = 5), k7 a1 a2 T = some q → Jr x ad true U T [(0, .ref (ad 23)), (1, .ref (ad a1)), (2, .int a2)] 7 []) (a1 : Nat) (a2 : Int32) (T : Mm) (ha1 : kS true a1 = 5) (h : f_X9_showData_b7 G k7 a1 a2 T = some q) : Jr x ad true U T [(0, .ref (ad 23)), (1, .ref (ad a1)), (2, .int a2)] 7 [] := by
  unfold f_X9_showData_b7 at h
  refine r_iload_n C dX9_showData_7 rfl 2 rfl ?_
  refine r_aload_n C dX9_showData_8 rfl 1 rfl ?_
  refine r_geti (f := 512) C flX9_318 dX9_showData_9 ha1 (by decide) (by decide) rfl ?_
  refine r_ic_ge (tgt := 37) C dX9_showData_12 (by decide) h (fun h => ?_) (fun h => ?_)
  · exact r_vret C M dX9_showData_37 h
  · refine r_aload_n C dX9_showData_15 rfl 0 rfl ?_
    refine r_callVI C M h [] [] mlX9_118 mcX9_isMuch (fun q9 e9 => s_X9_isMuch   e9) kq_23 rfl (by omega) (by decide) rfl rfl (Nat.le_of_ble_eq_true rfl) dX9_showData_16 (fun v1 T2 h => ?_)
    refine r_if_ne (tgt := 37) C dX9_showData_19 (by decide) h (fun h => ?_) (fun h => ?_)
    · exact r_vret C M dX9_showData_37 h
    · refine r_aload_n C dX9_showData_22 rfl 0 rfl ?_
      refine r_aload_n C dX9_showData_23 rfl 1 rfl ?_
      refine r_iload_n C dX9_showData_24 rfl 2 rfl ?_
      refine r_callVI C M h [.int a2] [.ref (ad 23)] mlX9_321 mcX5_dataByte (fun q9 e9 => s_X5_dataByte a1 a2 ha1 e9) ha1 rfl (by omega) (by decide) rfl rfl (Nat.le_of_ble_eq_true rfl) dX9_showData_25 (fun v3 T4 h => ?_)
      refine r_callVN C M h [.int v3] [] mlX9_277 mcX9_show (fun q9 e9 => s_X9_show hD (fun i9 T9 q9 e9 => hG i9 T9 q9 e9) v3  e9) kq_23 rfl (by omega) (by decide) rfl rfl (Nat.le_of_ble_eq_true rfl) dX9_showData_28 (fun _ T5 h => ?_)
      show Jr _ _ _ _ _ _ 31 _
      refine r_iinc (q := 2) (v := (a2 + 1)) (lv' := [(2, .int (a2 + 1)), (0, .ref (ad 23)), (1, .ref (ad a1))]) C dX9_showData_31 rfl (by rw [show Int32.ofInt (1) = 1 by decide]) (by rw [hn9]; decide) rfl ?_
      refine r_goto (tgt := 7) C dX9_showData_34 (by decide) ?_
      refine Jr.sub [1, 2, 0] (lv' := [(0, .ref (ad 23)), (1, .ref (ad a1)), (2, .int (a2 + 1))]) rfl ?_
      exact hk7 a1 (a2 + 1) T5 ha1 h
noncomputable def f_X9_showData_l7 (G : Int32 → Mm → Option (Unit × Mm)) (n : Nat) : Nat → Int32 → Mm → Option (Unit × Mm) := Nat.rec (fun _ _ _ => none) (fun _ ih => f_X9_showData_b7 G ih) n
theorem s_X9_showData_l7 {x : JX} {ad : Nat → Nat} {U : Mm} {S0 : Hp} {q : Unit × Mm} {D : Nat} {G : Int32 → Mm → Option (Unit × Mm)}  (hn9 : x_n x = 3) (C : CB x RX9 cX9_showData) (M : CMr x (D + 5) none S0 ad true U eV q) (hD : 40 ≤ D) (hG : ∀ (i : Int32) (T : Mm) (q : Unit × Mm), G i T = some q → Cr D yX9_goMacro cX9_goMacro 3 none [.ref (ad 23), .int i] ad true U T eV q) : ∀ (n : Nat), ∀ (a1 : Nat) (a2 : Int32) (T : Mm) (_ : kS true a1 = 5), f_X9_showData_l7 G  n a1 a2 T = some q → Jr x ad true U T [(0, .ref (ad 23)), (1, .ref (ad a1)), (2, .int a2)] 7 [] := by
  intro n
  induction n with
  | zero => intro a1 a2 T _ h; exact absurd h (by intro h; cases h)
  | succ n ih => exact fun a1 a2 T ha1 h => s_X9_showData_b7 hn9 C M hD hG (ih) a1 a2 T ha1 h
noncomputable def f_X9_showData (G : Int32 → Mm → Option (Unit × Mm)) (T : Mm) : Option (Unit × Mm) :=
  rf true (gR T 913 23) 5 fun j1 =>
  f_X9_showData_l7 G FU j1 0 T
set_option maxRecDepth 100000 in
set_option maxHeartbeats 4000000 in
theorem s_X9_showData {ad : Nat → Nat} {U T : Mm} {q : Unit × Mm} {D : Nat} {G : Int32 → Mm → Option (Unit × Mm)}  (hD : 40 ≤ D) (hG : ∀ (i : Int32) (T : Mm) (q : Unit × Mm), G i T = some q → Cr D yX9_goMacro cX9_goMacro 3 none [.ref (ad 23), .int i] ad true U T eV q) (h : f_X9_showData G  T = some q) : Cr (D + 5) yX9_showData cX9_showData 3 none [.ref (ad 23)] ad true U T eV q := by
  refine cr_of (by decide) (Nat.le_of_ble_eq_true rfl) fun x S0 hn9 C M => ?_
  have C : CB x RX9 cX9_showData := C
  refine Jr.eq (lv' := [(0, .ref (ad 23))]) (st' := []) rfl rfl ?_
  unfold f_X9_showData at h
  refine r_aload_n C dX9_showData_0 rfl 0 rfl ?_
  refine r_getr (f := 913) (c := 5) C flX9_82 dX9_showData_1 kq_23 (by decide) rfl h (fun j1 hj2 h => ?_)
  refine r_astore_n (lv' := [(1, .ref (ad j1)), (0, .ref (ad 23))]) C dX9_showData_4 rfl (by rw [hn9]; decide) rfl ?_
  refine r_iconst (v := 0) C dX9_showData_5 (by decide) ?_
  refine r_istore_n (lv' := [(2, .int 0), (1, .ref (ad j1)), (0, .ref (ad 23))]) C dX9_showData_6 rfl (by rw [hn9]; decide) rfl ?_
  refine Jr.sub [2, 1, 0] (lv' := [(0, .ref (ad 23)), (1, .ref (ad j1)), (2, .int 0)]) rfl ?_
  exact s_X9_showData_l7 hn9 C M hD hG  FU j1 0 T hj2 h
theorem dX9_dotPlaceField_0 : decode cX9_dotPlaceField 0 = .ok (.aload_n 0, 1) := by decide +kernel
theorem dX9_dotPlaceField_1 : decode cX9_dotPlaceField 1 = .ok (.getfield 82, 3) := by decide +kernel
theorem dX9_dotPlaceField_4 : decode cX9_dotPlaceField 4 = .ok (.getfield 327, 3) := by decide +kernel
theorem dX9_dotPlaceField_7 : decode cX9_dotPlaceField 7 = .ok (.bipush 88, 2) := by decide +kernel
theorem dX9_dotPlaceField_9 : decode cX9_dotPlaceField 9 = .ok (.if_icmp .ne 19, 3) := by decide +kernel
theorem dX9_dotPlaceField_12 : decode cX9_dotPlaceField 12 = .ok (.aload_n 0, 1) := by decide +kernel
theorem dX9_dotPlaceField_13 : decode cX9_dotPlaceField 13 = .ok (.aload_n 0, 1) := by decide +kernel
theorem dX9_dotPlaceField_14 : decode cX9_dotPlaceField 14 = .ok (.getfield 82, 3) := by decide +kernel
theorem dX9_dotPlaceField_17 : decode cX9_dotPlaceField 17 = .ok (.bipush 96, 2) := by decide +kernel
theorem dX9_dotPlaceField_19 : decode cX9_dotPlaceField 19 = .ok (.invokevirtual 431, 3) := by decide +kernel
theorem dX9_dotPlaceField_22 : decode cX9_dotPlaceField 22 = .ok (.invokevirtual 437, 3) := by decide +kernel
theorem dX9_dotPlaceField_25 : decode cX9_dotPlaceField 25 = .ok (.goto 84, 3) := by decide +kernel
theorem dX9_dotPlaceField_28 : decode cX9_dotPlaceField 28 = .ok (.aload_n 0, 1) := by decide +kernel
theorem dX9_dotPlaceField_29 : decode cX9_dotPlaceField 29 = .ok (.getfield 82, 3) := by decide +kernel
theorem dX9_dotPlaceField_32 : decode cX9_dotPlaceField 32 = .ok (.getfield 327, 3) := by decide +kernel
theorem dX9_dotPlaceField_35 : decode cX9_dotPlaceField 35 = .ok (.bipush 89, 2) := by decide +kernel
theorem dX9_dotPlaceField_37 : decode cX9_dotPlaceField 37 = .ok (.if_icmp .ne 20, 3) := by decide +kernel
theorem dX9_dotPlaceField_40 : decode cX9_dotPlaceField 40 = .ok (.aload_n 0, 1) := by decide +kernel
theorem dX9_dotPlaceField_41 : decode cX9_dotPlaceField 41 = .ok (.aload_n 0, 1) := by decide +kernel
theorem dX9_dotPlaceField_42 : decode cX9_dotPlaceField 42 = .ok (.getfield 82, 3) := by decide +kernel
theorem dX9_dotPlaceField_45 : decode cX9_dotPlaceField 45 = .ok (.bipush 96, 2) := by decide +kernel
theorem dX9_dotPlaceField_47 : decode cX9_dotPlaceField 47 = .ok (.invokevirtual 431, 3) := by decide +kernel
theorem dX9_dotPlaceField_50 : decode cX9_dotPlaceField 50 = .ok (.iconst 0, 1) := by decide +kernel
theorem dX9_dotPlaceField_51 : decode cX9_dotPlaceField 51 = .ok (.invokevirtual 440, 3) := by decide +kernel
theorem dX9_dotPlaceField_54 : decode cX9_dotPlaceField 54 = .ok (.goto 55, 3) := by decide +kernel
theorem dX9_dotPlaceField_57 : decode cX9_dotPlaceField 57 = .ok (.aload_n 0, 1) := by decide +kernel
theorem dX9_dotPlaceField_58 : decode cX9_dotPlaceField 58 = .ok (.getfield 82, 3) := by decide +kernel
theorem dX9_dotPlaceField_61 : decode cX9_dotPlaceField 61 = .ok (.getfield 327, 3) := by decide +kernel
theorem dX9_dotPlaceField_64 : decode cX9_dotPlaceField 64 = .ok (.bipush 82, 2) := by decide +kernel
theorem dX9_dotPlaceField_66 : decode cX9_dotPlaceField 66 = .ok (.if_icmp .ne 43, 3) := by decide +kernel
theorem dX9_dotPlaceField_69 : decode cX9_dotPlaceField 69 = .ok (.aload_n 0, 1) := by decide +kernel
theorem dX9_dotPlaceField_70 : decode cX9_dotPlaceField 70 = .ok (.getfield 57, 3) := by decide +kernel
theorem dX9_dotPlaceField_73 : decode cX9_dotPlaceField 73 = .ok (.aload_n 0, 1) := by decide +kernel
theorem dX9_dotPlaceField_74 : decode cX9_dotPlaceField 74 = .ok (.getfield 57, 3) := by decide +kernel
theorem dX9_dotPlaceField_77 : decode cX9_dotPlaceField 77 = .ok (.getfield 129, 3) := by decide +kernel
theorem dX9_dotPlaceField_80 : decode cX9_dotPlaceField 80 = .ok (.getfield 133, 3) := by decide +kernel
theorem dX9_dotPlaceField_83 : decode cX9_dotPlaceField 83 = .ok (.bipush 96, 2) := by decide +kernel
theorem dX9_dotPlaceField_85 : decode cX9_dotPlaceField 85 = .ok (.idiv, 1) := by decide +kernel
theorem dX9_dotPlaceField_86 : decode cX9_dotPlaceField 86 = .ok (.putfield 453, 3) := by decide +kernel
theorem dX9_dotPlaceField_89 : decode cX9_dotPlaceField 89 = .ok (.aload_n 0, 1) := by decide +kernel
theorem dX9_dotPlaceField_90 : decode cX9_dotPlaceField 90 = .ok (.getfield 57, 3) := by decide +kernel
theorem dX9_dotPlaceField_93 : decode cX9_dotPlaceField 93 = .ok (.aload_n 0, 1) := by decide +kernel
theorem dX9_dotPlaceField_94 : decode cX9_dotPlaceField 94 = .ok (.getfield 57, 3) := by decide +kernel
theorem dX9_dotPlaceField_97 : decode cX9_dotPlaceField 97 = .ok (.getfield 129, 3) := by decide +kernel
theorem dX9_dotPlaceField_100 : decode cX9_dotPlaceField 100 = .ok (.getfield 138, 3) := by decide +kernel
theorem dX9_dotPlaceField_103 : decode cX9_dotPlaceField 103 = .ok (.bipush 96, 2) := by decide +kernel
theorem dX9_dotPlaceField_105 : decode cX9_dotPlaceField 105 = .ok (.idiv, 1) := by decide +kernel
theorem dX9_dotPlaceField_106 : decode cX9_dotPlaceField 106 = .ok (.putfield 456, 3) := by decide +kernel
theorem dX9_dotPlaceField_109 : decode cX9_dotPlaceField 109 = .ok (.return_, 1) := by decide +kernel
noncomputable def f_X9_dotPlaceField (T : Mm) : Option (Unit × Mm) :=
  rf true (gR T 913 23) 5 fun j1 =>
  if (gI T 505 j1) = 88 then (rf true (gR T 913 23) 5 fun j14 =>
  bd (f_X5_units j14 96 T) fun v16 T17 =>
  bd (f_X9_moveAcross v16 T17) fun _ T18 =>
  some ((), T18))
  else (rf true (gR T 913 23) 5 fun j3 =>
  if (gI T 505 j3) = 89 then (rf true (gR T 913 23) 5 fun j9 =>
  bd (f_X5_units j9 96 T) fun v11 T12 =>
  bd (f_X9_moveDown v11 0 T12) fun _ T13 =>
  some ((), T13))
  else (rf true (gR T 913 23) 5 fun j5 =>
  if (gI T 505 j5) = 82 then (lb (uI T 112 45 ((gI T 706 46) / 96)) fun T7 =>
  lb (uI T7 113 45 ((gI T7 707 46) / 96)) fun T8 =>
  some ((), T8))
  else (some ((), T))))
set_option maxRecDepth 100000 in
set_option maxHeartbeats 4000000 in
theorem s_X9_dotPlaceField {ad : Nat → Nat} {U T : Mm} {q : Unit × Mm}  (h : f_X9_dotPlaceField  T = some q) : Cr 4 yX9_dotPlaceField cX9_dotPlaceField 1 none [.ref (ad 23)] ad true U T eV q := by
  refine cr_of (by decide) (Nat.le_of_ble_eq_true rfl) fun x S0 hn9 C M => ?_
  have C : CB x RX9 cX9_dotPlaceField := C
  refine Jr.eq (lv' := [(0, .ref (ad 23))]) (st' := []) rfl rfl ?_
  unfold f_X9_dotPlaceField at h
  refine r_aload_n C dX9_dotPlaceField_0 rfl 0 rfl ?_
  refine r_getr (f := 913) (c := 5) C flX9_82 dX9_dotPlaceField_1 kq_23 (by decide) rfl h (fun j1 hj2 h => ?_)
  refine r_geti (f := 505) C flX9_327 dX9_dotPlaceField_4 hj2 (by decide) (by decide) rfl ?_
  refine r_bipush (v := 88) C dX9_dotPlaceField_7 (by decide) ?_
  refine r_ic_ne (tgt := 28) C dX9_dotPlaceField_9 (by decide) h (fun h => ?_) (fun h => ?_)
  · refine r_aload_n C dX9_dotPlaceField_28 rfl 0 rfl ?_
    refine r_getr (f := 913) (c := 5) C flX9_82 dX9_dotPlaceField_29 kq_23 (by decide) rfl h (fun j3 hj4 h => ?_)
    refine r_geti (f := 505) C flX9_327 dX9_dotPlaceField_32 hj4 (by decide) (by decide) rfl ?_
    refine r_bipush (v := 89) C dX9_dotPlaceField_35 (by decide) ?_
    refine r_ic_ne (tgt := 57) C dX9_dotPlaceField_37 (by decide) h (fun h => ?_) (fun h => ?_)
    · refine r_aload_n C dX9_dotPlaceField_57 rfl 0 rfl ?_
      refine r_getr (f := 913) (c := 5) C flX9_82 dX9_dotPlaceField_58 kq_23 (by decide) rfl h (fun j5 hj6 h => ?_)
      refine r_geti (f := 505) C flX9_327 dX9_dotPlaceField_61 hj6 (by decide) (by decide) rfl ?_
      refine r_bipush (v := 82) C dX9_dotPlaceField_64 (by decide) ?_
      refine r_ic_ne (tgt := 109) C dX9_dotPlaceField_66 (by decide) h (fun h => ?_) (fun h => ?_)
      · exact r_vret C M dX9_dotPlaceField_109 h
      · refine r_aload_n C dX9_dotPlaceField_69 rfl 0 rfl ?_
        refine r_getp (f := 909) (j := 45) C flX9_57 dX9_dotPlaceField_70 kq_23 (by decide) rfl (fun W => pt_909 kq_23 W) ?_
        refine r_aload_n C dX9_dotPlaceField_73 rfl 0 rfl ?_
        refine r_getp (f := 909) (j := 45) C flX9_57 dX9_dotPlaceField_74 kq_23 (by decide) rfl (fun W => pt_909 kq_23 W) ?_
        refine r_getp (f := 100) (j := 46) C flX9_129 dX9_dotPlaceField_77 kq_45 (by decide) rfl (fun W => pt_100 kq_45 W) ?_
        show Jr _ _ _ _ _ _ 80 _
        refine r_geti (f := 706) C flX9_133 dX9_dotPlaceField_80 kq_46 (by decide) (by decide) rfl ?_
        refine r_bipush (v := 96) C dX9_dotPlaceField_83 (by decide) ?_
        refine r_idiv C dX9_dotPlaceField_85 (by decide) rfl ?_
        refine r_puti (f := 112) C flX9_453 (by decide) rfl rfl dX9_dotPlaceField_86 kq_45 rfl h (fun T7 h => ?_)
        refine r_aload_n C dX9_dotPlaceField_89 rfl 0 rfl ?_
        refine r_getp (f := 909) (j := 45) C flX9_57 dX9_dotPlaceField_90 kq_23 (by decide) rfl (fun W => pt_909 kq_23 W) ?_
        show Jr _ _ _ _ _ _ 93 _
        refine r_aload_n C dX9_dotPlaceField_93 rfl 0 rfl ?_
        refine r_getp (f := 909) (j := 45) C flX9_57 dX9_dotPlaceField_94 kq_23 (by decide) rfl (fun W => pt_909 kq_23 W) ?_
        refine r_getp (f := 100) (j := 46) C flX9_129 dX9_dotPlaceField_97 kq_45 (by decide) rfl (fun W => pt_100 kq_45 W) ?_
        refine r_geti (f := 707) C flX9_138 dX9_dotPlaceField_100 kq_46 (by decide) (by decide) rfl ?_
        refine r_bipush (v := 96) C dX9_dotPlaceField_103 (by decide) ?_
        refine r_idiv C dX9_dotPlaceField_105 (by decide) rfl ?_
        show Jr _ _ _ _ _ _ 106 _
        refine r_puti (f := 113) C flX9_456 (by decide) rfl rfl dX9_dotPlaceField_106 kq_45 rfl h (fun T8 h => ?_)
        exact r_vret C M dX9_dotPlaceField_109 h
    · refine r_aload_n C dX9_dotPlaceField_40 rfl 0 rfl ?_
      refine r_aload_n C dX9_dotPlaceField_41 rfl 0 rfl ?_
      refine r_getr (f := 913) (c := 5) C flX9_82 dX9_dotPlaceField_42 kq_23 (by decide) rfl h (fun j9 hj10 h => ?_)
      refine r_bipush (v := 96) C dX9_dotPlaceField_45 (by decide) ?_
      refine r_callVJ C M h [.int 96] [.ref (ad 23)] mlX9_431 mcX5_units (fun q9 e9 => s_X5_units j9 96 hj10 e9) hj10 rfl (by decide) (by decide) rfl rfl (Nat.le_of_ble_eq_true rfl) dX9_dotPlaceField_47 (fun v11 T12 h => ?_)
      show Jr _ _ _ _ _ _ 50 _
      refine r_iconst (v := 0) C dX9_dotPlaceField_50 (by decide) ?_
      refine r_callVN C M h [.long v11, .int 0] [] mlX9_440 mcX9_moveDown (fun q9 e9 => s_X9_moveDown v11 0  e9) kq_23 rfl (by decide) (by decide) rfl rfl (Nat.le_of_ble_eq_true rfl) dX9_dotPlaceField_51 (fun _ T13 h => ?_)
      refine r_goto (tgt := 109) C dX9_dotPlaceField_54 (by decide) ?_
      exact r_vret C M dX9_dotPlaceField_109 h
  · refine r_aload_n C dX9_dotPlaceField_12 rfl 0 rfl ?_
    refine r_aload_n C dX9_dotPlaceField_13 rfl 0 rfl ?_
    refine r_getr (f := 913) (c := 5) C flX9_82 dX9_dotPlaceField_14 kq_23 (by decide) rfl h (fun j14 hj15 h => ?_)
    refine r_bipush (v := 96) C dX9_dotPlaceField_17 (by decide) ?_
    refine r_callVJ C M h [.int 96] [.ref (ad 23)] mlX9_431 mcX5_units (fun q9 e9 => s_X5_units j14 96 hj15 e9) hj15 rfl (by decide) (by decide) rfl rfl (Nat.le_of_ble_eq_true rfl) dX9_dotPlaceField_19 (fun v16 T17 h => ?_)
    show Jr _ _ _ _ _ _ 22 _
    refine r_callVN C M h [.long v16] [] mlX9_437 mcX9_moveAcross (fun q9 e9 => s_X9_moveAcross v16  e9) kq_23 rfl (by decide) (by decide) rfl rfl (Nat.le_of_ble_eq_true rfl) dX9_dotPlaceField_22 (fun _ T18 h => ?_)
    refine r_goto (tgt := 109) C dX9_dotPlaceField_25 (by decide) ?_
    exact r_vret C M dX9_dotPlaceField_109 h
theorem dX9_fontTask_0 : decode cX9_fontTask 0 = .ok (.iload_n 1, 1) := by decide +kernel
theorem dX9_fontTask_1 : decode cX9_fontTask 1 = .ok (.tableswitch 130 0 5 #[39, 39, 59, 76, 100, 100], 39) := by decide +kernel
theorem dX9_fontTask_40 : decode cX9_fontTask 40 = .ok (.aload_n 0, 1) := by decide +kernel
theorem dX9_fontTask_41 : decode cX9_fontTask 41 = .ok (.getfield 21, 3) := by decide +kernel
theorem dX9_fontTask_44 : decode cX9_fontTask 44 = .ok (.iload_n 1, 1) := by decide +kernel
theorem dX9_fontTask_45 : decode cX9_fontTask 45 = .ok (.iconst 1, 1) := by decide +kernel
theorem dX9_fontTask_46 : decode cX9_fontTask 46 = .ok (.if_icmp .ne 7, 3) := by decide +kernel
theorem dX9_fontTask_49 : decode cX9_fontTask 49 = .ok (.iconst 1, 1) := by decide +kernel
theorem dX9_fontTask_50 : decode cX9_fontTask 50 = .ok (.goto 4, 3) := by decide +kernel
theorem dX9_fontTask_53 : decode cX9_fontTask 53 = .ok (.iconst 0, 1) := by decide +kernel
theorem dX9_fontTask_54 : decode cX9_fontTask 54 = .ok (.invokevirtual 196, 3) := by decide +kernel
theorem dX9_fontTask_57 : decode cX9_fontTask 57 = .ok (.goto 74, 3) := by decide +kernel
theorem dX9_fontTask_60 : decode cX9_fontTask 60 = .ok (.aload_n 0, 1) := by decide +kernel
theorem dX9_fontTask_61 : decode cX9_fontTask 61 = .ok (.getfield 21, 3) := by decide +kernel
theorem dX9_fontTask_64 : decode cX9_fontTask 64 = .ok (.aload_n 0, 1) := by decide +kernel
theorem dX9_fontTask_65 : decode cX9_fontTask 65 = .ok (.getfield 57, 3) := by decide +kernel
theorem dX9_fontTask_68 : decode cX9_fontTask 68 = .ok (.getfield 399, 3) := by decide +kernel
theorem dX9_fontTask_71 : decode cX9_fontTask 71 = .ok (.invokevirtual 621, 3) := by decide +kernel
theorem dX9_fontTask_74 : decode cX9_fontTask 74 = .ok (.goto 57, 3) := by decide +kernel
theorem dX9_fontTask_77 : decode cX9_fontTask 77 = .ok (.aload_n 0, 1) := by decide +kernel
theorem dX9_fontTask_78 : decode cX9_fontTask 78 = .ok (.getfield 21, 3) := by decide +kernel
theorem dX9_fontTask_81 : decode cX9_fontTask 81 = .ok (.aload_n 0, 1) := by decide +kernel
theorem dX9_fontTask_82 : decode cX9_fontTask 82 = .ok (.getfield 57, 3) := by decide +kernel
theorem dX9_fontTask_85 : decode cX9_fontTask 85 = .ok (.getfield 399, 3) := by decide +kernel
theorem dX9_fontTask_88 : decode cX9_fontTask 88 = .ok (.aload_n 0, 1) := by decide +kernel
theorem dX9_fontTask_89 : decode cX9_fontTask 89 = .ok (.getfield 57, 3) := by decide +kernel
theorem dX9_fontTask_92 : decode cX9_fontTask 92 = .ok (.getfield 402, 3) := by decide +kernel
theorem dX9_fontTask_95 : decode cX9_fontTask 95 = .ok (.invokevirtual 622, 3) := by decide +kernel
theorem dX9_fontTask_98 : decode cX9_fontTask 98 = .ok (.goto 33, 3) := by decide +kernel
theorem dX9_fontTask_101 : decode cX9_fontTask 101 = .ok (.aload_n 0, 1) := by decide +kernel
theorem dX9_fontTask_102 : decode cX9_fontTask 102 = .ok (.getfield 21, 3) := by decide +kernel
theorem dX9_fontTask_105 : decode cX9_fontTask 105 = .ok (.getfield 176, 3) := by decide +kernel
theorem dX9_fontTask_108 : decode cX9_fontTask 108 = .ok (.aload_n 0, 1) := by decide +kernel
theorem dX9_fontTask_109 : decode cX9_fontTask 109 = .ok (.getfield 57, 3) := by decide +kernel
theorem dX9_fontTask_112 : decode cX9_fontTask 112 = .ok (.getfield 399, 3) := by decide +kernel
theorem dX9_fontTask_115 : decode cX9_fontTask 115 = .ok (.iload_n 1, 1) := by decide +kernel
theorem dX9_fontTask_116 : decode cX9_fontTask 116 = .ok (.iconst 4, 1) := by decide +kernel
theorem dX9_fontTask_117 : decode cX9_fontTask 117 = .ok (.if_icmp .ne 7, 3) := by decide +kernel
theorem dX9_fontTask_120 : decode cX9_fontTask 120 = .ok (.iconst 1, 1) := by decide +kernel
theorem dX9_fontTask_121 : decode cX9_fontTask 121 = .ok (.goto 4, 3) := by decide +kernel
theorem dX9_fontTask_124 : decode cX9_fontTask 124 = .ok (.iconst 0, 1) := by decide +kernel
theorem dX9_fontTask_125 : decode cX9_fontTask 125 = .ok (.invokevirtual 486, 3) := by decide +kernel
theorem dX9_fontTask_128 : decode cX9_fontTask 128 = .ok (.goto 3, 3) := by decide +kernel
theorem dX9_fontTask_131 : decode cX9_fontTask 131 = .ok (.return_, 1) := by decide +kernel
noncomputable def f_X9_fontTask (p1 : Int32) (T : Mm) : Option (Unit × Mm) :=
  if p1 = 0 then (if p1 = 1 then (bd (f_X2_removeMany 1 T) fun _ T3 =>
  some ((), T3))
  else (bd (f_X2_removeMany 0 T) fun _ T2 =>
  some ((), T2)))
  else if p1 = 1 then (if p1 = 1 then (bd (f_X2_removeMany 1 T) fun _ T6 =>
  some ((), T6))
  else (bd (f_X2_removeMany 0 T) fun _ T5 =>
  some ((), T5)))
  else if p1 = 2 then (bd (f_X2_remove (gI T 116 45) T) fun _ T8 =>
  some ((), T8))
  else if p1 = 3 then (bd (f_X2_removeGlyph (gI T 116 45) (gI T 117 45) T) fun _ T10 =>
  some ((), T10))
  else if p1 = 4 then (if p1 = 4 then (bd (f_X8_mark 28 (gI T 116 45) 1 T) fun _ T13 =>
  some ((), T13))
  else (bd (f_X8_mark 28 (gI T 116 45) 0 T) fun _ T12 =>
  some ((), T12)))
  else if p1 = 5 then (if p1 = 4 then (bd (f_X8_mark 28 (gI T 116 45) 1 T) fun _ T16 =>
  some ((), T16))
  else (bd (f_X8_mark 28 (gI T 116 45) 0 T) fun _ T15 =>
  some ((), T15)))
  else (some ((), T))
set_option maxRecDepth 100000 in
set_option maxHeartbeats 4000000 in
theorem s_X9_fontTask {ad : Nat → Nat} {U T : Mm} {q : Unit × Mm}  (p1 : Int32) (h : f_X9_fontTask p1 T = some q) : Cr 4 yX9_fontTask cX9_fontTask 2 none [.ref (ad 23), .int p1] ad true U T eV q := by
  refine cr_of (by decide) (Nat.le_of_ble_eq_true rfl) fun x S0 hn9 C M => ?_
  have C : CB x RX9 cX9_fontTask := C
  refine Jr.eq (lv' := [(0, .ref (ad 23)), (1, .int p1)]) (st' := []) rfl rfl ?_
  unfold f_X9_fontTask at h
  refine r_iload_n C dX9_fontTask_0 rfl 1 rfl ?_
  by_cases hs1 : p1 = 0
  · rw [if_pos hs1] at h
    refine r_top hs1 ?_
    refine r_tabIn (off := 39) (tgt := 40) C dX9_fontTask_1 (by decide) (by decide) (by decide) (by decide) ?_
    refine r_aload_n C dX9_fontTask_40 rfl 0 rfl ?_
    refine r_getp (f := 902) (j := 27) C flX9_21 dX9_fontTask_41 kq_23 (by decide) rfl (fun W => pt_902 kq_23 W) ?_
    refine r_iload_n C dX9_fontTask_44 rfl 1 rfl ?_
    refine r_iconst (v := 1) C dX9_fontTask_45 (by decide) ?_
    refine r_ic_ne (tgt := 53) C dX9_fontTask_46 (by decide) h (fun h => ?_) (fun h => ?_)
    · refine r_iconst (v := 0) C dX9_fontTask_53 (by decide) ?_
      refine r_callVN C M h [.int 0] [] mlX9_196 mcX2_removeMany (fun q9 e9 => s_X2_removeMany 0  e9) kq_27 rfl (by decide) (by decide) rfl rfl (Nat.le_of_ble_eq_true rfl) dX9_fontTask_54 (fun _ T2 h => ?_)
      refine r_goto (tgt := 131) C dX9_fontTask_57 (by decide) ?_
      exact r_vret C M dX9_fontTask_131 h
    · refine r_iconst (v := 1) C dX9_fontTask_49 (by decide) ?_
      refine r_goto (tgt := 54) C dX9_fontTask_50 (by decide) ?_
      refine r_callVN C M h [.int 1] [] mlX9_196 mcX2_removeMany (fun q9 e9 => s_X2_removeMany 1  e9) kq_27 rfl (by decide) (by decide) rfl rfl (Nat.le_of_ble_eq_true rfl) dX9_fontTask_54 (fun _ T3 h => ?_)
      refine r_goto (tgt := 131) C dX9_fontTask_57 (by decide) ?_
      exact r_vret C M dX9_fontTask_131 h
  rw [if_neg hs1] at h
  by_cases hs4 : p1 = 1
  · rw [if_pos hs4] at h
    refine r_top hs4 ?_
    refine r_tabIn (off := 39) (tgt := 40) C dX9_fontTask_1 (by decide) (by decide) (by decide) (by decide) ?_
    refine r_aload_n C dX9_fontTask_40 rfl 0 rfl ?_
    refine r_getp (f := 902) (j := 27) C flX9_21 dX9_fontTask_41 kq_23 (by decide) rfl (fun W => pt_902 kq_23 W) ?_
    refine r_iload_n C dX9_fontTask_44 rfl 1 rfl ?_
    refine r_iconst (v := 1) C dX9_fontTask_45 (by decide) ?_
    refine r_ic_ne (tgt := 53) C dX9_fontTask_46 (by decide) h (fun h => ?_) (fun h => ?_)
    · refine r_iconst (v := 0) C dX9_fontTask_53 (by decide) ?_
      refine r_callVN C M h [.int 0] [] mlX9_196 mcX2_removeMany (fun q9 e9 => s_X2_removeMany 0  e9) kq_27 rfl (by decide) (by decide) rfl rfl (Nat.le_of_ble_eq_true rfl) dX9_fontTask_54 (fun _ T5 h => ?_)
      refine r_goto (tgt := 131) C dX9_fontTask_57 (by decide) ?_
      exact r_vret C M dX9_fontTask_131 h
    · refine r_iconst (v := 1) C dX9_fontTask_49 (by decide) ?_
      refine r_goto (tgt := 54) C dX9_fontTask_50 (by decide) ?_
      refine r_callVN C M h [.int 1] [] mlX9_196 mcX2_removeMany (fun q9 e9 => s_X2_removeMany 1  e9) kq_27 rfl (by decide) (by decide) rfl rfl (Nat.le_of_ble_eq_true rfl) dX9_fontTask_54 (fun _ T6 h => ?_)
      refine r_goto (tgt := 131) C dX9_fontTask_57 (by decide) ?_
      exact r_vret C M dX9_fontTask_131 h
  rw [if_neg hs4] at h
  by_cases hs7 : p1 = 2
  · rw [if_pos hs7] at h
    refine r_top hs7 ?_
    refine r_tabIn (off := 59) (tgt := 60) C dX9_fontTask_1 (by decide) (by decide) (by decide) (by decide) ?_
    refine r_aload_n C dX9_fontTask_60 rfl 0 rfl ?_
    refine r_getp (f := 902) (j := 27) C flX9_21 dX9_fontTask_61 kq_23 (by decide) rfl (fun W => pt_902 kq_23 W) ?_
    refine r_aload_n C dX9_fontTask_64 rfl 0 rfl ?_
    refine r_getp (f := 909) (j := 45) C flX9_57 dX9_fontTask_65 kq_23 (by decide) rfl (fun W => pt_909 kq_23 W) ?_
    refine r_geti (f := 116) C flX9_399 dX9_fontTask_68 kq_45 (by decide) (by decide) rfl ?_
    show Jr _ _ _ _ _ _ 71 _
    refine r_callVN C M h [.int (gI T 116 45)] [] mlX9_621 mcX2_remove (fun q9 e9 => s_X2_remove (gI T 116 45)  e9) kq_27 rfl (by decide) (by decide) rfl rfl (Nat.le_of_ble_eq_true rfl) dX9_fontTask_71 (fun _ T8 h => ?_)
    refine r_goto (tgt := 131) C dX9_fontTask_74 (by decide) ?_
    exact r_vret C M dX9_fontTask_131 h
  rw [if_neg hs7] at h
  by_cases hs9 : p1 = 3
  · rw [if_pos hs9] at h
    refine r_top hs9 ?_
    refine r_tabIn (off := 76) (tgt := 77) C dX9_fontTask_1 (by decide) (by decide) (by decide) (by decide) ?_
    refine r_aload_n C dX9_fontTask_77 rfl 0 rfl ?_
    refine r_getp (f := 902) (j := 27) C flX9_21 dX9_fontTask_78 kq_23 (by decide) rfl (fun W => pt_902 kq_23 W) ?_
    refine r_aload_n C dX9_fontTask_81 rfl 0 rfl ?_
    refine r_getp (f := 909) (j := 45) C flX9_57 dX9_fontTask_82 kq_23 (by decide) rfl (fun W => pt_909 kq_23 W) ?_
    refine r_geti (f := 116) C flX9_399 dX9_fontTask_85 kq_45 (by decide) (by decide) rfl ?_
    show Jr _ _ _ _ _ _ 88 _
    refine r_aload_n C dX9_fontTask_88 rfl 0 rfl ?_
    refine r_getp (f := 909) (j := 45) C flX9_57 dX9_fontTask_89 kq_23 (by decide) rfl (fun W => pt_909 kq_23 W) ?_
    refine r_geti (f := 117) C flX9_402 dX9_fontTask_92 kq_45 (by decide) (by decide) rfl ?_
    refine r_callVN C M h [.int (gI T 116 45), .int (gI T 117 45)] [] mlX9_622 mcX2_removeGlyph (fun q9 e9 => s_X2_removeGlyph (gI T 116 45) (gI T 117 45)  e9) kq_27 rfl (by decide) (by decide) rfl rfl (Nat.le_of_ble_eq_true rfl) dX9_fontTask_95 (fun _ T10 h => ?_)
    refine r_goto (tgt := 131) C dX9_fontTask_98 (by decide) ?_
    exact r_vret C M dX9_fontTask_131 h
  rw [if_neg hs9] at h
  by_cases hs11 : p1 = 4
  · rw [if_pos hs11] at h
    refine r_top hs11 ?_
    refine r_tabIn (off := 100) (tgt := 101) C dX9_fontTask_1 (by decide) (by decide) (by decide) (by decide) ?_
    refine r_aload_n C dX9_fontTask_101 rfl 0 rfl ?_
    refine r_getp (f := 902) (j := 27) C flX9_21 dX9_fontTask_102 kq_23 (by decide) rfl (fun W => pt_902 kq_23 W) ?_
    refine r_getp (f := 200) (j := 28) C flX9_176 dX9_fontTask_105 kq_27 (by decide) rfl (fun W => pt_200 kq_27 W) ?_
    refine r_aload_n C dX9_fontTask_108 rfl 0 rfl ?_
    refine r_getp (f := 909) (j := 45) C flX9_57 dX9_fontTask_109 kq_23 (by decide) rfl (fun W => pt_909 kq_23 W) ?_
    show Jr _ _ _ _ _ _ 112 _
    refine r_geti (f := 116) C flX9_399 dX9_fontTask_112 kq_45 (by decide) (by decide) rfl ?_
    refine r_iload_n C dX9_fontTask_115 rfl 1 rfl ?_
    refine r_iconst (v := 4) C dX9_fontTask_116 (by decide) ?_
    refine r_ic_ne (tgt := 124) C dX9_fontTask_117 (by decide) h (fun h => ?_) (fun h => ?_)
    · refine r_iconst (v := 0) C dX9_fontTask_124 (by decide) ?_
      refine r_callVN C M h [.int (gI T 116 45), .int 0] [] mlX9_486 mcX8_mark (fun q9 e9 => s_X8_mark 28 (gI T 116 45) 0 kq_28 e9) kq_28 rfl (by decide) (by decide) rfl rfl (Nat.le_of_ble_eq_true rfl) dX9_fontTask_125 (fun _ T12 h => ?_)
      refine r_goto (tgt := 131) C dX9_fontTask_128 (by decide) ?_
      exact r_vret C M dX9_fontTask_131 h
    · refine r_iconst (v := 1) C dX9_fontTask_120 (by decide) ?_
      refine r_goto (tgt := 125) C dX9_fontTask_121 (by decide) ?_
      refine r_callVN C M h [.int (gI T 116 45), .int 1] [] mlX9_486 mcX8_mark (fun q9 e9 => s_X8_mark 28 (gI T 116 45) 1 kq_28 e9) kq_28 rfl (by decide) (by decide) rfl rfl (Nat.le_of_ble_eq_true rfl) dX9_fontTask_125 (fun _ T13 h => ?_)
      refine r_goto (tgt := 131) C dX9_fontTask_128 (by decide) ?_
      exact r_vret C M dX9_fontTask_131 h
  rw [if_neg hs11] at h
  by_cases hs14 : p1 = 5
  · rw [if_pos hs14] at h
    refine r_top hs14 ?_
    refine r_tabIn (off := 100) (tgt := 101) C dX9_fontTask_1 (by decide) (by decide) (by decide) (by decide) ?_
    refine r_aload_n C dX9_fontTask_101 rfl 0 rfl ?_
    refine r_getp (f := 902) (j := 27) C flX9_21 dX9_fontTask_102 kq_23 (by decide) rfl (fun W => pt_902 kq_23 W) ?_
    refine r_getp (f := 200) (j := 28) C flX9_176 dX9_fontTask_105 kq_27 (by decide) rfl (fun W => pt_200 kq_27 W) ?_
    refine r_aload_n C dX9_fontTask_108 rfl 0 rfl ?_
    refine r_getp (f := 909) (j := 45) C flX9_57 dX9_fontTask_109 kq_23 (by decide) rfl (fun W => pt_909 kq_23 W) ?_
    show Jr _ _ _ _ _ _ 112 _
    refine r_geti (f := 116) C flX9_399 dX9_fontTask_112 kq_45 (by decide) (by decide) rfl ?_
    refine r_iload_n C dX9_fontTask_115 rfl 1 rfl ?_
    refine r_iconst (v := 4) C dX9_fontTask_116 (by decide) ?_
    refine r_ic_ne (tgt := 124) C dX9_fontTask_117 (by decide) h (fun h => ?_) (fun h => ?_)
    · refine r_iconst (v := 0) C dX9_fontTask_124 (by decide) ?_
      refine r_callVN C M h [.int (gI T 116 45), .int 0] [] mlX9_486 mcX8_mark (fun q9 e9 => s_X8_mark 28 (gI T 116 45) 0 kq_28 e9) kq_28 rfl (by decide) (by decide) rfl rfl (Nat.le_of_ble_eq_true rfl) dX9_fontTask_125 (fun _ T15 h => ?_)
      refine r_goto (tgt := 131) C dX9_fontTask_128 (by decide) ?_
      exact r_vret C M dX9_fontTask_131 h
    · refine r_iconst (v := 1) C dX9_fontTask_120 (by decide) ?_
      refine r_goto (tgt := 125) C dX9_fontTask_121 (by decide) ?_
      refine r_callVN C M h [.int (gI T 116 45), .int 1] [] mlX9_486 mcX8_mark (fun q9 e9 => s_X8_mark 28 (gI T 116 45) 1 kq_28 e9) kq_28 rfl (by decide) (by decide) rfl rfl (Nat.le_of_ble_eq_true rfl) dX9_fontTask_125 (fun _ T16 h => ?_)
      refine r_goto (tgt := 131) C dX9_fontTask_128 (by decide) ?_
      exact r_vret C M dX9_fontTask_131 h
  rw [if_neg hs14] at h
  refine r_tabOut (tgt := 131) C dX9_fontTask_1 (by have t09 : (p1).toInt ≠ 0 := ne_toInt hs1 (by decide); have t19 : (p1).toInt ≠ 1 := ne_toInt hs4 (by decide); have t29 : (p1).toInt ≠ 2 := ne_toInt hs7 (by decide); have t39 : (p1).toInt ≠ 3 := ne_toInt hs9 (by decide); have t49 : (p1).toInt ≠ 4 := ne_toInt hs11 (by decide); have t59 : (p1).toInt ≠ 5 := ne_toInt hs14 (by decide); omega) (by decide) ?_
  exact r_vret C M dX9_fontTask_131 h
theorem dX9_tellTile_0 : decode cX9_tellTile 0 = .ok (.aload_n 0, 1) := by decide +kernel
theorem dX9_tellTile_1 : decode cX9_tellTile 1 = .ok (.getfield 82, 3) := by decide +kernel
theorem dX9_tellTile_4 : decode cX9_tellTile 4 = .ok (.iconst 0, 1) := by decide +kernel
theorem dX9_tellTile_5 : decode cX9_tellTile 5 = .ok (.invokevirtual 321, 3) := by decide +kernel
theorem dX9_tellTile_8 : decode cX9_tellTile 8 = .ok (.istore_n 2, 1) := by decide +kernel
theorem dX9_tellTile_9 : decode cX9_tellTile 9 = .ok (.aload_n 0, 1) := by decide +kernel
theorem dX9_tellTile_10 : decode cX9_tellTile 10 = .ok (.getfield 82, 3) := by decide +kernel
theorem dX9_tellTile_13 : decode cX9_tellTile 13 = .ok (.iconst 1, 1) := by decide +kernel
theorem dX9_tellTile_14 : decode cX9_tellTile 14 = .ok (.invokevirtual 321, 3) := by decide +kernel
theorem dX9_tellTile_17 : decode cX9_tellTile 17 = .ok (.istore_n 3, 1) := by decide +kernel
theorem dX9_tellTile_18 : decode cX9_tellTile 18 = .ok (.iload_n 2, 1) := by decide +kernel
theorem dX9_tellTile_19 : decode cX9_tellTile 19 = .ok (.bipush 7, 2) := by decide +kernel
theorem dX9_tellTile_21 : decode cX9_tellTile 21 = .ok (.iadd, 1) := by decide +kernel
theorem dX9_tellTile_22 : decode cX9_tellTile 22 = .ok (.bipush 8, 2) := by decide +kernel
theorem dX9_tellTile_24 : decode cX9_tellTile 24 = .ok (.idiv, 1) := by decide +kernel
theorem dX9_tellTile_25 : decode cX9_tellTile 25 = .ok (.istore 4, 2) := by decide +kernel
theorem dX9_tellTile_27 : decode cX9_tellTile 27 = .ok (.iload_n 2, 1) := by decide +kernel
theorem dX9_tellTile_28 : decode cX9_tellTile 28 = .ok (.iconst 1, 1) := by decide +kernel
theorem dX9_tellTile_29 : decode cX9_tellTile 29 = .ok (.if_icmp .lt 40, 3) := by decide +kernel
theorem dX9_tellTile_32 : decode cX9_tellTile 32 = .ok (.iload_n 2, 1) := by decide +kernel
theorem dX9_tellTile_33 : decode cX9_tellTile 33 = .ok (.bipush 16, 2) := by decide +kernel
theorem dX9_tellTile_35 : decode cX9_tellTile 35 = .ok (.if_icmp .gt 34, 3) := by decide +kernel
theorem dX9_tellTile_38 : decode cX9_tellTile 38 = .ok (.iload_n 3, 1) := by decide +kernel
theorem dX9_tellTile_39 : decode cX9_tellTile 39 = .ok (.iconst 1, 1) := by decide +kernel
theorem dX9_tellTile_40 : decode cX9_tellTile 40 = .ok (.if_icmp .lt 29, 3) := by decide +kernel
theorem dX9_tellTile_43 : decode cX9_tellTile 43 = .ok (.iload_n 3, 1) := by decide +kernel
theorem dX9_tellTile_44 : decode cX9_tellTile 44 = .ok (.bipush 16, 2) := by decide +kernel
theorem dX9_tellTile_46 : decode cX9_tellTile 46 = .ok (.if_icmp .gt 23, 3) := by decide +kernel
theorem dX9_tellTile_49 : decode cX9_tellTile 49 = .ok (.aload_n 0, 1) := by decide +kernel
theorem dX9_tellTile_50 : decode cX9_tellTile 50 = .ok (.getfield 82, 3) := by decide +kernel
theorem dX9_tellTile_53 : decode cX9_tellTile 53 = .ok (.getfield 318, 3) := by decide +kernel
theorem dX9_tellTile_56 : decode cX9_tellTile 56 = .ok (.iconst 2, 1) := by decide +kernel
theorem dX9_tellTile_57 : decode cX9_tellTile 57 = .ok (.iload_n 3, 1) := by decide +kernel
theorem dX9_tellTile_58 : decode cX9_tellTile 58 = .ok (.iload 4, 2) := by decide +kernel
theorem dX9_tellTile_60 : decode cX9_tellTile 60 = .ok (.imul, 1) := by decide +kernel
theorem dX9_tellTile_61 : decode cX9_tellTile 61 = .ok (.iadd, 1) := by decide +kernel
theorem dX9_tellTile_62 : decode cX9_tellTile 62 = .ok (.if_icmp .lt 7, 3) := by decide +kernel
theorem dX9_tellTile_65 : decode cX9_tellTile 65 = .ok (.iconst 1, 1) := by decide +kernel
theorem dX9_tellTile_66 : decode cX9_tellTile 66 = .ok (.goto 4, 3) := by decide +kernel
theorem dX9_tellTile_69 : decode cX9_tellTile 69 = .ok (.iconst 0, 1) := by decide +kernel
theorem dX9_tellTile_70 : decode cX9_tellTile 70 = .ok (.istore 5, 2) := by decide +kernel
theorem dX9_tellTile_72 : decode cX9_tellTile 72 = .ok (.iload 5, 2) := by decide +kernel
theorem dX9_tellTile_74 : decode cX9_tellTile 74 = .ok (.ifCond .eq 25, 3) := by decide +kernel
theorem dX9_tellTile_77 : decode cX9_tellTile 77 = .ok (.iload_n 1, 1) := by decide +kernel
theorem dX9_tellTile_78 : decode cX9_tellTile 78 = .ok (.ifCond .lt 21, 3) := by decide +kernel
theorem dX9_tellTile_81 : decode cX9_tellTile 81 = .ok (.iload_n 1, 1) := by decide +kernel
theorem dX9_tellTile_82 : decode cX9_tellTile 82 = .ok (.aload_n 0, 1) := by decide +kernel
theorem dX9_tellTile_83 : decode cX9_tellTile 83 = .ok (.getfield 34, 3) := by decide +kernel
theorem dX9_tellTile_86 : decode cX9_tellTile 86 = .ok (.arraylength, 1) := by decide +kernel
theorem dX9_tellTile_87 : decode cX9_tellTile 87 = .ok (.if_icmp .ge 12, 3) := by decide +kernel
theorem dX9_tellTile_90 : decode cX9_tellTile 90 = .ok (.aload_n 0, 1) := by decide +kernel
theorem dX9_tellTile_91 : decode cX9_tellTile 91 = .ok (.getfield 34, 3) := by decide +kernel
theorem dX9_tellTile_94 : decode cX9_tellTile 94 = .ok (.iload_n 1, 1) := by decide +kernel
theorem dX9_tellTile_95 : decode cX9_tellTile 95 = .ok (.aaload, 1) := by decide +kernel
theorem dX9_tellTile_96 : decode cX9_tellTile 96 = .ok (.ifnonnull 4, 3) := by decide +kernel
theorem dX9_tellTile_99 : decode cX9_tellTile 99 = .ok (.return_, 1) := by decide +kernel
theorem dX9_tellTile_100 : decode cX9_tellTile 100 = .ok (.aload_n 0, 1) := by decide +kernel
theorem dX9_tellTile_101 : decode cX9_tellTile 101 = .ok (.getfield 34, 3) := by decide +kernel
theorem dX9_tellTile_104 : decode cX9_tellTile 104 = .ok (.iload_n 1, 1) := by decide +kernel
theorem dX9_tellTile_105 : decode cX9_tellTile 105 = .ok (.aaload, 1) := by decide +kernel
theorem dX9_tellTile_106 : decode cX9_tellTile 106 = .ok (.astore 6, 2) := by decide +kernel
theorem dX9_tellTile_108 : decode cX9_tellTile 108 = .ok (.aload 6, 2) := by decide +kernel
theorem dX9_tellTile_110 : decode cX9_tellTile 110 = .ok (.iload_n 2, 1) := by decide +kernel
theorem dX9_tellTile_111 : decode cX9_tellTile 111 = .ok (.iload_n 3, 1) := by decide +kernel
theorem dX9_tellTile_112 : decode cX9_tellTile 112 = .ok (.invokevirtual 625, 3) := by decide +kernel
theorem dX9_tellTile_115 : decode cX9_tellTile 115 = .ok (.iconst 0, 1) := by decide +kernel
theorem dX9_tellTile_116 : decode cX9_tellTile 116 = .ok (.istore 7, 2) := by decide +kernel
theorem dX9_tellTile_118 : decode cX9_tellTile 118 = .ok (.iload 7, 2) := by decide +kernel
theorem dX9_tellTile_120 : decode cX9_tellTile 120 = .ok (.iload_n 3, 1) := by decide +kernel
theorem dX9_tellTile_121 : decode cX9_tellTile 121 = .ok (.if_icmp .ge 70, 3) := by decide +kernel
theorem dX9_tellTile_124 : decode cX9_tellTile 124 = .ok (.iconst 0, 1) := by decide +kernel
theorem dX9_tellTile_125 : decode cX9_tellTile 125 = .ok (.istore 8, 2) := by decide +kernel
theorem dX9_tellTile_127 : decode cX9_tellTile 127 = .ok (.iconst 0, 1) := by decide +kernel
theorem dX9_tellTile_128 : decode cX9_tellTile 128 = .ok (.istore 9, 2) := by decide +kernel
theorem dX9_tellTile_130 : decode cX9_tellTile 130 = .ok (.iload 9, 2) := by decide +kernel
theorem dX9_tellTile_132 : decode cX9_tellTile 132 = .ok (.iload 4, 2) := by decide +kernel
theorem dX9_tellTile_134 : decode cX9_tellTile 134 = .ok (.if_icmp .ge 34, 3) := by decide +kernel
theorem dX9_tellTile_137 : decode cX9_tellTile 137 = .ok (.iload 8, 2) := by decide +kernel
theorem dX9_tellTile_139 : decode cX9_tellTile 139 = .ok (.bipush 8, 2) := by decide +kernel
theorem dX9_tellTile_141 : decode cX9_tellTile 141 = .ok (.ishl, 1) := by decide +kernel
theorem dX9_tellTile_142 : decode cX9_tellTile 142 = .ok (.aload_n 0, 1) := by decide +kernel
theorem dX9_tellTile_143 : decode cX9_tellTile 143 = .ok (.getfield 82, 3) := by decide +kernel
theorem dX9_tellTile_146 : decode cX9_tellTile 146 = .ok (.iconst 2, 1) := by decide +kernel
theorem dX9_tellTile_147 : decode cX9_tellTile 147 = .ok (.iload 7, 2) := by decide +kernel
theorem dX9_tellTile_149 : decode cX9_tellTile 149 = .ok (.iload 4, 2) := by decide +kernel
theorem dX9_tellTile_151 : decode cX9_tellTile 151 = .ok (.imul, 1) := by decide +kernel
theorem dX9_tellTile_152 : decode cX9_tellTile 152 = .ok (.iadd, 1) := by decide +kernel
theorem dX9_tellTile_153 : decode cX9_tellTile 153 = .ok (.iload 9, 2) := by decide +kernel
theorem dX9_tellTile_155 : decode cX9_tellTile 155 = .ok (.iadd, 1) := by decide +kernel
theorem dX9_tellTile_156 : decode cX9_tellTile 156 = .ok (.invokevirtual 321, 3) := by decide +kernel
theorem dX9_tellTile_159 : decode cX9_tellTile 159 = .ok (.ior, 1) := by decide +kernel
theorem dX9_tellTile_160 : decode cX9_tellTile 160 = .ok (.istore 8, 2) := by decide +kernel
theorem dX9_tellTile_162 : decode cX9_tellTile 162 = .ok (.iinc 9 1, 3) := by decide +kernel
theorem dX9_tellTile_165 : decode cX9_tellTile 165 = .ok (.goto (-35), 3) := by decide +kernel
theorem dX9_tellTile_168 : decode cX9_tellTile 168 = .ok (.aload 6, 2) := by decide +kernel
theorem dX9_tellTile_170 : decode cX9_tellTile 170 = .ok (.iload 7, 2) := by decide +kernel
theorem dX9_tellTile_172 : decode cX9_tellTile 172 = .ok (.iload 8, 2) := by decide +kernel
theorem dX9_tellTile_174 : decode cX9_tellTile 174 = .ok (.bipush 8, 2) := by decide +kernel
theorem dX9_tellTile_176 : decode cX9_tellTile 176 = .ok (.iload 4, 2) := by decide +kernel
theorem dX9_tellTile_178 : decode cX9_tellTile 178 = .ok (.imul, 1) := by decide +kernel
theorem dX9_tellTile_179 : decode cX9_tellTile 179 = .ok (.iload_n 2, 1) := by decide +kernel
theorem dX9_tellTile_180 : decode cX9_tellTile 180 = .ok (.isub, 1) := by decide +kernel
theorem dX9_tellTile_181 : decode cX9_tellTile 181 = .ok (.ishr, 1) := by decide +kernel
theorem dX9_tellTile_182 : decode cX9_tellTile 182 = .ok (.invokevirtual 628, 3) := by decide +kernel
theorem dX9_tellTile_185 : decode cX9_tellTile 185 = .ok (.iinc 7 1, 3) := by decide +kernel
theorem dX9_tellTile_188 : decode cX9_tellTile 188 = .ok (.goto (-70), 3) := by decide +kernel
theorem dX9_tellTile_191 : decode cX9_tellTile 191 = .ok (.aload_n 0, 1) := by decide +kernel
theorem dX9_tellTile_192 : decode cX9_tellTile 192 = .ok (.getfield 28, 3) := by decide +kernel
theorem dX9_tellTile_195 : decode cX9_tellTile 195 = .ok (.iload_n 1, 1) := by decide +kernel
theorem dX9_tellTile_196 : decode cX9_tellTile 196 = .ok (.invokevirtual 502, 3) := by decide +kernel
theorem dX9_tellTile_199 : decode cX9_tellTile 199 = .ok (.return_, 1) := by decide +kernel
noncomputable def f_X9_tellTile_b130 (k118 : Int32 → Int32 → Int32 → Int32 → Nat → Int32 → Mm → Option (Unit × Mm)) (k130 : Int32 → Int32 → Int32 → Int32 → Nat → Int32 → Int32 → Int32 → Mm → Option (Unit × Mm)) (a1 : Int32) (a2 : Int32) (a3 : Int32) (a4 : Int32) (a6 : Nat) (a7 : Int32) (a8 : Int32) (a9 : Int32) (T : Mm) : Option (Unit × Mm) :=
  if a4 ≤ a9 then (bd (f_X10_setRow a6 a7 (a8 >>> ((((8 : Int32) * a4) - a2) &&& 31)) T) fun _ T1 =>
  k118 a1 a2 a3 a4 a6 (a7 + 1) T1)
  else (rf true (gR T 913 23) 5 fun j2 =>
  bd (f_X5_dataByte j2 (((2 : Int32) + (a7 * a4)) + a9) T) fun v4 T5 =>
  lb (((a8 <<< ((8 : Int32) &&& 31)) ||| v4)) fun v6 =>
  k130 a1 a2 a3 a4 a6 a7 v6 (a9 + 1) T5)
set_option maxRecDepth 100000 in
set_option maxHeartbeats 4000000 in
theorem s_X9_tellTile_b130 {x : JX} {ad : Nat → Nat} {U : Mm} {S0 : Hp} {q : Unit × Mm}  {k118 : Int32 → Int32 → Int32 → Int32 → Nat → Int32 → Mm → Option (Unit × Mm)} {k130 : Int32 → Int32 → Int32 → Int32 → Nat → Int32 → Int32 → Int32 → Mm → Option (Unit × Mm)} (hn9 : x_n x = 10) (C : CB x RX9 cX9_tellTile) (M : CMr x 3 none S0 ad true U eV q) (hk118 : ∀ (a1 : Int32) (a2 : Int32) (a3 : Int32) (a4 : Int32) (a6 : Nat) (a7 : Int32) (T : Mm) (_ : kS true a6 = 10), k118 a1 a2 a3 a4 a6 a7 T = some q → Jr x ad true U T [(0, .ref (ad 23)), (1, .int a1), (2, .int a2), (3, .int a3), (4, .int a4), (6, .ref (ad a6)), (7, .int a7)] 118 []) (hk130 : ∀ (a1 : Int32) (a2 : Int32) (a3 : Int32) (a4 : Int32) (a6 : Nat) (a7 : Int32) (a8 : Int32) (a9 : Int32) (T : Mm) (_ : kS true a6 = 10), k130 a1 a2 a3 a4 a6 a7 a8 a9 T = some q → Jr x ad true U T [(0, .ref (ad 23)), (1, .int a1), (2, .int a2), (3, .int a3), (4, .int a4), (6, .ref (ad a6)), (7, .int a7), (8, .int a8), (9, .int a9)] 130 []) (a1 : Int32) (a2 : Int32) (a3 : Int32) (a4 : Int32) (a6 : Nat) (a7 : Int32) (a8 : Int32) (a9 : Int32) (T : Mm) (ha6 : kS true a6 = 10) (h : f_X9_tellTile_b130 k118 k130 a1 a2 a3 a4 a6 a7 a8 a9 T = some q) : Jr x ad true U T [(0, .ref (ad 23)), (1, .int a1), (2, .int a2), (3, .int a3), (4, .int a4), (6, .ref (ad a6)), (7, .int a7), (8, .int a8), (9, .int a9)] 130 [] := by
  unfold f_X9_tellTile_b130 at h
  refine r_iload C dX9_tellTile_130 8 rfl ?_
  refine r_iload C dX9_tellTile_132 4 rfl ?_
  refine r_ic_ge (tgt := 168) C dX9_tellTile_134 (by decide) h (fun h => ?_) (fun h => ?_)
  · refine r_aload C dX9_tellTile_168 5 rfl ?_
    refine r_iload C dX9_tellTile_170 6 rfl ?_
    refine r_iload C dX9_tellTile_172 7 rfl ?_
    refine r_bipush (v := 8) C dX9_tellTile_174 (by decide) ?_
    refine r_iload C dX9_tellTile_176 4 rfl ?_
    show Jr _ _ _ _ _ _ 178 _
    refine r_imul C dX9_tellTile_178 rfl ?_
    refine r_iload_n C dX9_tellTile_179 rfl 2 rfl ?_
    refine r_isub C dX9_tellTile_180 rfl ?_
    refine r_ishr C dX9_tellTile_181 rfl ?_
    refine r_callVN C M h [.int a7, .int (a8 >>> ((((8 : Int32) * a4) - a2) &&& 31))] [] mlX9_628 mcX10_setRow (fun q9 e9 => s_X10_setRow a6 a7 (a8 >>> ((((8 : Int32) * a4) - a2) &&& 31)) ha6 e9) ha6 rfl (by decide) (by decide) rfl rfl (Nat.le_of_ble_eq_true rfl) dX9_tellTile_182 (fun _ T1 h => ?_)
    refine r_iinc (q := 6) (v := (a7 + 1)) (lv' := [(7, .int (a7 + 1)), (0, .ref (ad 23)), (1, .int a1), (2, .int a2), (3, .int a3), (4, .int a4), (6, .ref (ad a6)), (8, .int a8), (9, .int a9)]) C dX9_tellTile_185 rfl (by rw [show Int32.ofInt (1) = 1 by decide]) (by rw [hn9]; decide) rfl ?_
    show Jr _ _ _ _ _ _ 188 _
    refine r_goto (tgt := 118) C dX9_tellTile_188 (by decide) ?_
    refine Jr.sub [1, 2, 3, 4, 5, 6, 0] (lv' := [(0, .ref (ad 23)), (1, .int a1), (2, .int a2), (3, .int a3), (4, .int a4), (6, .ref (ad a6)), (7, .int (a7 + 1))]) rfl ?_
    exact hk118 a1 a2 a3 a4 a6 (a7 + 1) T1 ha6 h
  · refine r_iload C dX9_tellTile_137 7 rfl ?_
    refine r_bipush (v := 8) C dX9_tellTile_139 (by decide) ?_
    refine r_ishl C dX9_tellTile_141 rfl ?_
    refine r_aload_n C dX9_tellTile_142 rfl 0 rfl ?_
    refine r_getr (f := 913) (c := 5) C flX9_82 dX9_tellTile_143 kq_23 (by decide) rfl h (fun j2 hj3 h => ?_)
    show Jr _ _ _ _ _ _ 146 _
    refine r_iconst (v := 2) C dX9_tellTile_146 (by decide) ?_
    refine r_iload C dX9_tellTile_147 6 rfl ?_
    refine r_iload C dX9_tellTile_149 4 rfl ?_
    refine r_imul C dX9_tellTile_151 rfl ?_
    refine r_iadd C dX9_tellTile_152 rfl ?_
    refine r_iload C dX9_tellTile_153 8 rfl ?_
    show Jr _ _ _ _ _ _ 155 _
    refine r_iadd C dX9_tellTile_155 rfl ?_
    refine r_callVI C M h [.int (((2 : Int32) + (a7 * a4)) + a9)] [.int (a8 <<< ((8 : Int32) &&& 31))] mlX9_321 mcX5_dataByte (fun q9 e9 => s_X5_dataByte j2 (((2 : Int32) + (a7 * a4)) + a9) hj3 e9) hj3 rfl (by decide) (by decide) rfl rfl (Nat.le_of_ble_eq_true rfl) dX9_tellTile_156 (fun v4 T5 h => ?_)
    refine r_ior C dX9_tellTile_159 rfl ?_
    refine r_lbI h (fun v6 h => ?_)
    refine r_istore (lv' := [(8, .int v6), (0, .ref (ad 23)), (1, .int a1), (2, .int a2), (3, .int a3), (4, .int a4), (6, .ref (ad a6)), (7, .int a7), (9, .int a9)]) C dX9_tellTile_160 (by rw [hn9]; decide) rfl ?_
    refine r_iinc (q := 8) (v := (a9 + 1)) (lv' := [(9, .int (a9 + 1)), (8, .int v6), (0, .ref (ad 23)), (1, .int a1), (2, .int a2), (3, .int a3), (4, .int a4), (6, .ref (ad a6)), (7, .int a7)]) C dX9_tellTile_162 rfl (by rw [show Int32.ofInt (1) = 1 by decide]) (by rw [hn9]; decide) rfl ?_
    refine r_goto (tgt := 130) C dX9_tellTile_165 (by decide) ?_
    refine Jr.sub [2, 3, 4, 5, 6, 7, 8, 1, 0] (lv' := [(0, .ref (ad 23)), (1, .int a1), (2, .int a2), (3, .int a3), (4, .int a4), (6, .ref (ad a6)), (7, .int a7), (8, .int v6), (9, .int (a9 + 1))]) rfl ?_
    exact hk130 a1 a2 a3 a4 a6 a7 v6 (a9 + 1) T5 ha6 h
noncomputable def f_X9_tellTile_l130 (k118 : Int32 → Int32 → Int32 → Int32 → Nat → Int32 → Mm → Option (Unit × Mm)) (n : Nat) : Int32 → Int32 → Int32 → Int32 → Nat → Int32 → Int32 → Int32 → Mm → Option (Unit × Mm) := Nat.rec (fun _ _ _ _ _ _ _ _ _ => none) (fun _ ih => f_X9_tellTile_b130 k118 ih) n
theorem s_X9_tellTile_l130 {x : JX} {ad : Nat → Nat} {U : Mm} {S0 : Hp} {q : Unit × Mm}  {k118 : Int32 → Int32 → Int32 → Int32 → Nat → Int32 → Mm → Option (Unit × Mm)} (hn9 : x_n x = 10) (C : CB x RX9 cX9_tellTile) (M : CMr x 3 none S0 ad true U eV q) (hk118 : ∀ (a1 : Int32) (a2 : Int32) (a3 : Int32) (a4 : Int32) (a6 : Nat) (a7 : Int32) (T : Mm) (_ : kS true a6 = 10), k118 a1 a2 a3 a4 a6 a7 T = some q → Jr x ad true U T [(0, .ref (ad 23)), (1, .int a1), (2, .int a2), (3, .int a3), (4, .int a4), (6, .ref (ad a6)), (7, .int a7)] 118 []) : ∀ (n : Nat), ∀ (a1 : Int32) (a2 : Int32) (a3 : Int32) (a4 : Int32) (a6 : Nat) (a7 : Int32) (a8 : Int32) (a9 : Int32) (T : Mm) (_ : kS true a6 = 10), f_X9_tellTile_l130 k118 n a1 a2 a3 a4 a6 a7 a8 a9 T = some q → Jr x ad true U T [(0, .ref (ad 23)), (1, .int a1), (2, .int a2), (3, .int a3), (4, .int a4), (6, .ref (ad a6)), (7, .int a7), (8, .int a8), (9, .int a9)] 130 [] := by
  intro n
  induction n with
  | zero => intro a1 a2 a3 a4 a6 a7 a8 a9 T _ h; exact absurd h (by intro h; cases h)
  | succ n ih => exact fun a1 a2 a3 a4 a6 a7 a8 a9 T ha6 h => s_X9_tellTile_b130 hn9 C M hk118 (ih) a1 a2 a3 a4 a6 a7 a8 a9 T ha6 h
noncomputable def f_X9_tellTile_b118 (k118 : Int32 → Int32 → Int32 → Int32 → Nat → Int32 → Mm → Option (Unit × Mm)) (a1 : Int32) (a2 : Int32) (a3 : Int32) (a4 : Int32) (a6 : Nat) (a7 : Int32) (T : Mm) : Option (Unit × Mm) :=
  if a3 ≤ a7 then (bd (f_X8_put 36 a1 T) fun _ T1 =>
  some ((), T1))
  else (f_X9_tellTile_l130 k118 FU a1 a2 a3 a4 a6 a7 0 0 T)
set_option maxRecDepth 100000 in
set_option maxHeartbeats 4000000 in
theorem s_X9_tellTile_b118 {x : JX} {ad : Nat → Nat} {U : Mm} {S0 : Hp} {q : Unit × Mm}  {k118 : Int32 → Int32 → Int32 → Int32 → Nat → Int32 → Mm → Option (Unit × Mm)} (hn9 : x_n x = 10) (C : CB x RX9 cX9_tellTile) (M : CMr x 3 none S0 ad true U eV q) (hk118 : ∀ (a1 : Int32) (a2 : Int32) (a3 : Int32) (a4 : Int32) (a6 : Nat) (a7 : Int32) (T : Mm) (_ : kS true a6 = 10), k118 a1 a2 a3 a4 a6 a7 T = some q → Jr x ad true U T [(0, .ref (ad 23)), (1, .int a1), (2, .int a2), (3, .int a3), (4, .int a4), (6, .ref (ad a6)), (7, .int a7)] 118 []) (a1 : Int32) (a2 : Int32) (a3 : Int32) (a4 : Int32) (a6 : Nat) (a7 : Int32) (T : Mm) (ha6 : kS true a6 = 10) (h : f_X9_tellTile_b118 k118 a1 a2 a3 a4 a6 a7 T = some q) : Jr x ad true U T [(0, .ref (ad 23)), (1, .int a1), (2, .int a2), (3, .int a3), (4, .int a4), (6, .ref (ad a6)), (7, .int a7)] 118 [] := by
  unfold f_X9_tellTile_b118 at h
  refine r_iload C dX9_tellTile_118 6 rfl ?_
  refine r_iload_n C dX9_tellTile_120 rfl 3 rfl ?_
  refine r_ic_ge (tgt := 191) C dX9_tellTile_121 (by decide) h (fun h => ?_) (fun h => ?_)
  · refine r_aload_n C dX9_tellTile_191 rfl 0 rfl ?_
    refine r_getp (f := 903) (j := 36) C flX9_28 dX9_tellTile_192 kq_23 (by decide) rfl (fun W => pt_903 kq_23 W) ?_
    refine r_iload_n C dX9_tellTile_195 rfl 1 rfl ?_
    refine r_callVN C M h [.int a1] [] mlX9_502 mcX8_put (fun q9 e9 => s_X8_put 36 a1 kq_36 e9) kq_36 rfl (by decide) (by decide) rfl rfl (Nat.le_of_ble_eq_true rfl) dX9_tellTile_196 (fun _ T1 h => ?_)
    exact r_vret C M dX9_tellTile_199 h
  · refine r_iconst (v := 0) C dX9_tellTile_124 (by decide) ?_
    refine r_istore (lv' := [(8, .int 0), (0, .ref (ad 23)), (1, .int a1), (2, .int a2), (3, .int a3), (4, .int a4), (6, .ref (ad a6)), (7, .int a7)]) C dX9_tellTile_125 (by rw [hn9]; decide) rfl ?_
    refine r_iconst (v := 0) C dX9_tellTile_127 (by decide) ?_
    refine r_istore (lv' := [(9, .int 0), (8, .int 0), (0, .ref (ad 23)), (1, .int a1), (2, .int a2), (3, .int a3), (4, .int a4), (6, .ref (ad a6)), (7, .int a7)]) C dX9_tellTile_128 (by rw [hn9]; decide) rfl ?_
    refine Jr.sub [2, 3, 4, 5, 6, 7, 8, 1, 0] (lv' := [(0, .ref (ad 23)), (1, .int a1), (2, .int a2), (3, .int a3), (4, .int a4), (6, .ref (ad a6)), (7, .int a7), (8, .int 0), (9, .int 0)]) rfl ?_
    exact s_X9_tellTile_l130 hn9 C M hk118 FU a1 a2 a3 a4 a6 a7 0 0 T ha6 h
noncomputable def f_X9_tellTile_l118 (n : Nat) : Int32 → Int32 → Int32 → Int32 → Nat → Int32 → Mm → Option (Unit × Mm) := Nat.rec (fun _ _ _ _ _ _ _ => none) (fun _ ih => f_X9_tellTile_b118 ih) n
theorem s_X9_tellTile_l118 {x : JX} {ad : Nat → Nat} {U : Mm} {S0 : Hp} {q : Unit × Mm}  (hn9 : x_n x = 10) (C : CB x RX9 cX9_tellTile) (M : CMr x 3 none S0 ad true U eV q) : ∀ (n : Nat), ∀ (a1 : Int32) (a2 : Int32) (a3 : Int32) (a4 : Int32) (a6 : Nat) (a7 : Int32) (T : Mm) (_ : kS true a6 = 10), f_X9_tellTile_l118  n a1 a2 a3 a4 a6 a7 T = some q → Jr x ad true U T [(0, .ref (ad 23)), (1, .int a1), (2, .int a2), (3, .int a3), (4, .int a4), (6, .ref (ad a6)), (7, .int a7)] 118 [] := by
  intro n
  induction n with
  | zero => intro a1 a2 a3 a4 a6 a7 T _ h; exact absurd h (by intro h; cases h)
  | succ n ih => exact fun a1 a2 a3 a4 a6 a7 T ha6 h => s_X9_tellTile_b118 hn9 C M (ih) a1 a2 a3 a4 a6 a7 T ha6 h
noncomputable def f_X9_tellTile_70 (a1 : Int32) (a2 : Int32) (a3 : Int32) (a4 : Int32) (b0 : Int32) (T : Mm) : Option (Unit × Mm) :=
  if b0 = 0 then (some ((), T))
  else (if a1 < 0 then (some ((), T))
  else (if 16 ≤ a1 then (some ((), T))
  else (ix a1 16 fun j1 =>
  ix a1 16 fun j3 =>
  bd (f_X10_size (66 + 2 * j3) a2 a3 T) fun _ T5 =>
  f_X9_tellTile_l118 FU a1 a2 a3 a4 (66 + 2 * j3) 0 T5)))
set_option maxRecDepth 100000 in
set_option maxHeartbeats 4000000 in
theorem s_X9_tellTile_70 {x : JX} {ad : Nat → Nat} {U : Mm} {S0 : Hp} {q : Unit × Mm}  (hn9 : x_n x = 10) (C : CB x RX9 cX9_tellTile) (M : CMr x 3 none S0 ad true U eV q) (a1 : Int32) (a2 : Int32) (a3 : Int32) (a4 : Int32) (b0 : Int32) (T : Mm) (h : f_X9_tellTile_70  a1 a2 a3 a4 b0 T = some q) : Jr x ad true U T [(0, .ref (ad 23)), (1, .int a1), (2, .int a2), (3, .int a3), (4, .int a4)] 70 [.int b0] := by
  unfold f_X9_tellTile_70 at h
  refine r_istore (lv' := [(5, .int b0), (0, .ref (ad 23)), (1, .int a1), (2, .int a2), (3, .int a3), (4, .int a4)]) C dX9_tellTile_70 (by rw [hn9]; decide) rfl ?_
  refine r_iload C dX9_tellTile_72 0 rfl ?_
  refine r_if_eq (tgt := 99) C dX9_tellTile_74 (by decide) h (fun h => ?_) (fun h => ?_)
  · exact r_vret C M dX9_tellTile_99 h
  · refine r_iload_n C dX9_tellTile_77 rfl 2 rfl ?_
    refine r_if_lt (tgt := 99) C dX9_tellTile_78 (by decide) h (fun h => ?_) (fun h => ?_)
    · exact r_vret C M dX9_tellTile_99 h
    · refine r_iload_n C dX9_tellTile_81 rfl 2 rfl ?_
      refine r_aload_n C dX9_tellTile_82 rfl 1 rfl ?_
      refine r_getp (f := 904) (j := 38) C flX9_34 dX9_tellTile_83 kq_23 (by decide) rfl (fun W => pt_904 kq_23 W) ?_
      refine r_alen (n := 0) (v := 16) C dX9_tellTile_86 kq_38 (by decide) (by decide) (congrArg Int32.ofNat lq_38) ?_
      refine r_ic_ge (tgt := 99) C dX9_tellTile_87 (by decide) h (fun h => ?_) (fun h => ?_)
      · exact r_vret C M dX9_tellTile_99 h
      · refine r_aload_n C dX9_tellTile_90 rfl 1 rfl ?_
        refine r_getp (f := 904) (j := 38) C flX9_34 dX9_tellTile_91 kq_23 (by decide) rfl (fun W => pt_904 kq_23 W) ?_
        refine r_iload_n C dX9_tellTile_94 rfl 2 rfl ?_
        refine r_aald (n := 16) (t := fun j9 => (66 + 2 * j9)) C 20 (by decide) rfl dX9_tellTile_95 kq_38 lq_38 (fun hj W => pe_38 hj W) h (fun j1 hj2 h => ?_)
        refine Jr.eq (lv' := [(5, .int b0), (0, .ref (ad 23)), (1, .int a1), (2, .int a2), (3, .int a3), (4, .int a4)]) (st' := [.ref (ad (66 + 2 * j1))]) rfl rfl ?_
        refine r_ifnonnull (tgt := 100) C dX9_tellTile_96 (by decide) ?_
        show Jr _ _ _ _ _ _ 100 _
        refine r_aload_n C dX9_tellTile_100 rfl 1 rfl ?_
        refine r_getp (f := 904) (j := 38) C flX9_34 dX9_tellTile_101 kq_23 (by decide) rfl (fun W => pt_904 kq_23 W) ?_
        refine r_iload_n C dX9_tellTile_104 rfl 2 rfl ?_
        refine r_aald (n := 16) (t := fun j9 => (66 + 2 * j9)) C 20 (by decide) rfl dX9_tellTile_105 kq_38 lq_38 (fun hj W => pe_38 hj W) h (fun j3 hj4 h => ?_)
        refine Jr.eq (lv' := [(5, .int b0), (0, .ref (ad 23)), (1, .int a1), (2, .int a2), (3, .int a3), (4, .int a4)]) (st' := [.ref (ad (66 + 2 * j3))]) rfl rfl ?_
        refine r_astore (lv' := [(6, .ref (ad (66 + 2 * j3))), (5, .int b0), (0, .ref (ad 23)), (1, .int a1), (2, .int a2), (3, .int a3), (4, .int a4)]) C dX9_tellTile_106 (by rw [hn9]; decide) rfl ?_
        refine r_aload C dX9_tellTile_108 0 rfl ?_
        show Jr _ _ _ _ _ _ 110 _
        refine r_iload_n C dX9_tellTile_110 rfl 4 rfl ?_
        refine r_iload_n C dX9_tellTile_111 rfl 5 rfl ?_
        refine r_callVN C M h [.int a2, .int a3] [] mlX9_625 mcX10_size (fun q9 e9 => s_X10_size (66 + 2 * j3) a2 a3 (pek_38 hj4) e9) (pek_38 hj4) rfl (by decide) (by decide) rfl rfl (Nat.le_of_ble_eq_true rfl) dX9_tellTile_112 (fun _ T5 h => ?_)
        refine r_iconst (v := 0) C dX9_tellTile_115 (by decide) ?_
        refine r_istore (lv' := [(7, .int 0), (6, .ref (ad (66 + 2 * j3))), (5, .int b0), (0, .ref (ad 23)), (1, .int a1), (2, .int a2), (3, .int a3), (4, .int a4)]) C dX9_tellTile_116 (by rw [hn9]; decide) rfl ?_
        refine Jr.sub [3, 4, 5, 6, 7, 1, 0] (lv' := [(0, .ref (ad 23)), (1, .int a1), (2, .int a2), (3, .int a3), (4, .int a4), (6, .ref (ad (66 + 2 * j3))), (7, .int 0)]) rfl ?_
        exact s_X9_tellTile_l118 hn9 C M  FU a1 a2 a3 a4 (66 + 2 * j3) 0 T5 (pek_38 hj4) h
noncomputable def f_X9_tellTile (p1 : Int32) (T : Mm) : Option (Unit × Mm) :=
  rf true (gR T 913 23) 5 fun j1 =>
  bd (f_X5_dataByte j1 0 T) fun v3 T4 =>
  rf true (gR T4 913 23) 5 fun j5 =>
  bd (f_X5_dataByte j5 1 T4) fun v7 T8 =>
  lb (((v3 + 7) / 8)) fun v9 =>
  if v3 < 1 then (f_X9_tellTile_70 p1 v3 v7 v9 0 T8)
  else (if 16 < v3 then (f_X9_tellTile_70 p1 v3 v7 v9 0 T8)
  else (if v7 < 1 then (f_X9_tellTile_70 p1 v3 v7 v9 0 T8)
  else (if 16 < v7 then (f_X9_tellTile_70 p1 v3 v7 v9 0 T8)
  else (rf true (gR T8 913 23) 5 fun j10 =>
  if (gI T8 512 j10) < ((2 : Int32) + (v7 * v9)) then (f_X9_tellTile_70 p1 v3 v7 v9 0 T8)
  else (f_X9_tellTile_70 p1 v3 v7 v9 1 T8)))))
set_option maxRecDepth 100000 in
set_option maxHeartbeats 4000000 in
theorem s_X9_tellTile {ad : Nat → Nat} {U T : Mm} {q : Unit × Mm}  (p1 : Int32) (h : f_X9_tellTile p1 T = some q) : Cr 3 yX9_tellTile cX9_tellTile 10 none [.ref (ad 23), .int p1] ad true U T eV q := by
  refine cr_of (by decide) (Nat.le_of_ble_eq_true rfl) fun x S0 hn9 C M => ?_
  have C : CB x RX9 cX9_tellTile := C
  refine Jr.eq (lv' := [(0, .ref (ad 23)), (1, .int p1)]) (st' := []) rfl rfl ?_
  unfold f_X9_tellTile at h
  refine r_aload_n C dX9_tellTile_0 rfl 0 rfl ?_
  refine r_getr (f := 913) (c := 5) C flX9_82 dX9_tellTile_1 kq_23 (by decide) rfl h (fun j1 hj2 h => ?_)
  refine r_iconst (v := 0) C dX9_tellTile_4 (by decide) ?_
  refine r_callVI C M h [.int 0] [] mlX9_321 mcX5_dataByte (fun q9 e9 => s_X5_dataByte j1 0 hj2 e9) hj2 rfl (by decide) (by decide) rfl rfl (Nat.le_of_ble_eq_true rfl) dX9_tellTile_5 (fun v3 T4 h => ?_)
  refine r_istore_n (lv' := [(2, .int v3), (0, .ref (ad 23)), (1, .int p1)]) C dX9_tellTile_8 rfl (by rw [hn9]; decide) rfl ?_
  show Jr _ _ _ _ _ _ 9 _
  refine r_aload_n C dX9_tellTile_9 rfl 1 rfl ?_
  refine r_getr (f := 913) (c := 5) C flX9_82 dX9_tellTile_10 kq_23 (by decide) rfl h (fun j5 hj6 h => ?_)
  refine r_iconst (v := 1) C dX9_tellTile_13 (by decide) ?_
  refine r_callVI C M h [.int 1] [] mlX9_321 mcX5_dataByte (fun q9 e9 => s_X5_dataByte j5 1 hj6 e9) hj6 rfl (by decide) (by decide) rfl rfl (Nat.le_of_ble_eq_true rfl) dX9_tellTile_14 (fun v7 T8 h => ?_)
  refine r_istore_n (lv' := [(3, .int v7), (2, .int v3), (0, .ref (ad 23)), (1, .int p1)]) C dX9_tellTile_17 rfl (by rw [hn9]; decide) rfl ?_
  refine r_iload_n C dX9_tellTile_18 rfl 1 rfl ?_
  show Jr _ _ _ _ _ _ 19 _
  refine r_bipush (v := 7) C dX9_tellTile_19 (by decide) ?_
  refine r_iadd C dX9_tellTile_21 rfl ?_
  refine r_bipush (v := 8) C dX9_tellTile_22 (by decide) ?_
  refine r_idiv C dX9_tellTile_24 (by decide) rfl ?_
  refine r_lbI h (fun v9 h => ?_)
  refine r_istore (lv' := [(4, .int v9), (3, .int v7), (2, .int v3), (0, .ref (ad 23)), (1, .int p1)]) C dX9_tellTile_25 (by rw [hn9]; decide) rfl ?_
  refine r_iload_n C dX9_tellTile_27 rfl 2 rfl ?_
  show Jr _ _ _ _ _ _ 28 _
  refine r_iconst (v := 1) C dX9_tellTile_28 (by decide) ?_
  refine r_ic_lt (tgt := 69) C dX9_tellTile_29 (by decide) h (fun h => ?_) (fun h => ?_)
  · refine r_iconst (v := 0) C dX9_tellTile_69 (by decide) ?_
    refine Jr.sub [3, 4, 2, 1, 0] (lv' := [(0, .ref (ad 23)), (1, .int p1), (2, .int v3), (3, .int v7), (4, .int v9)]) rfl ?_
    exact s_X9_tellTile_70 hn9 C M  p1 v3 v7 v9 0 T8 h
  · refine r_iload_n C dX9_tellTile_32 rfl 2 rfl ?_
    refine r_bipush (v := 16) C dX9_tellTile_33 (by decide) ?_
    refine r_ic_gt (tgt := 69) C dX9_tellTile_35 (by decide) h (fun h => ?_) (fun h => ?_)
    · refine r_iconst (v := 0) C dX9_tellTile_69 (by decide) ?_
      refine Jr.sub [3, 4, 2, 1, 0] (lv' := [(0, .ref (ad 23)), (1, .int p1), (2, .int v3), (3, .int v7), (4, .int v9)]) rfl ?_
      exact s_X9_tellTile_70 hn9 C M  p1 v3 v7 v9 0 T8 h
    · refine r_iload_n C dX9_tellTile_38 rfl 1 rfl ?_
      refine r_iconst (v := 1) C dX9_tellTile_39 (by decide) ?_
      refine r_ic_lt (tgt := 69) C dX9_tellTile_40 (by decide) h (fun h => ?_) (fun h => ?_)
      · refine r_iconst (v := 0) C dX9_tellTile_69 (by decide) ?_
        refine Jr.sub [3, 4, 2, 1, 0] (lv' := [(0, .ref (ad 23)), (1, .int p1), (2, .int v3), (3, .int v7), (4, .int v9)]) rfl ?_
        exact s_X9_tellTile_70 hn9 C M  p1 v3 v7 v9 0 T8 h
      · refine r_iload_n C dX9_tellTile_43 rfl 1 rfl ?_
        refine r_bipush (v := 16) C dX9_tellTile_44 (by decide) ?_
        refine r_ic_gt (tgt := 69) C dX9_tellTile_46 (by decide) h (fun h => ?_) (fun h => ?_)
        · refine r_iconst (v := 0) C dX9_tellTile_69 (by decide) ?_
          refine Jr.sub [3, 4, 2, 1, 0] (lv' := [(0, .ref (ad 23)), (1, .int p1), (2, .int v3), (3, .int v7), (4, .int v9)]) rfl ?_
          exact s_X9_tellTile_70 hn9 C M  p1 v3 v7 v9 0 T8 h
        · refine r_aload_n C dX9_tellTile_49 rfl 3 rfl ?_
          refine r_getr (f := 913) (c := 5) C flX9_82 dX9_tellTile_50 kq_23 (by decide) rfl h (fun j10 hj11 h => ?_)
          refine r_geti (f := 512) C flX9_318 dX9_tellTile_53 hj11 (by decide) (by decide) rfl ?_
          refine r_iconst (v := 2) C dX9_tellTile_56 (by decide) ?_
          refine r_iload_n C dX9_tellTile_57 rfl 1 rfl ?_
          show Jr _ _ _ _ _ _ 58 _
          refine r_iload C dX9_tellTile_58 0 rfl ?_
          refine r_imul C dX9_tellTile_60 rfl ?_
          refine r_iadd C dX9_tellTile_61 rfl ?_
          refine r_ic_lt (tgt := 69) C dX9_tellTile_62 (by decide) h (fun h => ?_) (fun h => ?_)
          · refine r_iconst (v := 0) C dX9_tellTile_69 (by decide) ?_
            refine Jr.sub [3, 4, 2, 1, 0] (lv' := [(0, .ref (ad 23)), (1, .int p1), (2, .int v3), (3, .int v7), (4, .int v9)]) rfl ?_
            exact s_X9_tellTile_70 hn9 C M  p1 v3 v7 v9 0 T8 h
          · refine r_iconst (v := 1) C dX9_tellTile_65 (by decide) ?_
            refine r_goto (tgt := 70) C dX9_tellTile_66 (by decide) ?_
            refine Jr.sub [3, 4, 2, 1, 0] (lv' := [(0, .ref (ad 23)), (1, .int p1), (2, .int v3), (3, .int v7), (4, .int v9)]) rfl ?_
            exact s_X9_tellTile_70 hn9 C M  p1 v3 v7 v9 1 T8 h
theorem dX9_tileTask_0 : decode cX9_tileTask 0 = .ok (.iload_n 1, 1) := by decide +kernel
theorem dX9_tileTask_1 : decode cX9_tileTask 1 = .ok (.tableswitch 103 0 5 #[39, 39, 59, 103, 76, 76], 39) := by decide +kernel
theorem dX9_tileTask_40 : decode cX9_tileTask 40 = .ok (.aload_n 0, 1) := by decide +kernel
theorem dX9_tileTask_41 : decode cX9_tileTask 41 = .ok (.getfield 28, 3) := by decide +kernel
theorem dX9_tileTask_44 : decode cX9_tileTask 44 = .ok (.iload_n 1, 1) := by decide +kernel
theorem dX9_tileTask_45 : decode cX9_tileTask 45 = .ok (.iconst 1, 1) := by decide +kernel
theorem dX9_tileTask_46 : decode cX9_tileTask 46 = .ok (.if_icmp .ne 7, 3) := by decide +kernel
theorem dX9_tileTask_49 : decode cX9_tileTask 49 = .ok (.iconst 1, 1) := by decide +kernel
theorem dX9_tileTask_50 : decode cX9_tileTask 50 = .ok (.goto 4, 3) := by decide +kernel
theorem dX9_tileTask_53 : decode cX9_tileTask 53 = .ok (.iconst 0, 1) := by decide +kernel
theorem dX9_tileTask_54 : decode cX9_tileTask 54 = .ok (.invokevirtual 200, 3) := by decide +kernel
theorem dX9_tileTask_57 : decode cX9_tileTask 57 = .ok (.goto 47, 3) := by decide +kernel
theorem dX9_tileTask_60 : decode cX9_tileTask 60 = .ok (.aload_n 0, 1) := by decide +kernel
theorem dX9_tileTask_61 : decode cX9_tileTask 61 = .ok (.getfield 28, 3) := by decide +kernel
theorem dX9_tileTask_64 : decode cX9_tileTask 64 = .ok (.aload_n 0, 1) := by decide +kernel
theorem dX9_tileTask_65 : decode cX9_tileTask 65 = .ok (.getfield 57, 3) := by decide +kernel
theorem dX9_tileTask_68 : decode cX9_tileTask 68 = .ok (.getfield 587, 3) := by decide +kernel
theorem dX9_tileTask_71 : decode cX9_tileTask 71 = .ok (.invokevirtual 483, 3) := by decide +kernel
theorem dX9_tileTask_74 : decode cX9_tileTask 74 = .ok (.goto 30, 3) := by decide +kernel
theorem dX9_tileTask_77 : decode cX9_tileTask 77 = .ok (.aload_n 0, 1) := by decide +kernel
theorem dX9_tileTask_78 : decode cX9_tileTask 78 = .ok (.getfield 28, 3) := by decide +kernel
theorem dX9_tileTask_81 : decode cX9_tileTask 81 = .ok (.aload_n 0, 1) := by decide +kernel
theorem dX9_tileTask_82 : decode cX9_tileTask 82 = .ok (.getfield 57, 3) := by decide +kernel
theorem dX9_tileTask_85 : decode cX9_tileTask 85 = .ok (.getfield 587, 3) := by decide +kernel
theorem dX9_tileTask_88 : decode cX9_tileTask 88 = .ok (.iload_n 1, 1) := by decide +kernel
theorem dX9_tileTask_89 : decode cX9_tileTask 89 = .ok (.iconst 4, 1) := by decide +kernel
theorem dX9_tileTask_90 : decode cX9_tileTask 90 = .ok (.if_icmp .ne 7, 3) := by decide +kernel
theorem dX9_tileTask_93 : decode cX9_tileTask 93 = .ok (.iconst 1, 1) := by decide +kernel
theorem dX9_tileTask_94 : decode cX9_tileTask 94 = .ok (.goto 4, 3) := by decide +kernel
theorem dX9_tileTask_97 : decode cX9_tileTask 97 = .ok (.iconst 0, 1) := by decide +kernel
theorem dX9_tileTask_98 : decode cX9_tileTask 98 = .ok (.invokevirtual 486, 3) := by decide +kernel
theorem dX9_tileTask_101 : decode cX9_tileTask 101 = .ok (.goto 3, 3) := by decide +kernel
theorem dX9_tileTask_104 : decode cX9_tileTask 104 = .ok (.return_, 1) := by decide +kernel
noncomputable def f_X9_tileTask (p1 : Int32) (T : Mm) : Option (Unit × Mm) :=
  if p1 = 0 then (if p1 = 1 then (bd (f_X8_removeMany 36 1 T) fun _ T3 =>
  some ((), T3))
  else (bd (f_X8_removeMany 36 0 T) fun _ T2 =>
  some ((), T2)))
  else if p1 = 1 then (if p1 = 1 then (bd (f_X8_removeMany 36 1 T) fun _ T6 =>
  some ((), T6))
  else (bd (f_X8_removeMany 36 0 T) fun _ T5 =>
  some ((), T5)))
  else if p1 = 2 then (bd (f_X8_remove 36 (gI T 118 45) T) fun _ T8 =>
  some ((), T8))
  else if p1 = 3 then (some ((), T))
  else if p1 = 4 then (if p1 = 4 then (bd (f_X8_mark 36 (gI T 118 45) 1 T) fun _ T12 =>
  some ((), T12))
  else (bd (f_X8_mark 36 (gI T 118 45) 0 T) fun _ T11 =>
  some ((), T11)))
  else if p1 = 5 then (if p1 = 4 then (bd (f_X8_mark 36 (gI T 118 45) 1 T) fun _ T15 =>
  some ((), T15))
  else (bd (f_X8_mark 36 (gI T 118 45) 0 T) fun _ T14 =>
  some ((), T14)))
  else (some ((), T))
set_option maxRecDepth 100000 in
set_option maxHeartbeats 4000000 in
theorem s_X9_tileTask {ad : Nat → Nat} {U T : Mm} {q : Unit × Mm}  (p1 : Int32) (h : f_X9_tileTask p1 T = some q) : Cr 3 yX9_tileTask cX9_tileTask 2 none [.ref (ad 23), .int p1] ad true U T eV q := by
  refine cr_of (by decide) (Nat.le_of_ble_eq_true rfl) fun x S0 hn9 C M => ?_
  have C : CB x RX9 cX9_tileTask := C
  refine Jr.eq (lv' := [(0, .ref (ad 23)), (1, .int p1)]) (st' := []) rfl rfl ?_
  unfold f_X9_tileTask at h
  refine r_iload_n C dX9_tileTask_0 rfl 1 rfl ?_
  by_cases hs1 : p1 = 0
  · rw [if_pos hs1] at h
    refine r_top hs1 ?_
    refine r_tabIn (off := 39) (tgt := 40) C dX9_tileTask_1 (by decide) (by decide) (by decide) (by decide) ?_
    refine r_aload_n C dX9_tileTask_40 rfl 0 rfl ?_
    refine r_getp (f := 903) (j := 36) C flX9_28 dX9_tileTask_41 kq_23 (by decide) rfl (fun W => pt_903 kq_23 W) ?_
    refine r_iload_n C dX9_tileTask_44 rfl 1 rfl ?_
    refine r_iconst (v := 1) C dX9_tileTask_45 (by decide) ?_
    refine r_ic_ne (tgt := 53) C dX9_tileTask_46 (by decide) h (fun h => ?_) (fun h => ?_)
    · refine r_iconst (v := 0) C dX9_tileTask_53 (by decide) ?_
      refine r_callVN C M h [.int 0] [] mlX9_200 mcX8_removeMany (fun q9 e9 => s_X8_removeMany 36 0 kq_36 e9) kq_36 rfl (by decide) (by decide) rfl rfl (Nat.le_of_ble_eq_true rfl) dX9_tileTask_54 (fun _ T2 h => ?_)
      refine r_goto (tgt := 104) C dX9_tileTask_57 (by decide) ?_
      exact r_vret C M dX9_tileTask_104 h
    · refine r_iconst (v := 1) C dX9_tileTask_49 (by decide) ?_
      refine r_goto (tgt := 54) C dX9_tileTask_50 (by decide) ?_
      refine r_callVN C M h [.int 1] [] mlX9_200 mcX8_removeMany (fun q9 e9 => s_X8_removeMany 36 1 kq_36 e9) kq_36 rfl (by decide) (by decide) rfl rfl (Nat.le_of_ble_eq_true rfl) dX9_tileTask_54 (fun _ T3 h => ?_)
      refine r_goto (tgt := 104) C dX9_tileTask_57 (by decide) ?_
      exact r_vret C M dX9_tileTask_104 h
  rw [if_neg hs1] at h
  by_cases hs4 : p1 = 1
  · rw [if_pos hs4] at h
    refine r_top hs4 ?_
    refine r_tabIn (off := 39) (tgt := 40) C dX9_tileTask_1 (by decide) (by decide) (by decide) (by decide) ?_
    refine r_aload_n C dX9_tileTask_40 rfl 0 rfl ?_
    refine r_getp (f := 903) (j := 36) C flX9_28 dX9_tileTask_41 kq_23 (by decide) rfl (fun W => pt_903 kq_23 W) ?_
    refine r_iload_n C dX9_tileTask_44 rfl 1 rfl ?_
    refine r_iconst (v := 1) C dX9_tileTask_45 (by decide) ?_
    refine r_ic_ne (tgt := 53) C dX9_tileTask_46 (by decide) h (fun h => ?_) (fun h => ?_)
    · refine r_iconst (v := 0) C dX9_tileTask_53 (by decide) ?_
      refine r_callVN C M h [.int 0] [] mlX9_200 mcX8_removeMany (fun q9 e9 => s_X8_removeMany 36 0 kq_36 e9) kq_36 rfl (by decide) (by decide) rfl rfl (Nat.le_of_ble_eq_true rfl) dX9_tileTask_54 (fun _ T5 h => ?_)
      refine r_goto (tgt := 104) C dX9_tileTask_57 (by decide) ?_
      exact r_vret C M dX9_tileTask_104 h
    · refine r_iconst (v := 1) C dX9_tileTask_49 (by decide) ?_
      refine r_goto (tgt := 54) C dX9_tileTask_50 (by decide) ?_
      refine r_callVN C M h [.int 1] [] mlX9_200 mcX8_removeMany (fun q9 e9 => s_X8_removeMany 36 1 kq_36 e9) kq_36 rfl (by decide) (by decide) rfl rfl (Nat.le_of_ble_eq_true rfl) dX9_tileTask_54 (fun _ T6 h => ?_)
      refine r_goto (tgt := 104) C dX9_tileTask_57 (by decide) ?_
      exact r_vret C M dX9_tileTask_104 h
  rw [if_neg hs4] at h
  by_cases hs7 : p1 = 2
  · rw [if_pos hs7] at h
    refine r_top hs7 ?_
    refine r_tabIn (off := 59) (tgt := 60) C dX9_tileTask_1 (by decide) (by decide) (by decide) (by decide) ?_
    refine r_aload_n C dX9_tileTask_60 rfl 0 rfl ?_
    refine r_getp (f := 903) (j := 36) C flX9_28 dX9_tileTask_61 kq_23 (by decide) rfl (fun W => pt_903 kq_23 W) ?_
    refine r_aload_n C dX9_tileTask_64 rfl 0 rfl ?_
    refine r_getp (f := 909) (j := 45) C flX9_57 dX9_tileTask_65 kq_23 (by decide) rfl (fun W => pt_909 kq_23 W) ?_
    refine r_geti (f := 118) C flX9_587 dX9_tileTask_68 kq_45 (by decide) (by decide) rfl ?_
    show Jr _ _ _ _ _ _ 71 _
    refine r_callVN C M h [.int (gI T 118 45)] [] mlX9_483 mcX8_remove (fun q9 e9 => s_X8_remove 36 (gI T 118 45) kq_36 e9) kq_36 rfl (by decide) (by decide) rfl rfl (Nat.le_of_ble_eq_true rfl) dX9_tileTask_71 (fun _ T8 h => ?_)
    refine r_goto (tgt := 104) C dX9_tileTask_74 (by decide) ?_
    exact r_vret C M dX9_tileTask_104 h
  rw [if_neg hs7] at h
  by_cases hs9 : p1 = 3
  · rw [if_pos hs9] at h
    refine r_top hs9 ?_
    refine r_tabIn (off := 103) (tgt := 104) C dX9_tileTask_1 (by decide) (by decide) (by decide) (by decide) ?_
    exact r_vret C M dX9_tileTask_104 h
  rw [if_neg hs9] at h
  by_cases hs10 : p1 = 4
  · rw [if_pos hs10] at h
    refine r_top hs10 ?_
    refine r_tabIn (off := 76) (tgt := 77) C dX9_tileTask_1 (by decide) (by decide) (by decide) (by decide) ?_
    refine r_aload_n C dX9_tileTask_77 rfl 0 rfl ?_
    refine r_getp (f := 903) (j := 36) C flX9_28 dX9_tileTask_78 kq_23 (by decide) rfl (fun W => pt_903 kq_23 W) ?_
    refine r_aload_n C dX9_tileTask_81 rfl 0 rfl ?_
    refine r_getp (f := 909) (j := 45) C flX9_57 dX9_tileTask_82 kq_23 (by decide) rfl (fun W => pt_909 kq_23 W) ?_
    refine r_geti (f := 118) C flX9_587 dX9_tileTask_85 kq_45 (by decide) (by decide) rfl ?_
    show Jr _ _ _ _ _ _ 88 _
    refine r_iload_n C dX9_tileTask_88 rfl 1 rfl ?_
    refine r_iconst (v := 4) C dX9_tileTask_89 (by decide) ?_
    refine r_ic_ne (tgt := 97) C dX9_tileTask_90 (by decide) h (fun h => ?_) (fun h => ?_)
    · refine r_iconst (v := 0) C dX9_tileTask_97 (by decide) ?_
      refine r_callVN C M h [.int (gI T 118 45), .int 0] [] mlX9_486 mcX8_mark (fun q9 e9 => s_X8_mark 36 (gI T 118 45) 0 kq_36 e9) kq_36 rfl (by decide) (by decide) rfl rfl (Nat.le_of_ble_eq_true rfl) dX9_tileTask_98 (fun _ T11 h => ?_)
      refine r_goto (tgt := 104) C dX9_tileTask_101 (by decide) ?_
      exact r_vret C M dX9_tileTask_104 h
    · refine r_iconst (v := 1) C dX9_tileTask_93 (by decide) ?_
      refine r_goto (tgt := 98) C dX9_tileTask_94 (by decide) ?_
      refine r_callVN C M h [.int (gI T 118 45), .int 1] [] mlX9_486 mcX8_mark (fun q9 e9 => s_X8_mark 36 (gI T 118 45) 1 kq_36 e9) kq_36 rfl (by decide) (by decide) rfl rfl (Nat.le_of_ble_eq_true rfl) dX9_tileTask_98 (fun _ T12 h => ?_)
      refine r_goto (tgt := 104) C dX9_tileTask_101 (by decide) ?_
      exact r_vret C M dX9_tileTask_104 h
  rw [if_neg hs10] at h
  by_cases hs13 : p1 = 5
  · rw [if_pos hs13] at h
    refine r_top hs13 ?_
    refine r_tabIn (off := 76) (tgt := 77) C dX9_tileTask_1 (by decide) (by decide) (by decide) (by decide) ?_
    refine r_aload_n C dX9_tileTask_77 rfl 0 rfl ?_
    refine r_getp (f := 903) (j := 36) C flX9_28 dX9_tileTask_78 kq_23 (by decide) rfl (fun W => pt_903 kq_23 W) ?_
    refine r_aload_n C dX9_tileTask_81 rfl 0 rfl ?_
    refine r_getp (f := 909) (j := 45) C flX9_57 dX9_tileTask_82 kq_23 (by decide) rfl (fun W => pt_909 kq_23 W) ?_
    refine r_geti (f := 118) C flX9_587 dX9_tileTask_85 kq_45 (by decide) (by decide) rfl ?_
    show Jr _ _ _ _ _ _ 88 _
    refine r_iload_n C dX9_tileTask_88 rfl 1 rfl ?_
    refine r_iconst (v := 4) C dX9_tileTask_89 (by decide) ?_
    refine r_ic_ne (tgt := 97) C dX9_tileTask_90 (by decide) h (fun h => ?_) (fun h => ?_)
    · refine r_iconst (v := 0) C dX9_tileTask_97 (by decide) ?_
      refine r_callVN C M h [.int (gI T 118 45), .int 0] [] mlX9_486 mcX8_mark (fun q9 e9 => s_X8_mark 36 (gI T 118 45) 0 kq_36 e9) kq_36 rfl (by decide) (by decide) rfl rfl (Nat.le_of_ble_eq_true rfl) dX9_tileTask_98 (fun _ T14 h => ?_)
      refine r_goto (tgt := 104) C dX9_tileTask_101 (by decide) ?_
      exact r_vret C M dX9_tileTask_104 h
    · refine r_iconst (v := 1) C dX9_tileTask_93 (by decide) ?_
      refine r_goto (tgt := 98) C dX9_tileTask_94 (by decide) ?_
      refine r_callVN C M h [.int (gI T 118 45), .int 1] [] mlX9_486 mcX8_mark (fun q9 e9 => s_X8_mark 36 (gI T 118 45) 1 kq_36 e9) kq_36 rfl (by decide) (by decide) rfl rfl (Nat.le_of_ble_eq_true rfl) dX9_tileTask_98 (fun _ T15 h => ?_)
      refine r_goto (tgt := 104) C dX9_tileTask_101 (by decide) ?_
      exact r_vret C M dX9_tileTask_104 h
  rw [if_neg hs13] at h
  refine r_tabOut (tgt := 104) C dX9_tileTask_1 (by have t09 : (p1).toInt ≠ 0 := ne_toInt hs1 (by decide); have t19 : (p1).toInt ≠ 1 := ne_toInt hs4 (by decide); have t29 : (p1).toInt ≠ 2 := ne_toInt hs7 (by decide); have t39 : (p1).toInt ≠ 3 := ne_toInt hs9 (by decide); have t49 : (p1).toInt ≠ 4 := ne_toInt hs10 (by decide); have t59 : (p1).toInt ≠ 5 := ne_toInt hs13 (by decide); omega) (by decide) ?_
  exact r_vret C M dX9_tileTask_104 h
