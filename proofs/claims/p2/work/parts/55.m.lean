theorem dX12_print_0 : decode cX12_print 0 = .ok (.iload_n 1, 1) := by decide +kernel
theorem dX12_print_1 : decode cX12_print 1 = .ok (.iconst 1, 1) := by decide +kernel
theorem dX12_print_2 : decode cX12_print 2 = .ok (.if_icmp .lt 10, 3) := by decide +kernel
theorem dX12_print_5 : decode cX12_print 5 = .ok (.iload_n 1, 1) := by decide +kernel
theorem dX12_print_6 : decode cX12_print 6 = .ok (.sipush 800, 3) := by decide +kernel
theorem dX12_print_9 : decode cX12_print 9 = .ok (.if_icmp .le 5, 3) := by decide +kernel
theorem dX12_print_12 : decode cX12_print 12 = .ok (.iconst (-1), 1) := by decide +kernel
theorem dX12_print_13 : decode cX12_print 13 = .ok (.ireturn, 1) := by decide +kernel
theorem dX12_print_14 : decode cX12_print 14 = .ok (.aload_n 0, 1) := by decide +kernel
theorem dX12_print_15 : decode cX12_print 15 = .ok (.iconst 0, 1) := by decide +kernel
theorem dX12_print_16 : decode cX12_print 16 = .ok (.putfield 275, 3) := by decide +kernel
theorem dX12_print_19 : decode cX12_print 19 = .ok (.aload_n 0, 1) := by decide +kernel
theorem dX12_print_20 : decode cX12_print 20 = .ok (.iconst 0, 1) := by decide +kernel
theorem dX12_print_21 : decode cX12_print 21 = .ok (.putfield 191, 3) := by decide +kernel
theorem dX12_print_24 : decode cX12_print 24 = .ok (.aload_n 0, 1) := by decide +kernel
theorem dX12_print_25 : decode cX12_print 25 = .ok (.iconst 0, 1) := by decide +kernel
theorem dX12_print_26 : decode cX12_print 26 = .ok (.putfield 195, 3) := by decide +kernel
theorem dX12_print_29 : decode cX12_print 29 = .ok (.aload_n 0, 1) := by decide +kernel
theorem dX12_print_30 : decode cX12_print 30 = .ok (.lconst 0, 1) := by decide +kernel
theorem dX12_print_31 : decode cX12_print 31 = .ok (.putfield 185, 3) := by decide +kernel
theorem dX12_print_34 : decode cX12_print 34 = .ok (.aload_n 0, 1) := by decide +kernel
theorem dX12_print_35 : decode cX12_print 35 = .ok (.iconst 0, 1) := by decide +kernel
theorem dX12_print_36 : decode cX12_print 36 = .ok (.putfield 198, 3) := by decide +kernel
theorem dX12_print_39 : decode cX12_print 39 = .ok (.aload_n 0, 1) := by decide +kernel
theorem dX12_print_40 : decode cX12_print 40 = .ok (.iconst 0, 1) := by decide +kernel
theorem dX12_print_41 : decode cX12_print 41 = .ok (.putfield 543, 3) := by decide +kernel
theorem dX12_print_44 : decode cX12_print 44 = .ok (.aload_n 0, 1) := by decide +kernel
theorem dX12_print_45 : decode cX12_print 45 = .ok (.iconst 0, 1) := by decide +kernel
theorem dX12_print_46 : decode cX12_print 46 = .ok (.putfield 586, 3) := by decide +kernel
theorem dX12_print_49 : decode cX12_print 49 = .ok (.aload_n 0, 1) := by decide +kernel
theorem dX12_print_50 : decode cX12_print 50 = .ok (.iconst (-1), 1) := by decide +kernel
theorem dX12_print_51 : decode cX12_print 51 = .ok (.putfield 136, 3) := by decide +kernel
theorem dX12_print_54 : decode cX12_print 54 = .ok (.aload_n 0, 1) := by decide +kernel
theorem dX12_print_55 : decode cX12_print 55 = .ok (.iconst (-1), 1) := by decide +kernel
theorem dX12_print_56 : decode cX12_print 56 = .ok (.putfield 140, 3) := by decide +kernel
theorem dX12_print_59 : decode cX12_print 59 = .ok (.aload_n 0, 1) := by decide +kernel
theorem dX12_print_60 : decode cX12_print 60 = .ok (.iconst 0, 1) := by decide +kernel
theorem dX12_print_61 : decode cX12_print 61 = .ok (.putfield 222, 3) := by decide +kernel
theorem dX12_print_64 : decode cX12_print 64 = .ok (.aload_n 0, 1) := by decide +kernel
theorem dX12_print_65 : decode cX12_print 65 = .ok (.iconst 0, 1) := by decide +kernel
theorem dX12_print_66 : decode cX12_print 66 = .ok (.putfield 279, 3) := by decide +kernel
theorem dX12_print_69 : decode cX12_print 69 = .ok (.aload_n 0, 1) := by decide +kernel
theorem dX12_print_70 : decode cX12_print 70 = .ok (.iconst 0, 1) := by decide +kernel
theorem dX12_print_71 : decode cX12_print 71 = .ok (.putfield 219, 3) := by decide +kernel
theorem dX12_print_74 : decode cX12_print 74 = .ok (.aload_n 0, 1) := by decide +kernel
theorem dX12_print_75 : decode cX12_print 75 = .ok (.invokevirtual 241, 3) := by decide +kernel
theorem dX12_print_78 : decode cX12_print 78 = .ok (.iconst 0, 1) := by decide +kernel
theorem dX12_print_79 : decode cX12_print 79 = .ok (.istore_n 2, 1) := by decide +kernel
theorem dX12_print_80 : decode cX12_print 80 = .ok (.iload_n 2, 1) := by decide +kernel
theorem dX12_print_81 : decode cX12_print 81 = .ok (.aload_n 0, 1) := by decide +kernel
theorem dX12_print_82 : decode cX12_print 82 = .ok (.getfield 153, 3) := by decide +kernel
theorem dX12_print_85 : decode cX12_print 85 = .ok (.if_icmp .ge 68, 3) := by decide +kernel
theorem dX12_print_88 : decode cX12_print 88 = .ok (.aload_n 0, 1) := by decide +kernel
theorem dX12_print_89 : decode cX12_print 89 = .ok (.getfield 586, 3) := by decide +kernel
theorem dX12_print_92 : decode cX12_print 92 = .ok (.ifCond .ne 61, 3) := by decide +kernel
theorem dX12_print_95 : decode cX12_print 95 = .ok (.aload_n 0, 1) := by decide +kernel
theorem dX12_print_96 : decode cX12_print 96 = .ok (.getfield 72, 3) := by decide +kernel
theorem dX12_print_99 : decode cX12_print 99 = .ok (.iload_n 2, 1) := by decide +kernel
theorem dX12_print_100 : decode cX12_print 100 = .ok (.iaload, 1) := by decide +kernel
theorem dX12_print_101 : decode cX12_print 101 = .ok (.ifCond .ne 11, 3) := by decide +kernel
theorem dX12_print_104 : decode cX12_print 104 = .ok (.aload_n 0, 1) := by decide +kernel
theorem dX12_print_105 : decode cX12_print 105 = .ok (.iload_n 2, 1) := by decide +kernel
theorem dX12_print_106 : decode cX12_print 106 = .ok (.invokevirtual 655, 3) := by decide +kernel
theorem dX12_print_109 : decode cX12_print 109 = .ok (.goto 9, 3) := by decide +kernel
theorem dX12_print_112 : decode cX12_print 112 = .ok (.aload_n 0, 1) := by decide +kernel
theorem dX12_print_113 : decode cX12_print 113 = .ok (.iload_n 2, 1) := by decide +kernel
theorem dX12_print_114 : decode cX12_print 114 = .ok (.invokevirtual 658, 3) := by decide +kernel
theorem dX12_print_117 : decode cX12_print 117 = .ok (.istore_n 3, 1) := by decide +kernel
theorem dX12_print_118 : decode cX12_print 118 = .ok (.aload_n 0, 1) := by decide +kernel
theorem dX12_print_119 : decode cX12_print 119 = .ok (.getfield 191, 3) := by decide +kernel
theorem dX12_print_122 : decode cX12_print 122 = .ok (.ifCond .eq 13, 3) := by decide +kernel
theorem dX12_print_125 : decode cX12_print 125 = .ok (.aload_n 0, 1) := by decide +kernel
theorem dX12_print_126 : decode cX12_print 126 = .ok (.iconst 1, 1) := by decide +kernel
theorem dX12_print_127 : decode cX12_print 127 = .ok (.putfield 586, 3) := by decide +kernel
theorem dX12_print_130 : decode cX12_print 130 = .ok (.aload_n 0, 1) := by decide +kernel
theorem dX12_print_131 : decode cX12_print 131 = .ok (.iconst (-1), 1) := by decide +kernel
theorem dX12_print_132 : decode cX12_print 132 = .ok (.putfield 140, 3) := by decide +kernel
theorem dX12_print_135 : decode cX12_print 135 = .ok (.aload_n 0, 1) := by decide +kernel
theorem dX12_print_136 : decode cX12_print 136 = .ok (.getfield 586, 3) := by decide +kernel
theorem dX12_print_139 : decode cX12_print 139 = .ok (.ifCond .eq 8, 3) := by decide +kernel
theorem dX12_print_142 : decode cX12_print 142 = .ok (.aload_n 0, 1) := by decide +kernel
theorem dX12_print_143 : decode cX12_print 143 = .ok (.iload_n 2, 1) := by decide +kernel
theorem dX12_print_144 : decode cX12_print 144 = .ok (.putfield 136, 3) := by decide +kernel
theorem dX12_print_147 : decode cX12_print 147 = .ok (.iinc 2 1, 3) := by decide +kernel
theorem dX12_print_150 : decode cX12_print 150 = .ok (.goto (-70), 3) := by decide +kernel
theorem dX12_print_153 : decode cX12_print 153 = .ok (.aload_n 0, 1) := by decide +kernel
theorem dX12_print_154 : decode cX12_print 154 = .ok (.iconst 0, 1) := by decide +kernel
theorem dX12_print_155 : decode cX12_print 155 = .ok (.putfield 153, 3) := by decide +kernel
theorem dX12_print_158 : decode cX12_print 158 = .ok (.aload_n 0, 1) := by decide +kernel
theorem dX12_print_159 : decode cX12_print 159 = .ok (.getfield 586, 3) := by decide +kernel
theorem dX12_print_162 : decode cX12_print 162 = .ok (.ifCond .eq 25, 3) := by decide +kernel
theorem dX12_print_165 : decode cX12_print 165 = .ok (.aload_n 0, 1) := by decide +kernel
theorem dX12_print_166 : decode cX12_print 166 = .ok (.invokevirtual 387, 3) := by decide +kernel
theorem dX12_print_169 : decode cX12_print 169 = .ok (.aload_n 0, 1) := by decide +kernel
theorem dX12_print_170 : decode cX12_print 170 = .ok (.iconst 0, 1) := by decide +kernel
theorem dX12_print_171 : decode cX12_print 171 = .ok (.putfield 198, 3) := by decide +kernel
theorem dX12_print_174 : decode cX12_print 174 = .ok (.aload_n 0, 1) := by decide +kernel
theorem dX12_print_175 : decode cX12_print 175 = .ok (.iconst 0, 1) := by decide +kernel
theorem dX12_print_176 : decode cX12_print 176 = .ok (.putfield 543, 3) := by decide +kernel
theorem dX12_print_179 : decode cX12_print 179 = .ok (.bipush (-10), 2) := by decide +kernel
theorem dX12_print_181 : decode cX12_print 181 = .ok (.aload_n 0, 1) := by decide +kernel
theorem dX12_print_182 : decode cX12_print 182 = .ok (.getfield 586, 3) := by decide +kernel
theorem dX12_print_185 : decode cX12_print 185 = .ok (.isub, 1) := by decide +kernel
theorem dX12_print_186 : decode cX12_print 186 = .ok (.ireturn, 1) := by decide +kernel
theorem dX12_print_187 : decode cX12_print 187 = .ok (.aload_n 0, 1) := by decide +kernel
theorem dX12_print_188 : decode cX12_print 188 = .ok (.getfield 198, 3) := by decide +kernel
theorem dX12_print_191 : decode cX12_print 191 = .ok (.ireturn, 1) := by decide +kernel
noncomputable def f_X12_print_153 (T : Mm) : Option (Int32 × Mm) :=
  lb (uI T 1222 133 0) fun T1 =>
  if (gI T1 1243 133) = 0 then (some ((gI T1 1240 133), T1))
  else (bd (f_X12_temporaryGo T1) fun _ T2 =>
  lb (uI T2 1240 133 0) fun T3 =>
  lb (uI T3 1242 133 0) fun T4 =>
  some (((-10 : Int32) - (gI T4 1243 133)), T4))
set_option maxRecDepth 100000 in
set_option maxHeartbeats 4000000 in
theorem s_X12_print_153 {x : JX} {ad : Nat → Nat} {U : Mm} {S0 : Hp} {q : Int32 × Mm}  (hn9 : x_n x = 4) (C : CB x RX12 cX12_print) (M : CMr x 100 (some .int) S0 ad false U eI q) (T : Mm) (h : f_X12_print_153   T = some q) : Jr x ad false U T [(0, .ref (ad 133))] 153 [] := by
  unfold f_X12_print_153 at h
  refine r_aload_n C dX12_print_153 rfl 0 rfl ?_
  refine r_iconst (v := 0) C dX12_print_154 (by decide) ?_
  refine r_puti (f := 1222) C flX12_153 (by decide) rfl rfl dX12_print_155 kq_133 rfl h (fun T1 h => ?_)
  refine r_aload_n C dX12_print_158 rfl 0 rfl ?_
  refine r_geti (f := 1243) C flX12_586 dX12_print_159 kq_133 (by decide) (by decide) rfl ?_
  show Jr _ _ _ _ _ _ 162 _
  refine r_if_eq (tgt := 187) C dX12_print_162 (by decide) h (fun h => ?_) (fun h => ?_)
  · refine r_aload_n C dX12_print_187 rfl 0 rfl ?_
    refine r_geti (f := 1240) C flX12_198 dX12_print_188 kq_133 (by decide) (by decide) rfl ?_
    exact r_iret C M dX12_print_191 h
  · refine r_aload_n C dX12_print_165 rfl 0 rfl ?_
    refine r_callVN C M h [] [] mlX12_387 mcX12_temporaryGo (fun q9 e9 => s_X12_temporaryGo   e9) kq_133 rfl (by decide) (by decide) rfl rfl (Nat.le_of_ble_eq_true rfl) dX12_print_166 (fun _ T2 h => ?_)
    refine r_aload_n C dX12_print_169 rfl 0 rfl ?_
    refine r_iconst (v := 0) C dX12_print_170 (by decide) ?_
    refine r_puti (f := 1240) C flX12_198 (by decide) rfl rfl dX12_print_171 kq_133 rfl h (fun T3 h => ?_)
    show Jr _ _ _ _ _ _ 174 _
    refine r_aload_n C dX12_print_174 rfl 0 rfl ?_
    refine r_iconst (v := 0) C dX12_print_175 (by decide) ?_
    refine r_puti (f := 1242) C flX12_543 (by decide) rfl rfl dX12_print_176 kq_133 rfl h (fun T4 h => ?_)
    refine r_bipush (v := (-10)) C dX12_print_179 (by decide) ?_
    refine r_aload_n C dX12_print_181 rfl 0 rfl ?_
    refine r_geti (f := 1243) C flX12_586 dX12_print_182 kq_133 (by decide) (by decide) rfl ?_
    show Jr _ _ _ _ _ _ 185 _
    refine r_isub C dX12_print_185 rfl ?_
    exact r_iret C M dX12_print_186 h
noncomputable def f_X12_print_135 (k80 : Int32 → Mm → Option (Int32 × Mm)) (a2 : Int32) (T : Mm) : Option (Int32 × Mm) :=
  if (gI T 1243 133) = 0 then (k80 (a2 + 1) T)
  else (lb (uI T 1244 133 a2) fun T1 =>
  k80 (a2 + 1) T1)
set_option maxRecDepth 100000 in
set_option maxHeartbeats 4000000 in
theorem s_X12_print_135 {x : JX} {ad : Nat → Nat} {U : Mm} {S0 : Hp} {q : Int32 × Mm}  {k80 : Int32 → Mm → Option (Int32 × Mm)} (hn9 : x_n x = 4) (C : CB x RX12 cX12_print) (M : CMr x 100 (some .int) S0 ad false U eI q) (hk80 : ∀ (a2 : Int32) (T : Mm), k80 a2 T = some q → Jr x ad false U T [(0, .ref (ad 133)), (2, .int a2)] 80 []) (a2 : Int32) (T : Mm) (h : f_X12_print_135 k80 a2 T = some q) : Jr x ad false U T [(0, .ref (ad 133)), (2, .int a2)] 135 [] := by
  unfold f_X12_print_135 at h
  refine r_aload_n C dX12_print_135 rfl 0 rfl ?_
  refine r_geti (f := 1243) C flX12_586 dX12_print_136 kq_133 (by decide) (by decide) rfl ?_
  refine r_if_eq (tgt := 147) C dX12_print_139 (by decide) h (fun h => ?_) (fun h => ?_)
  · refine r_iinc (q := 1) (v := (a2 + 1)) (lv' := [(2, .int (a2 + 1)), (0, .ref (ad 133))]) C dX12_print_147 rfl (by rw [show Int32.ofInt (1) = 1 by decide]) (by rw [hn9]; decide) rfl ?_
    refine r_goto (tgt := 80) C dX12_print_150 (by decide) ?_
    refine Jr.sub [1, 0] (lv' := [(0, .ref (ad 133)), (2, .int (a2 + 1))]) rfl ?_
    exact hk80 (a2 + 1) T h
  · refine r_aload_n C dX12_print_142 rfl 0 rfl ?_
    refine r_iload_n C dX12_print_143 rfl 1 rfl ?_
    refine r_puti (f := 1244) C flX12_136 (by decide) rfl rfl dX12_print_144 kq_133 rfl h (fun T1 h => ?_)
    refine r_iinc (q := 1) (v := (a2 + 1)) (lv' := [(2, .int (a2 + 1)), (0, .ref (ad 133))]) C dX12_print_147 rfl (by rw [show Int32.ofInt (1) = 1 by decide]) (by rw [hn9]; decide) rfl ?_
    refine r_goto (tgt := 80) C dX12_print_150 (by decide) ?_
    refine Jr.sub [1, 0] (lv' := [(0, .ref (ad 133)), (2, .int (a2 + 1))]) rfl ?_
    exact hk80 (a2 + 1) T1 h
noncomputable def f_X12_print_118 (k80 : Int32 → Mm → Option (Int32 × Mm)) (a2 : Int32) (T : Mm) : Option (Int32 × Mm) :=
  if (gI T 1233 133) = 0 then (f_X12_print_135 k80 a2 T)
  else (lb (uI T 1243 133 1) fun T1 =>
  lb (uI T1 1245 133 (-1)) fun T2 =>
  f_X12_print_135 k80 a2 T2)
set_option maxRecDepth 100000 in
set_option maxHeartbeats 4000000 in
theorem s_X12_print_118 {x : JX} {ad : Nat → Nat} {U : Mm} {S0 : Hp} {q : Int32 × Mm}  {k80 : Int32 → Mm → Option (Int32 × Mm)} (hn9 : x_n x = 4) (C : CB x RX12 cX12_print) (M : CMr x 100 (some .int) S0 ad false U eI q) (hk80 : ∀ (a2 : Int32) (T : Mm), k80 a2 T = some q → Jr x ad false U T [(0, .ref (ad 133)), (2, .int a2)] 80 []) (a2 : Int32) (T : Mm) (h : f_X12_print_118 k80 a2 T = some q) : Jr x ad false U T [(0, .ref (ad 133)), (2, .int a2)] 118 [] := by
  unfold f_X12_print_118 at h
  refine r_aload_n C dX12_print_118 rfl 0 rfl ?_
  refine r_geti (f := 1233) C flX12_191 dX12_print_119 kq_133 (by decide) (by decide) rfl ?_
  refine r_if_eq (tgt := 135) C dX12_print_122 (by decide) h (fun h => ?_) (fun h => ?_)
  · exact s_X12_print_135 hn9 C M hk80 a2 T h
  · refine r_aload_n C dX12_print_125 rfl 0 rfl ?_
    refine r_iconst (v := 1) C dX12_print_126 (by decide) ?_
    refine r_puti (f := 1243) C flX12_586 (by decide) rfl rfl dX12_print_127 kq_133 rfl h (fun T1 h => ?_)
    refine r_aload_n C dX12_print_130 rfl 0 rfl ?_
    refine r_iconst (v := (-1)) C dX12_print_131 (by decide) ?_
    show Jr _ _ _ _ _ _ 132 _
    refine r_puti (f := 1245) C flX12_140 (by decide) rfl rfl dX12_print_132 kq_133 rfl h (fun T2 h => ?_)
    exact s_X12_print_135 hn9 C M hk80 a2 T2 h
noncomputable def f_X12_print_b80 (k80 : Int32 → Mm → Option (Int32 × Mm)) (a2 : Int32) (T : Mm) : Option (Int32 × Mm) :=
  if (gI T 1222 133) ≤ a2 then (f_X12_print_153 T)
  else (if (gI T 1243 133) = 0 then (ix a2 6 fun j1 =>
  if (gA T 154 j1) = 0 then (bd (f_X12_stream a2 T) fun _ T5 =>
  f_X12_print_118 k80 a2 T5)
  else (bd (f_X12_pictures a2 T) fun v3 T4 =>
  f_X12_print_118 k80 a2 T4))
  else (f_X12_print_153 T))
set_option maxRecDepth 100000 in
set_option maxHeartbeats 4000000 in
theorem s_X12_print_b80 {x : JX} {ad : Nat → Nat} {U : Mm} {S0 : Hp} {q : Int32 × Mm}  {k80 : Int32 → Mm → Option (Int32 × Mm)} (hn9 : x_n x = 4) (C : CB x RX12 cX12_print) (M : CMr x 100 (some .int) S0 ad false U eI q) (hk80 : ∀ (a2 : Int32) (T : Mm), k80 a2 T = some q → Jr x ad false U T [(0, .ref (ad 133)), (2, .int a2)] 80 []) (a2 : Int32) (T : Mm) (h : f_X12_print_b80 k80 a2 T = some q) : Jr x ad false U T [(0, .ref (ad 133)), (2, .int a2)] 80 [] := by
  unfold f_X12_print_b80 at h
  refine r_iload_n C dX12_print_80 rfl 1 rfl ?_
  refine r_aload_n C dX12_print_81 rfl 0 rfl ?_
  refine r_geti (f := 1222) C flX12_153 dX12_print_82 kq_133 (by decide) (by decide) rfl ?_
  refine r_ic_ge (tgt := 153) C dX12_print_85 (by decide) h (fun h => ?_) (fun h => ?_)
  · refine Jr.sub [0] (lv' := [(0, .ref (ad 133))]) rfl ?_
    exact s_X12_print_153 hn9 C M  T h
  · refine r_aload_n C dX12_print_88 rfl 0 rfl ?_
    refine r_geti (f := 1243) C flX12_586 dX12_print_89 kq_133 (by decide) (by decide) rfl ?_
    refine r_if_ne (tgt := 153) C dX12_print_92 (by decide) h (fun h => ?_) (fun h => ?_)
    · refine Jr.sub [0] (lv' := [(0, .ref (ad 133))]) rfl ?_
      exact s_X12_print_153 hn9 C M  T h
    · refine r_aload_n C dX12_print_95 rfl 0 rfl ?_
      refine r_getp (f := 1221) (j := 154) C flX12_72 dX12_print_96 kq_133 (by decide) rfl (fun W => pt_1221 kq_133 W) ?_
      refine r_iload_n C dX12_print_99 rfl 1 rfl ?_
      refine r_iald (n := 6) C dX12_print_100 kq_154 lq_154 h (fun j1 hj2 h => ?_)
      refine r_if_ne (tgt := 112) C dX12_print_101 (by decide) h (fun h => ?_) (fun h => ?_)
      · refine r_aload_n C dX12_print_112 rfl 0 rfl ?_
        refine r_iload_n C dX12_print_113 rfl 1 rfl ?_
        refine r_callVI C M h [.int a2] [] mlX12_658 mcX12_pictures (fun q9 e9 => s_X12_pictures a2  e9) kq_133 rfl (by decide) (by decide) rfl rfl (Nat.le_of_ble_eq_true rfl) dX12_print_114 (fun v3 T4 h => ?_)
        refine r_istore_n (lv' := [(3, .int v3), (0, .ref (ad 133)), (2, .int a2)]) C dX12_print_117 rfl (by rw [hn9]; decide) rfl ?_
        refine Jr.sub [1, 2] (lv' := [(0, .ref (ad 133)), (2, .int a2)]) rfl ?_
        exact s_X12_print_118 hn9 C M hk80 a2 T4 h
      · refine r_aload_n C dX12_print_104 rfl 0 rfl ?_
        refine r_iload_n C dX12_print_105 rfl 1 rfl ?_
        refine r_callVN C M h [.int a2] [] mlX12_655 mcX12_stream (fun q9 e9 => s_X12_stream a2  e9) kq_133 rfl (by decide) (by decide) rfl rfl (Nat.le_of_ble_eq_true rfl) dX12_print_106 (fun _ T5 h => ?_)
        refine r_goto (tgt := 118) C dX12_print_109 (by decide) ?_
        exact s_X12_print_118 hn9 C M hk80 a2 T5 h
noncomputable def f_X12_print_l80 (n : Nat) : Int32 → Mm → Option (Int32 × Mm) := Nat.rec (fun _ _ => none) (fun _ ih => f_X12_print_b80 ih) n
theorem s_X12_print_l80 {x : JX} {ad : Nat → Nat} {U : Mm} {S0 : Hp} {q : Int32 × Mm}  (hn9 : x_n x = 4) (C : CB x RX12 cX12_print) (M : CMr x 100 (some .int) S0 ad false U eI q) : ∀ (n : Nat), ∀ (a2 : Int32) (T : Mm), f_X12_print_l80  n a2 T = some q → Jr x ad false U T [(0, .ref (ad 133)), (2, .int a2)] 80 [] := by
  intro n
  induction n with
  | zero => intro a2 T  h; exact absurd h (by intro h; cases h)
  | succ n ih => exact fun a2 T  h => s_X12_print_b80 hn9 C M (ih) a2 T  h
noncomputable def f_X12_print (p1 : Int32) (T : Mm) : Option (Int32 × Mm) :=
  if p1 < 1 then (some ((-1), T))
  else (if p1 ≤ 800 then (lb (uI T 1232 133 0) fun T1 =>
  lb (uI T1 1233 133 0) fun T2 =>
  lb (uI T2 1236 133 0) fun T3 =>
  lb (uJ T3 1249 133 0) fun T4 =>
  lb (uI T4 1240 133 0) fun T5 =>
  lb (uI T5 1242 133 0) fun T6 =>
  lb (uI T6 1243 133 0) fun T7 =>
  lb (uI T7 1244 133 (-1)) fun T8 =>
  lb (uI T8 1245 133 (-1)) fun T9 =>
  lb (uI T9 1229 133 0) fun T10 =>
  lb (uI T10 1230 133 0) fun T11 =>
  lb (uI T11 1231 133 0) fun T12 =>
  bd (f_X12_white T12) fun _ T13 =>
  f_X12_print_l80 FU 0 T13)
  else (some ((-1), T)))
set_option maxRecDepth 100000 in
set_option maxHeartbeats 4000000 in
theorem s_X12_print {ad : Nat → Nat} {U T : Mm} {q : Int32 × Mm}  (p1 : Int32) (h : f_X12_print p1 T = some q) : Cr 100 yX12_print cX12_print 4 (some .int) [.ref (ad 133), .int p1] ad false U T eI q := by
  refine cr_of (by decide) (Nat.le_of_ble_eq_true rfl) fun x S0 hn9 C M => ?_
  have C : CB x RX12 cX12_print := C
  refine Jr.eq (lv' := [(0, .ref (ad 133)), (1, .int p1)]) (st' := []) rfl rfl ?_
  unfold f_X12_print at h
  refine r_iload_n C dX12_print_0 rfl 1 rfl ?_
  refine r_iconst (v := 1) C dX12_print_1 (by decide) ?_
  refine r_ic_lt (tgt := 12) C dX12_print_2 (by decide) h (fun h => ?_) (fun h => ?_)
  · refine r_iconst (v := (-1)) C dX12_print_12 (by decide) ?_
    exact r_iret C M dX12_print_13 h
  · refine r_iload_n C dX12_print_5 rfl 1 rfl ?_
    refine r_sipush (v := 800) C dX12_print_6 (by decide) ?_
    refine r_ic_le (tgt := 14) C dX12_print_9 (by decide) h (fun h => ?_) (fun h => ?_)
    · refine r_aload_n C dX12_print_14 rfl 0 rfl ?_
      refine r_iconst (v := 0) C dX12_print_15 (by decide) ?_
      refine r_puti (f := 1232) C flX12_275 (by decide) rfl rfl dX12_print_16 kq_133 rfl h (fun T1 h => ?_)
      refine r_aload_n C dX12_print_19 rfl 0 rfl ?_
      refine r_iconst (v := 0) C dX12_print_20 (by decide) ?_
      show Jr _ _ _ _ _ _ 21 _
      refine r_putz (f := 1233) C flX12_191 (by decide) rfl rfl (by decide) dX12_print_21 kq_133 rfl h (fun T2 h => ?_)
      refine r_aload_n C dX12_print_24 rfl 0 rfl ?_
      refine r_iconst (v := 0) C dX12_print_25 (by decide) ?_
      refine r_puti (f := 1236) C flX12_195 (by decide) rfl rfl dX12_print_26 kq_133 rfl h (fun T3 h => ?_)
      refine r_aload_n C dX12_print_29 rfl 0 rfl ?_
      refine r_lconst (v := 0) C dX12_print_30 (by decide) ?_
      show Jr _ _ _ _ _ _ 31 _
      refine r_putl (f := 1249) C flX12_185 (by decide) rfl rfl dX12_print_31 kq_133 rfl h (fun T4 h => ?_)
      refine r_aload_n C dX12_print_34 rfl 0 rfl ?_
      refine r_iconst (v := 0) C dX12_print_35 (by decide) ?_
      refine r_puti (f := 1240) C flX12_198 (by decide) rfl rfl dX12_print_36 kq_133 rfl h (fun T5 h => ?_)
      refine r_aload_n C dX12_print_39 rfl 0 rfl ?_
      refine r_iconst (v := 0) C dX12_print_40 (by decide) ?_
      show Jr _ _ _ _ _ _ 41 _
      refine r_puti (f := 1242) C flX12_543 (by decide) rfl rfl dX12_print_41 kq_133 rfl h (fun T6 h => ?_)
      refine r_aload_n C dX12_print_44 rfl 0 rfl ?_
      refine r_iconst (v := 0) C dX12_print_45 (by decide) ?_
      refine r_puti (f := 1243) C flX12_586 (by decide) rfl rfl dX12_print_46 kq_133 rfl h (fun T7 h => ?_)
      refine r_aload_n C dX12_print_49 rfl 0 rfl ?_
      refine r_iconst (v := (-1)) C dX12_print_50 (by decide) ?_
      show Jr _ _ _ _ _ _ 51 _
      refine r_puti (f := 1244) C flX12_136 (by decide) rfl rfl dX12_print_51 kq_133 rfl h (fun T8 h => ?_)
      refine r_aload_n C dX12_print_54 rfl 0 rfl ?_
      refine r_iconst (v := (-1)) C dX12_print_55 (by decide) ?_
      refine r_puti (f := 1245) C flX12_140 (by decide) rfl rfl dX12_print_56 kq_133 rfl h (fun T9 h => ?_)
      refine r_aload_n C dX12_print_59 rfl 0 rfl ?_
      refine r_iconst (v := 0) C dX12_print_60 (by decide) ?_
      show Jr _ _ _ _ _ _ 61 _
      refine r_puti (f := 1229) C flX12_222 (by decide) rfl rfl dX12_print_61 kq_133 rfl h (fun T10 h => ?_)
      refine r_aload_n C dX12_print_64 rfl 0 rfl ?_
      refine r_iconst (v := 0) C dX12_print_65 (by decide) ?_
      refine r_putz (f := 1230) C flX12_279 (by decide) rfl rfl (by decide) dX12_print_66 kq_133 rfl h (fun T11 h => ?_)
      refine r_aload_n C dX12_print_69 rfl 0 rfl ?_
      refine r_iconst (v := 0) C dX12_print_70 (by decide) ?_
      show Jr _ _ _ _ _ _ 71 _
      refine r_putz (f := 1231) C flX12_219 (by decide) rfl rfl (by decide) dX12_print_71 kq_133 rfl h (fun T12 h => ?_)
      refine r_aload_n C dX12_print_74 rfl 0 rfl ?_
      refine r_callVN C M h [] [] mlX12_241 mcX12_white (fun q9 e9 => s_X12_white   e9) kq_133 rfl (by decide) (by decide) rfl rfl (Nat.le_of_ble_eq_true rfl) dX12_print_75 (fun _ T13 h => ?_)
      refine r_iconst (v := 0) C dX12_print_78 (by decide) ?_
      refine r_istore_n (lv' := [(2, .int 0), (0, .ref (ad 133)), (1, .int p1)]) C dX12_print_79 rfl (by rw [hn9]; decide) rfl ?_
      refine Jr.sub [1, 0] (lv' := [(0, .ref (ad 133)), (2, .int 0)]) rfl ?_
      exact s_X12_print_l80 hn9 C M  FU 0 T13 h
    · refine r_iconst (v := (-1)) C dX12_print_12 (by decide) ?_
      exact r_iret C M dX12_print_13 h
theorem dX12_fault_0 : decode cX12_fault 0 = .ok (.iload_n 1, 1) := by decide +kernel
theorem dX12_fault_1 : decode cX12_fault 1 = .ok (.ifCond .ne 8, 3) := by decide +kernel
theorem dX12_fault_4 : decode cX12_fault 4 = .ok (.aload_n 0, 1) := by decide +kernel
theorem dX12_fault_5 : decode cX12_fault 5 = .ok (.getfield 586, 3) := by decide +kernel
theorem dX12_fault_8 : decode cX12_fault 8 = .ok (.ireturn, 1) := by decide +kernel
theorem dX12_fault_9 : decode cX12_fault 9 = .ok (.iload_n 1, 1) := by decide +kernel
theorem dX12_fault_10 : decode cX12_fault 10 = .ok (.iconst 1, 1) := by decide +kernel
theorem dX12_fault_11 : decode cX12_fault 11 = .ok (.if_icmp .ne 10, 3) := by decide +kernel
theorem dX12_fault_14 : decode cX12_fault 14 = .ok (.aload_n 0, 1) := by decide +kernel
theorem dX12_fault_15 : decode cX12_fault 15 = .ok (.getfield 136, 3) := by decide +kernel
theorem dX12_fault_18 : decode cX12_fault 18 = .ok (.goto 16, 3) := by decide +kernel
theorem dX12_fault_21 : decode cX12_fault 21 = .ok (.iload_n 1, 1) := by decide +kernel
theorem dX12_fault_22 : decode cX12_fault 22 = .ok (.iconst 2, 1) := by decide +kernel
theorem dX12_fault_23 : decode cX12_fault 23 = .ok (.if_icmp .ne 10, 3) := by decide +kernel
theorem dX12_fault_26 : decode cX12_fault 26 = .ok (.aload_n 0, 1) := by decide +kernel
theorem dX12_fault_27 : decode cX12_fault 27 = .ok (.getfield 140, 3) := by decide +kernel
theorem dX12_fault_30 : decode cX12_fault 30 = .ok (.goto 4, 3) := by decide +kernel
theorem dX12_fault_33 : decode cX12_fault 33 = .ok (.iconst (-1), 1) := by decide +kernel
theorem dX12_fault_34 : decode cX12_fault 34 = .ok (.ireturn, 1) := by decide +kernel
noncomputable def f_X12_fault (p1 : Int32) (T : Mm) : Option (Int32 × Mm) :=
  if p1 = 0 then (some ((gI T 1243 133), T))
  else (if p1 = 1 then (some ((gI T 1244 133), T))
  else (if p1 = 2 then (some ((gI T 1245 133), T))
  else (some ((-1), T))))
set_option maxRecDepth 100000 in
set_option maxHeartbeats 4000000 in
theorem s_X12_fault {ad : Nat → Nat} {U T : Mm} {q : Int32 × Mm}  (p1 : Int32) (h : f_X12_fault p1 T = some q) : Cr 1 yX12_fault cX12_fault 2 (some .int) [.ref (ad 133), .int p1] ad false U T eI q := by
  refine cr_of (by decide) (Nat.le_of_ble_eq_true rfl) fun x S0 hn9 C M => ?_
  have C : CB x RX12 cX12_fault := C
  refine Jr.eq (lv' := [(0, .ref (ad 133)), (1, .int p1)]) (st' := []) rfl rfl ?_
  unfold f_X12_fault at h
  refine r_iload_n C dX12_fault_0 rfl 1 rfl ?_
  refine r_if_ne (tgt := 9) C dX12_fault_1 (by decide) h (fun h => ?_) (fun h => ?_)
  · refine r_iload_n C dX12_fault_9 rfl 1 rfl ?_
    refine r_iconst (v := 1) C dX12_fault_10 (by decide) ?_
    refine r_ic_ne (tgt := 21) C dX12_fault_11 (by decide) h (fun h => ?_) (fun h => ?_)
    · refine r_iload_n C dX12_fault_21 rfl 1 rfl ?_
      refine r_iconst (v := 2) C dX12_fault_22 (by decide) ?_
      refine r_ic_ne (tgt := 33) C dX12_fault_23 (by decide) h (fun h => ?_) (fun h => ?_)
      · refine r_iconst (v := (-1)) C dX12_fault_33 (by decide) ?_
        exact r_iret C M dX12_fault_34 h
      · refine r_aload_n C dX12_fault_26 rfl 0 rfl ?_
        refine r_geti (f := 1245) C flX12_140 dX12_fault_27 kq_133 (by decide) (by decide) rfl ?_
        refine r_goto (tgt := 34) C dX12_fault_30 (by decide) ?_
        exact r_iret C M dX12_fault_34 h
    · refine r_aload_n C dX12_fault_14 rfl 0 rfl ?_
      refine r_geti (f := 1244) C flX12_136 dX12_fault_15 kq_133 (by decide) (by decide) rfl ?_
      refine r_goto (tgt := 34) C dX12_fault_18 (by decide) ?_
      exact r_iret C M dX12_fault_34 h
  · refine r_aload_n C dX12_fault_4 rfl 0 rfl ?_
    refine r_geti (f := 1243) C flX12_586 dX12_fault_5 kq_133 (by decide) (by decide) rfl ?_
    exact r_iret C M dX12_fault_8 h
theorem dX12_outs_0 : decode cX12_outs 0 = .ok (.aload_n 0, 1) := by decide +kernel
theorem dX12_outs_1 : decode cX12_outs 1 = .ok (.getfield 543, 3) := by decide +kernel
theorem dX12_outs_4 : decode cX12_outs 4 = .ok (.ireturn, 1) := by decide +kernel
noncomputable def f_X12_outs (T : Mm) : Option (Int32 × Mm) :=
  some ((gI T 1242 133), T)
set_option maxRecDepth 100000 in
set_option maxHeartbeats 4000000 in
theorem s_X12_outs {ad : Nat → Nat} {U T : Mm} {q : Int32 × Mm}  (h : f_X12_outs  T = some q) : Cr 1 yX12_outs cX12_outs 1 (some .int) [.ref (ad 133)] ad false U T eI q := by
  refine cr_of (by decide) (Nat.le_of_ble_eq_true rfl) fun x S0 hn9 C M => ?_
  have C : CB x RX12 cX12_outs := C
  refine Jr.eq (lv' := [(0, .ref (ad 133))]) (st' := []) rfl rfl ?_
  unfold f_X12_outs at h
  refine r_aload_n C dX12_outs_0 rfl 0 rfl ?_
  refine r_geti (f := 1242) C flX12_543 dX12_outs_1 kq_133 (by decide) (by decide) rfl ?_
  exact r_iret C M dX12_outs_4 h
theorem dX12_out_0 : decode cX12_out 0 = .ok (.iload_n 1, 1) := by decide +kernel
theorem dX12_out_1 : decode cX12_out 1 = .ok (.ifCond .lt 11, 3) := by decide +kernel
theorem dX12_out_4 : decode cX12_out 4 = .ok (.iload_n 1, 1) := by decide +kernel
theorem dX12_out_5 : decode cX12_out 5 = .ok (.aload_n 0, 1) := by decide +kernel
theorem dX12_out_6 : decode cX12_out 6 = .ok (.getfield 543, 3) := by decide +kernel
theorem dX12_out_9 : decode cX12_out 9 = .ok (.if_icmp .lt 7, 3) := by decide +kernel
theorem dX12_out_12 : decode cX12_out 12 = .ok (.iconst (-1), 1) := by decide +kernel
theorem dX12_out_13 : decode cX12_out 13 = .ok (.goto 13, 3) := by decide +kernel
theorem dX12_out_16 : decode cX12_out 16 = .ok (.aload_n 0, 1) := by decide +kernel
theorem dX12_out_17 : decode cX12_out 17 = .ok (.getfield 96, 3) := by decide +kernel
theorem dX12_out_20 : decode cX12_out 20 = .ok (.iload_n 1, 1) := by decide +kernel
theorem dX12_out_21 : decode cX12_out 21 = .ok (.baload, 1) := by decide +kernel
theorem dX12_out_22 : decode cX12_out 22 = .ok (.sipush 255, 3) := by decide +kernel
theorem dX12_out_25 : decode cX12_out 25 = .ok (.iand, 1) := by decide +kernel
theorem dX12_out_26 : decode cX12_out 26 = .ok (.ireturn, 1) := by decide +kernel
noncomputable def f_X12_out (p1 : Int32) (T : Mm) : Option (Int32 × Mm) :=
  if p1 < 0 then (some ((-1), T))
  else (if p1 < (gI T 1242 133) then (ix p1 60008 fun j1 =>
  some (((gA T 161 j1) &&& 255), T))
  else (some ((-1), T)))
set_option maxRecDepth 100000 in
set_option maxHeartbeats 4000000 in
theorem s_X12_out {ad : Nat → Nat} {U T : Mm} {q : Int32 × Mm}  (p1 : Int32) (h : f_X12_out p1 T = some q) : Cr 1 yX12_out cX12_out 2 (some .int) [.ref (ad 133), .int p1] ad false U T eI q := by
  refine cr_of (by decide) (Nat.le_of_ble_eq_true rfl) fun x S0 hn9 C M => ?_
  have C : CB x RX12 cX12_out := C
  refine Jr.eq (lv' := [(0, .ref (ad 133)), (1, .int p1)]) (st' := []) rfl rfl ?_
  unfold f_X12_out at h
  refine r_iload_n C dX12_out_0 rfl 1 rfl ?_
  refine r_if_lt (tgt := 12) C dX12_out_1 (by decide) h (fun h => ?_) (fun h => ?_)
  · refine r_iconst (v := (-1)) C dX12_out_12 (by decide) ?_
    refine r_goto (tgt := 26) C dX12_out_13 (by decide) ?_
    exact r_iret C M dX12_out_26 h
  · refine r_iload_n C dX12_out_4 rfl 1 rfl ?_
    refine r_aload_n C dX12_out_5 rfl 0 rfl ?_
    refine r_geti (f := 1242) C flX12_543 dX12_out_6 kq_133 (by decide) (by decide) rfl ?_
    refine r_ic_lt (tgt := 16) C dX12_out_9 (by decide) h (fun h => ?_) (fun h => ?_)
    · refine r_aload_n C dX12_out_16 rfl 0 rfl ?_
      refine r_getp (f := 1241) (j := 161) C flX12_96 dX12_out_17 kq_133 (by decide) rfl (fun W => pt_1241 kq_133 W) ?_
      refine r_iload_n C dX12_out_20 rfl 1 rfl ?_
      refine r_bald (n := 60008) C dX12_out_21 kq_161 lq_161 h (fun j1 hj2 h => ?_)
      refine r_sipush (v := 255) C dX12_out_22 (by decide) ?_
      show Jr _ _ _ _ _ _ 25 _
      refine r_iand C dX12_out_25 rfl ?_
      exact r_iret C M dX12_out_26 h
    · refine r_iconst (v := (-1)) C dX12_out_12 (by decide) ?_
      refine r_goto (tgt := 26) C dX12_out_13 (by decide) ?_
      exact r_iret C M dX12_out_26 h
theorem dX12_sum_0 : decode cX12_sum 0 = .ok (.iconst 0, 1) := by decide +kernel
theorem dX12_sum_1 : decode cX12_sum 1 = .ok (.istore_n 1, 1) := by decide +kernel
theorem dX12_sum_2 : decode cX12_sum 2 = .ok (.iconst 0, 1) := by decide +kernel
theorem dX12_sum_3 : decode cX12_sum 3 = .ok (.istore_n 2, 1) := by decide +kernel
theorem dX12_sum_4 : decode cX12_sum 4 = .ok (.iload_n 2, 1) := by decide +kernel
theorem dX12_sum_5 : decode cX12_sum 5 = .ok (.aload_n 0, 1) := by decide +kernel
theorem dX12_sum_6 : decode cX12_sum 6 = .ok (.getfield 543, 3) := by decide +kernel
theorem dX12_sum_9 : decode cX12_sum 9 = .ok (.if_icmp .ge 25, 3) := by decide +kernel
theorem dX12_sum_12 : decode cX12_sum 12 = .ok (.bipush 31, 2) := by decide +kernel
theorem dX12_sum_14 : decode cX12_sum 14 = .ok (.iload_n 1, 1) := by decide +kernel
theorem dX12_sum_15 : decode cX12_sum 15 = .ok (.imul, 1) := by decide +kernel
theorem dX12_sum_16 : decode cX12_sum 16 = .ok (.aload_n 0, 1) := by decide +kernel
theorem dX12_sum_17 : decode cX12_sum 17 = .ok (.getfield 96, 3) := by decide +kernel
theorem dX12_sum_20 : decode cX12_sum 20 = .ok (.iload_n 2, 1) := by decide +kernel
theorem dX12_sum_21 : decode cX12_sum 21 = .ok (.baload, 1) := by decide +kernel
theorem dX12_sum_22 : decode cX12_sum 22 = .ok (.sipush 255, 3) := by decide +kernel
theorem dX12_sum_25 : decode cX12_sum 25 = .ok (.iand, 1) := by decide +kernel
theorem dX12_sum_26 : decode cX12_sum 26 = .ok (.iadd, 1) := by decide +kernel
theorem dX12_sum_27 : decode cX12_sum 27 = .ok (.istore_n 1, 1) := by decide +kernel
theorem dX12_sum_28 : decode cX12_sum 28 = .ok (.iinc 2 1, 3) := by decide +kernel
theorem dX12_sum_31 : decode cX12_sum 31 = .ok (.goto (-27), 3) := by decide +kernel
theorem dX12_sum_34 : decode cX12_sum 34 = .ok (.iload_n 1, 1) := by decide +kernel
theorem dX12_sum_35 : decode cX12_sum 35 = .ok (.ireturn, 1) := by decide +kernel
noncomputable def f_X12_sum_b4 (k4 : Int32 → Int32 → Mm → Option (Int32 × Mm)) (a1 : Int32) (a2 : Int32) (T : Mm) : Option (Int32 × Mm) :=
  if (gI T 1242 133) ≤ a2 then (some (a1, T))
  else (ix a2 60008 fun j1 =>
  lb ((((31 : Int32) * a1) + ((gA T 161 j1) &&& 255))) fun v3 =>
  k4 v3 (a2 + 1) T)
set_option maxRecDepth 100000 in
set_option maxHeartbeats 4000000 in
theorem s_X12_sum_b4 {x : JX} {ad : Nat → Nat} {U : Mm} {S0 : Hp} {q : Int32 × Mm}  {k4 : Int32 → Int32 → Mm → Option (Int32 × Mm)} (hn9 : x_n x = 3) (C : CB x RX12 cX12_sum) (M : CMr x 1 (some .int) S0 ad false U eI q) (hk4 : ∀ (a1 : Int32) (a2 : Int32) (T : Mm), k4 a1 a2 T = some q → Jr x ad false U T [(0, .ref (ad 133)), (1, .int a1), (2, .int a2)] 4 []) (a1 : Int32) (a2 : Int32) (T : Mm) (h : f_X12_sum_b4 k4 a1 a2 T = some q) : Jr x ad false U T [(0, .ref (ad 133)), (1, .int a1), (2, .int a2)] 4 [] := by
  unfold f_X12_sum_b4 at h
  refine r_iload_n C dX12_sum_4 rfl 2 rfl ?_
  refine r_aload_n C dX12_sum_5 rfl 0 rfl ?_
  refine r_geti (f := 1242) C flX12_543 dX12_sum_6 kq_133 (by decide) (by decide) rfl ?_
  refine r_ic_ge (tgt := 34) C dX12_sum_9 (by decide) h (fun h => ?_) (fun h => ?_)
  · refine r_iload_n C dX12_sum_34 rfl 1 rfl ?_
    exact r_iret C M dX12_sum_35 h
  · refine r_bipush (v := 31) C dX12_sum_12 (by decide) ?_
    refine r_iload_n C dX12_sum_14 rfl 1 rfl ?_
    refine r_imul C dX12_sum_15 rfl ?_
    refine r_aload_n C dX12_sum_16 rfl 0 rfl ?_
    refine r_getp (f := 1241) (j := 161) C flX12_96 dX12_sum_17 kq_133 (by decide) rfl (fun W => pt_1241 kq_133 W) ?_
    show Jr _ _ _ _ _ _ 20 _
    refine r_iload_n C dX12_sum_20 rfl 2 rfl ?_
    refine r_bald (n := 60008) C dX12_sum_21 kq_161 lq_161 h (fun j1 hj2 h => ?_)
    refine r_sipush (v := 255) C dX12_sum_22 (by decide) ?_
    refine r_iand C dX12_sum_25 rfl ?_
    refine r_iadd C dX12_sum_26 rfl ?_
    refine r_lbI h (fun v3 h => ?_)
    refine r_istore_n (lv' := [(1, .int v3), (0, .ref (ad 133)), (2, .int a2)]) C dX12_sum_27 rfl (by rw [hn9]; decide) rfl ?_
    show Jr _ _ _ _ _ _ 28 _
    refine r_iinc (q := 2) (v := (a2 + 1)) (lv' := [(2, .int (a2 + 1)), (1, .int v3), (0, .ref (ad 133))]) C dX12_sum_28 rfl (by rw [show Int32.ofInt (1) = 1 by decide]) (by rw [hn9]; decide) rfl ?_
    refine r_goto (tgt := 4) C dX12_sum_31 (by decide) ?_
    refine Jr.sub [2, 1, 0] (lv' := [(0, .ref (ad 133)), (1, .int v3), (2, .int (a2 + 1))]) rfl ?_
    exact hk4 v3 (a2 + 1) T h
noncomputable def f_X12_sum_l4 (n : Nat) : Int32 → Int32 → Mm → Option (Int32 × Mm) := Nat.rec (fun _ _ _ => none) (fun _ ih => f_X12_sum_b4 ih) n
theorem s_X12_sum_l4 {x : JX} {ad : Nat → Nat} {U : Mm} {S0 : Hp} {q : Int32 × Mm}  (hn9 : x_n x = 3) (C : CB x RX12 cX12_sum) (M : CMr x 1 (some .int) S0 ad false U eI q) : ∀ (n : Nat), ∀ (a1 : Int32) (a2 : Int32) (T : Mm), f_X12_sum_l4  n a1 a2 T = some q → Jr x ad false U T [(0, .ref (ad 133)), (1, .int a1), (2, .int a2)] 4 [] := by
  intro n
  induction n with
  | zero => intro a1 a2 T  h; exact absurd h (by intro h; cases h)
  | succ n ih => exact fun a1 a2 T  h => s_X12_sum_b4 hn9 C M (ih) a1 a2 T  h
noncomputable def f_X12_sum (T : Mm) : Option (Int32 × Mm) :=
  f_X12_sum_l4 FU 0 0 T
set_option maxRecDepth 100000 in
set_option maxHeartbeats 4000000 in
theorem s_X12_sum {ad : Nat → Nat} {U T : Mm} {q : Int32 × Mm}  (h : f_X12_sum  T = some q) : Cr 1 yX12_sum cX12_sum 3 (some .int) [.ref (ad 133)] ad false U T eI q := by
  refine cr_of (by decide) (Nat.le_of_ble_eq_true rfl) fun x S0 hn9 C M => ?_
  have C : CB x RX12 cX12_sum := C
  refine Jr.eq (lv' := [(0, .ref (ad 133))]) (st' := []) rfl rfl ?_
  unfold f_X12_sum at h
  refine r_iconst (v := 0) C dX12_sum_0 (by decide) ?_
  refine r_istore_n (lv' := [(1, .int 0), (0, .ref (ad 133))]) C dX12_sum_1 rfl (by rw [hn9]; decide) rfl ?_
  refine r_iconst (v := 0) C dX12_sum_2 (by decide) ?_
  refine r_istore_n (lv' := [(2, .int 0), (1, .int 0), (0, .ref (ad 133))]) C dX12_sum_3 rfl (by rw [hn9]; decide) rfl ?_
  refine Jr.sub [2, 1, 0] (lv' := [(0, .ref (ad 133)), (1, .int 0), (2, .int 0)]) rfl ?_
  exact s_X12_sum_l4 hn9 C M  FU 0 0 T h
theorem dX12_take_0 : decode cX12_take 0 = .ok (.aload_n 0, 1) := by decide +kernel
theorem dX12_take_1 : decode cX12_take 1 = .ok (.getfield 543, 3) := by decide +kernel
theorem dX12_take_4 : decode cX12_take 4 = .ok (.sipush 8000, 3) := by decide +kernel
theorem dX12_take_7 : decode cX12_take 7 = .ok (.if_icmp .le 5, 3) := by decide +kernel
theorem dX12_take_10 : decode cX12_take 10 = .ok (.iconst (-1), 1) := by decide +kernel
theorem dX12_take_11 : decode cX12_take 11 = .ok (.ireturn, 1) := by decide +kernel
theorem dX12_take_12 : decode cX12_take 12 = .ok (.iconst 0, 1) := by decide +kernel
theorem dX12_take_13 : decode cX12_take 13 = .ok (.istore_n 1, 1) := by decide +kernel
theorem dX12_take_14 : decode cX12_take 14 = .ok (.iload_n 1, 1) := by decide +kernel
theorem dX12_take_15 : decode cX12_take 15 = .ok (.aload_n 0, 1) := by decide +kernel
theorem dX12_take_16 : decode cX12_take 16 = .ok (.getfield 543, 3) := by decide +kernel
theorem dX12_take_19 : decode cX12_take 19 = .ok (.if_icmp .ge 21, 3) := by decide +kernel
theorem dX12_take_22 : decode cX12_take 22 = .ok (.aload_n 0, 1) := by decide +kernel
theorem dX12_take_23 : decode cX12_take 23 = .ok (.getfield 75, 3) := by decide +kernel
theorem dX12_take_26 : decode cX12_take 26 = .ok (.iload_n 1, 1) := by decide +kernel
theorem dX12_take_27 : decode cX12_take 27 = .ok (.aload_n 0, 1) := by decide +kernel
theorem dX12_take_28 : decode cX12_take 28 = .ok (.getfield 96, 3) := by decide +kernel
theorem dX12_take_31 : decode cX12_take 31 = .ok (.iload_n 1, 1) := by decide +kernel
theorem dX12_take_32 : decode cX12_take 32 = .ok (.baload, 1) := by decide +kernel
theorem dX12_take_33 : decode cX12_take 33 = .ok (.bastore, 1) := by decide +kernel
theorem dX12_take_34 : decode cX12_take 34 = .ok (.iinc 1 1, 3) := by decide +kernel
theorem dX12_take_37 : decode cX12_take 37 = .ok (.goto (-23), 3) := by decide +kernel
theorem dX12_take_40 : decode cX12_take 40 = .ok (.aload_n 0, 1) := by decide +kernel
theorem dX12_take_41 : decode cX12_take 41 = .ok (.aload_n 0, 1) := by decide +kernel
theorem dX12_take_42 : decode cX12_take 42 = .ok (.getfield 543, 3) := by decide +kernel
theorem dX12_take_45 : decode cX12_take 45 = .ok (.putfield 146, 3) := by decide +kernel
theorem dX12_take_48 : decode cX12_take 48 = .ok (.aload_n 0, 1) := by decide +kernel
theorem dX12_take_49 : decode cX12_take 49 = .ok (.getfield 543, 3) := by decide +kernel
theorem dX12_take_52 : decode cX12_take 52 = .ok (.ireturn, 1) := by decide +kernel
noncomputable def f_X12_take_b14 (k14 : Int32 → Mm → Option (Int32 × Mm)) (a1 : Int32) (T : Mm) : Option (Int32 × Mm) :=
  if (gI T 1242 133) ≤ a1 then (lb (uI T 1224 133 (gI T 1242 133)) fun T1 =>
  some ((gI T1 1242 133), T1))
  else (ix a1 60008 fun j2 =>
  ix a1 8000 fun j4 => lb (uA T 155 j4 (((gA T 161 j2)).toInt8.toInt32)) fun T6 =>
  k14 (a1 + 1) T6)
set_option maxRecDepth 100000 in
set_option maxHeartbeats 4000000 in
theorem s_X12_take_b14 {x : JX} {ad : Nat → Nat} {U : Mm} {S0 : Hp} {q : Int32 × Mm}  {k14 : Int32 → Mm → Option (Int32 × Mm)} (hn9 : x_n x = 2) (C : CB x RX12 cX12_take) (M : CMr x 1 (some .int) S0 ad false U eI q) (hk14 : ∀ (a1 : Int32) (T : Mm), k14 a1 T = some q → Jr x ad false U T [(0, .ref (ad 133)), (1, .int a1)] 14 []) (a1 : Int32) (T : Mm) (h : f_X12_take_b14 k14 a1 T = some q) : Jr x ad false U T [(0, .ref (ad 133)), (1, .int a1)] 14 [] := by
  unfold f_X12_take_b14 at h
  refine r_iload_n C dX12_take_14 rfl 1 rfl ?_
  refine r_aload_n C dX12_take_15 rfl 0 rfl ?_
  refine r_geti (f := 1242) C flX12_543 dX12_take_16 kq_133 (by decide) (by decide) rfl ?_
  refine r_ic_ge (tgt := 40) C dX12_take_19 (by decide) h (fun h => ?_) (fun h => ?_)
  · refine r_aload_n C dX12_take_40 rfl 0 rfl ?_
    refine r_aload_n C dX12_take_41 rfl 0 rfl ?_
    refine r_geti (f := 1242) C flX12_543 dX12_take_42 kq_133 (by decide) (by decide) rfl ?_
    refine r_puti (f := 1224) C flX12_146 (by decide) rfl rfl dX12_take_45 kq_133 rfl h (fun T1 h => ?_)
    refine r_aload_n C dX12_take_48 rfl 0 rfl ?_
    show Jr _ _ _ _ _ _ 49 _
    refine r_geti (f := 1242) C flX12_543 dX12_take_49 kq_133 (by decide) (by decide) rfl ?_
    exact r_iret C M dX12_take_52 h
  · refine r_aload_n C dX12_take_22 rfl 0 rfl ?_
    refine r_getp (f := 1223) (j := 155) C flX12_75 dX12_take_23 kq_133 (by decide) rfl (fun W => pt_1223 kq_133 W) ?_
    refine r_iload_n C dX12_take_26 rfl 1 rfl ?_
    refine r_aload_n C dX12_take_27 rfl 0 rfl ?_
    refine r_getp (f := 1241) (j := 161) C flX12_96 dX12_take_28 kq_133 (by decide) rfl (fun W => pt_1241 kq_133 W) ?_
    show Jr _ _ _ _ _ _ 31 _
    refine r_iload_n C dX12_take_31 rfl 1 rfl ?_
    refine r_bald (n := 60008) C dX12_take_32 kq_161 lq_161 h (fun j2 hj3 h => ?_)
    refine r_bast (n := 8000) C dX12_take_33 kq_155 lq_155 h (fun j4 T6 hj5 h => ?_)
    refine r_iinc (q := 1) (v := (a1 + 1)) (lv' := [(1, .int (a1 + 1)), (0, .ref (ad 133))]) C dX12_take_34 rfl (by rw [show Int32.ofInt (1) = 1 by decide]) (by rw [hn9]; decide) rfl ?_
    refine r_goto (tgt := 14) C dX12_take_37 (by decide) ?_
    refine Jr.sub [1, 0] (lv' := [(0, .ref (ad 133)), (1, .int (a1 + 1))]) rfl ?_
    exact hk14 (a1 + 1) T6 h
noncomputable def f_X12_take_l14 (n : Nat) : Int32 → Mm → Option (Int32 × Mm) := Nat.rec (fun _ _ => none) (fun _ ih => f_X12_take_b14 ih) n
theorem s_X12_take_l14 {x : JX} {ad : Nat → Nat} {U : Mm} {S0 : Hp} {q : Int32 × Mm}  (hn9 : x_n x = 2) (C : CB x RX12 cX12_take) (M : CMr x 1 (some .int) S0 ad false U eI q) : ∀ (n : Nat), ∀ (a1 : Int32) (T : Mm), f_X12_take_l14  n a1 T = some q → Jr x ad false U T [(0, .ref (ad 133)), (1, .int a1)] 14 [] := by
  intro n
  induction n with
  | zero => intro a1 T  h; exact absurd h (by intro h; cases h)
  | succ n ih => exact fun a1 T  h => s_X12_take_b14 hn9 C M (ih) a1 T  h
noncomputable def f_X12_take (T : Mm) : Option (Int32 × Mm) :=
  if (gI T 1242 133) ≤ 8000 then (f_X12_take_l14 FU 0 T)
  else (some ((-1), T))
set_option maxRecDepth 100000 in
set_option maxHeartbeats 4000000 in
theorem s_X12_take {ad : Nat → Nat} {U T : Mm} {q : Int32 × Mm}  (h : f_X12_take  T = some q) : Cr 1 yX12_take cX12_take 2 (some .int) [.ref (ad 133)] ad false U T eI q := by
  refine cr_of (by decide) (Nat.le_of_ble_eq_true rfl) fun x S0 hn9 C M => ?_
  have C : CB x RX12 cX12_take := C
  refine Jr.eq (lv' := [(0, .ref (ad 133))]) (st' := []) rfl rfl ?_
  unfold f_X12_take at h
  refine r_aload_n C dX12_take_0 rfl 0 rfl ?_
  refine r_geti (f := 1242) C flX12_543 dX12_take_1 kq_133 (by decide) (by decide) rfl ?_
  refine r_sipush (v := 8000) C dX12_take_4 (by decide) ?_
  refine r_ic_le (tgt := 12) C dX12_take_7 (by decide) h (fun h => ?_) (fun h => ?_)
  · refine r_iconst (v := 0) C dX12_take_12 (by decide) ?_
    refine r_istore_n (lv' := [(1, .int 0), (0, .ref (ad 133))]) C dX12_take_13 rfl (by rw [hn9]; decide) rfl ?_
    refine Jr.sub [1, 0] (lv' := [(0, .ref (ad 133)), (1, .int 0)]) rfl ?_
    exact s_X12_take_l14 hn9 C M  FU 0 T h
  · refine r_iconst (v := (-1)) C dX12_take_10 (by decide) ?_
    exact r_iret C M dX12_take_11 h
theorem dX12_pages_0 : decode cX12_pages 0 = .ok (.aload_n 0, 1) := by decide +kernel
theorem dX12_pages_1 : decode cX12_pages 1 = .ok (.getfield 198, 3) := by decide +kernel
theorem dX12_pages_4 : decode cX12_pages 4 = .ok (.ireturn, 1) := by decide +kernel
noncomputable def f_X12_pages (T : Mm) : Option (Int32 × Mm) :=
  some ((gI T 1240 133), T)
set_option maxRecDepth 100000 in
set_option maxHeartbeats 4000000 in
theorem s_X12_pages {ad : Nat → Nat} {U T : Mm} {q : Int32 × Mm}  (h : f_X12_pages  T = some q) : Cr 1 yX12_pages cX12_pages 1 (some .int) [.ref (ad 133)] ad false U T eI q := by
  refine cr_of (by decide) (Nat.le_of_ble_eq_true rfl) fun x S0 hn9 C M => ?_
  have C : CB x RX12 cX12_pages := C
  refine Jr.eq (lv' := [(0, .ref (ad 133))]) (st' := []) rfl rfl ?_
  unfold f_X12_pages at h
  refine r_aload_n C dX12_pages_0 rfl 0 rfl ?_
  refine r_geti (f := 1240) C flX12_198 dX12_pages_1 kq_133 (by decide) (by decide) rfl ?_
  exact r_iret C M dX12_pages_4 h
theorem dX12_width_0 : decode cX12_width 0 = .ok (.iload_n 1, 1) := by decide +kernel
theorem dX12_width_1 : decode cX12_width 1 = .ok (.ifCond .lt 11, 3) := by decide +kernel
theorem dX12_width_4 : decode cX12_width 4 = .ok (.iload_n 1, 1) := by decide +kernel
theorem dX12_width_5 : decode cX12_width 5 = .ok (.aload_n 0, 1) := by decide +kernel
theorem dX12_width_6 : decode cX12_width 6 = .ok (.getfield 198, 3) := by decide +kernel
theorem dX12_width_9 : decode cX12_width 9 = .ok (.if_icmp .lt 7, 3) := by decide +kernel
theorem dX12_width_12 : decode cX12_width 12 = .ok (.iconst (-1), 1) := by decide +kernel
theorem dX12_width_13 : decode cX12_width 13 = .ok (.goto 9, 3) := by decide +kernel
theorem dX12_width_16 : decode cX12_width 16 = .ok (.aload_n 0, 1) := by decide +kernel
theorem dX12_width_17 : decode cX12_width 17 = .ok (.getfield 89, 3) := by decide +kernel
theorem dX12_width_20 : decode cX12_width 20 = .ok (.iload_n 1, 1) := by decide +kernel
theorem dX12_width_21 : decode cX12_width 21 = .ok (.iaload, 1) := by decide +kernel
theorem dX12_width_22 : decode cX12_width 22 = .ok (.ireturn, 1) := by decide +kernel
noncomputable def f_X12_width (p1 : Int32) (T : Mm) : Option (Int32 × Mm) :=
  if p1 < 0 then (some ((-1), T))
  else (if p1 < (gI T 1240 133) then (ix p1 12 fun j1 =>
  some ((gA T 159 j1), T))
  else (some ((-1), T)))
set_option maxRecDepth 100000 in
set_option maxHeartbeats 4000000 in
theorem s_X12_width {ad : Nat → Nat} {U T : Mm} {q : Int32 × Mm}  (p1 : Int32) (h : f_X12_width p1 T = some q) : Cr 1 yX12_width cX12_width 2 (some .int) [.ref (ad 133), .int p1] ad false U T eI q := by
  refine cr_of (by decide) (Nat.le_of_ble_eq_true rfl) fun x S0 hn9 C M => ?_
  have C : CB x RX12 cX12_width := C
  refine Jr.eq (lv' := [(0, .ref (ad 133)), (1, .int p1)]) (st' := []) rfl rfl ?_
  unfold f_X12_width at h
  refine r_iload_n C dX12_width_0 rfl 1 rfl ?_
  refine r_if_lt (tgt := 12) C dX12_width_1 (by decide) h (fun h => ?_) (fun h => ?_)
  · refine r_iconst (v := (-1)) C dX12_width_12 (by decide) ?_
    refine r_goto (tgt := 22) C dX12_width_13 (by decide) ?_
    exact r_iret C M dX12_width_22 h
  · refine r_iload_n C dX12_width_4 rfl 1 rfl ?_
    refine r_aload_n C dX12_width_5 rfl 0 rfl ?_
    refine r_geti (f := 1240) C flX12_198 dX12_width_6 kq_133 (by decide) (by decide) rfl ?_
    refine r_ic_lt (tgt := 16) C dX12_width_9 (by decide) h (fun h => ?_) (fun h => ?_)
    · refine r_aload_n C dX12_width_16 rfl 0 rfl ?_
      refine r_getp (f := 1238) (j := 159) C flX12_89 dX12_width_17 kq_133 (by decide) rfl (fun W => pt_1238 kq_133 W) ?_
      refine r_iload_n C dX12_width_20 rfl 1 rfl ?_
      refine r_iald (n := 12) C dX12_width_21 kq_159 lq_159 h (fun j1 hj2 h => ?_)
      exact r_iret C M dX12_width_22 h
    · refine r_iconst (v := (-1)) C dX12_width_12 (by decide) ?_
      refine r_goto (tgt := 22) C dX12_width_13 (by decide) ?_
      exact r_iret C M dX12_width_22 h
theorem dX12_height_0 : decode cX12_height 0 = .ok (.iload_n 1, 1) := by decide +kernel
theorem dX12_height_1 : decode cX12_height 1 = .ok (.ifCond .lt 11, 3) := by decide +kernel
theorem dX12_height_4 : decode cX12_height 4 = .ok (.iload_n 1, 1) := by decide +kernel
theorem dX12_height_5 : decode cX12_height 5 = .ok (.aload_n 0, 1) := by decide +kernel
theorem dX12_height_6 : decode cX12_height 6 = .ok (.getfield 198, 3) := by decide +kernel
theorem dX12_height_9 : decode cX12_height 9 = .ok (.if_icmp .lt 7, 3) := by decide +kernel
theorem dX12_height_12 : decode cX12_height 12 = .ok (.iconst (-1), 1) := by decide +kernel
theorem dX12_height_13 : decode cX12_height 13 = .ok (.goto 9, 3) := by decide +kernel
theorem dX12_height_16 : decode cX12_height 16 = .ok (.aload_n 0, 1) := by decide +kernel
theorem dX12_height_17 : decode cX12_height 17 = .ok (.getfield 92, 3) := by decide +kernel
theorem dX12_height_20 : decode cX12_height 20 = .ok (.iload_n 1, 1) := by decide +kernel
theorem dX12_height_21 : decode cX12_height 21 = .ok (.iaload, 1) := by decide +kernel
theorem dX12_height_22 : decode cX12_height 22 = .ok (.ireturn, 1) := by decide +kernel
noncomputable def f_X12_height (p1 : Int32) (T : Mm) : Option (Int32 × Mm) :=
  if p1 < 0 then (some ((-1), T))
  else (if p1 < (gI T 1240 133) then (ix p1 12 fun j1 =>
  some ((gA T 160 j1), T))
  else (some ((-1), T)))
set_option maxRecDepth 100000 in
set_option maxHeartbeats 4000000 in
theorem s_X12_height {ad : Nat → Nat} {U T : Mm} {q : Int32 × Mm}  (p1 : Int32) (h : f_X12_height p1 T = some q) : Cr 1 yX12_height cX12_height 2 (some .int) [.ref (ad 133), .int p1] ad false U T eI q := by
  refine cr_of (by decide) (Nat.le_of_ble_eq_true rfl) fun x S0 hn9 C M => ?_
  have C : CB x RX12 cX12_height := C
  refine Jr.eq (lv' := [(0, .ref (ad 133)), (1, .int p1)]) (st' := []) rfl rfl ?_
  unfold f_X12_height at h
  refine r_iload_n C dX12_height_0 rfl 1 rfl ?_
  refine r_if_lt (tgt := 12) C dX12_height_1 (by decide) h (fun h => ?_) (fun h => ?_)
  · refine r_iconst (v := (-1)) C dX12_height_12 (by decide) ?_
    refine r_goto (tgt := 22) C dX12_height_13 (by decide) ?_
    exact r_iret C M dX12_height_22 h
  · refine r_iload_n C dX12_height_4 rfl 1 rfl ?_
    refine r_aload_n C dX12_height_5 rfl 0 rfl ?_
    refine r_geti (f := 1240) C flX12_198 dX12_height_6 kq_133 (by decide) (by decide) rfl ?_
    refine r_ic_lt (tgt := 16) C dX12_height_9 (by decide) h (fun h => ?_) (fun h => ?_)
    · refine r_aload_n C dX12_height_16 rfl 0 rfl ?_
      refine r_getp (f := 1239) (j := 160) C flX12_92 dX12_height_17 kq_133 (by decide) rfl (fun W => pt_1239 kq_133 W) ?_
      refine r_iload_n C dX12_height_20 rfl 1 rfl ?_
      refine r_iald (n := 12) C dX12_height_21 kq_160 lq_160 h (fun j1 hj2 h => ?_)
      exact r_iret C M dX12_height_22 h
    · refine r_iconst (v := (-1)) C dX12_height_12 (by decide) ?_
      refine r_goto (tgt := 22) C dX12_height_13 (by decide) ?_
      exact r_iret C M dX12_height_22 h
theorem dX12_dot_0 : decode cX12_dot 0 = .ok (.iload_n 1, 1) := by decide +kernel
theorem dX12_dot_1 : decode cX12_dot 1 = .ok (.ifCond .lt 39, 3) := by decide +kernel
theorem dX12_dot_4 : decode cX12_dot 4 = .ok (.iload_n 1, 1) := by decide +kernel
theorem dX12_dot_5 : decode cX12_dot 5 = .ok (.aload_n 0, 1) := by decide +kernel
theorem dX12_dot_6 : decode cX12_dot 6 = .ok (.getfield 198, 3) := by decide +kernel
theorem dX12_dot_9 : decode cX12_dot 9 = .ok (.if_icmp .ge 31, 3) := by decide +kernel
theorem dX12_dot_12 : decode cX12_dot 12 = .ok (.iload_n 2, 1) := by decide +kernel
theorem dX12_dot_13 : decode cX12_dot 13 = .ok (.ifCond .lt 27, 3) := by decide +kernel
theorem dX12_dot_16 : decode cX12_dot 16 = .ok (.iload_n 3, 1) := by decide +kernel
theorem dX12_dot_17 : decode cX12_dot 17 = .ok (.ifCond .lt 23, 3) := by decide +kernel
theorem dX12_dot_20 : decode cX12_dot 20 = .ok (.iload_n 2, 1) := by decide +kernel
theorem dX12_dot_21 : decode cX12_dot 21 = .ok (.aload_n 0, 1) := by decide +kernel
theorem dX12_dot_22 : decode cX12_dot 22 = .ok (.getfield 89, 3) := by decide +kernel
theorem dX12_dot_25 : decode cX12_dot 25 = .ok (.iload_n 1, 1) := by decide +kernel
theorem dX12_dot_26 : decode cX12_dot 26 = .ok (.iaload, 1) := by decide +kernel
theorem dX12_dot_27 : decode cX12_dot 27 = .ok (.if_icmp .ge 13, 3) := by decide +kernel
theorem dX12_dot_30 : decode cX12_dot 30 = .ok (.iload_n 3, 1) := by decide +kernel
theorem dX12_dot_31 : decode cX12_dot 31 = .ok (.aload_n 0, 1) := by decide +kernel
theorem dX12_dot_32 : decode cX12_dot 32 = .ok (.getfield 92, 3) := by decide +kernel
theorem dX12_dot_35 : decode cX12_dot 35 = .ok (.iload_n 1, 1) := by decide +kernel
theorem dX12_dot_36 : decode cX12_dot 36 = .ok (.iaload, 1) := by decide +kernel
theorem dX12_dot_37 : decode cX12_dot 37 = .ok (.if_icmp .lt 5, 3) := by decide +kernel
theorem dX12_dot_40 : decode cX12_dot 40 = .ok (.iconst (-1), 1) := by decide +kernel
theorem dX12_dot_41 : decode cX12_dot 41 = .ok (.ireturn, 1) := by decide +kernel
theorem dX12_dot_42 : decode cX12_dot 42 = .ok (.aload_n 0, 1) := by decide +kernel
theorem dX12_dot_43 : decode cX12_dot 43 = .ok (.getfield 86, 3) := by decide +kernel
theorem dX12_dot_46 : decode cX12_dot 46 = .ok (.iload_n 1, 1) := by decide +kernel
theorem dX12_dot_47 : decode cX12_dot 47 = .ok (.ldc 81, 2) := by decide +kernel
theorem dX12_dot_49 : decode cX12_dot 49 = .ok (.imul, 1) := by decide +kernel
theorem dX12_dot_50 : decode cX12_dot 50 = .ok (.bipush 80, 2) := by decide +kernel
theorem dX12_dot_52 : decode cX12_dot 52 = .ok (.iload_n 3, 1) := by decide +kernel
theorem dX12_dot_53 : decode cX12_dot 53 = .ok (.imul, 1) := by decide +kernel
theorem dX12_dot_54 : decode cX12_dot 54 = .ok (.iadd, 1) := by decide +kernel
theorem dX12_dot_55 : decode cX12_dot 55 = .ok (.iload_n 2, 1) := by decide +kernel
theorem dX12_dot_56 : decode cX12_dot 56 = .ok (.bipush 8, 2) := by decide +kernel
theorem dX12_dot_58 : decode cX12_dot 58 = .ok (.idiv, 1) := by decide +kernel
theorem dX12_dot_59 : decode cX12_dot 59 = .ok (.iadd, 1) := by decide +kernel
theorem dX12_dot_60 : decode cX12_dot 60 = .ok (.baload, 1) := by decide +kernel
theorem dX12_dot_61 : decode cX12_dot 61 = .ok (.bipush 7, 2) := by decide +kernel
theorem dX12_dot_63 : decode cX12_dot 63 = .ok (.iload_n 2, 1) := by decide +kernel
theorem dX12_dot_64 : decode cX12_dot 64 = .ok (.bipush 8, 2) := by decide +kernel
theorem dX12_dot_66 : decode cX12_dot 66 = .ok (.irem, 1) := by decide +kernel
theorem dX12_dot_67 : decode cX12_dot 67 = .ok (.isub, 1) := by decide +kernel
theorem dX12_dot_68 : decode cX12_dot 68 = .ok (.ishr, 1) := by decide +kernel
theorem dX12_dot_69 : decode cX12_dot 69 = .ok (.iconst 1, 1) := by decide +kernel
theorem dX12_dot_70 : decode cX12_dot 70 = .ok (.iand, 1) := by decide +kernel
theorem dX12_dot_71 : decode cX12_dot 71 = .ok (.ireturn, 1) := by decide +kernel
noncomputable def f_X12_dot (p1 : Int32) (p2 : Int32) (p3 : Int32) (T : Mm) : Option (Int32 × Mm) :=
  if p1 < 0 then (some ((-1), T))
  else (if (gI T 1240 133) ≤ p1 then (some ((-1), T))
  else (if p2 < 0 then (some ((-1), T))
  else (if p3 < 0 then (some ((-1), T))
  else (ix p1 12 fun j1 =>
  if (gA T 159 j1) ≤ p2 then (some ((-1), T))
  else (ix p1 12 fun j3 =>
  if p3 < (gA T 160 j3) then (ix (((p1 * 64000) + ((80 : Int32) * p3)) + (p2 / 8)) 768000 fun j5 =>
  some ((((gA T 158 j5) >>> (((7 : Int32) - (p2 - p2 / 8 * 8)) &&& 31)) &&& 1), T))
  else (some ((-1), T)))))))
set_option maxRecDepth 100000 in
set_option maxHeartbeats 4000000 in
theorem s_X12_dot {ad : Nat → Nat} {U T : Mm} {q : Int32 × Mm}  (p1 : Int32) (p2 : Int32) (p3 : Int32) (h : f_X12_dot p1 p2 p3 T = some q) : Cr 1 yX12_dot cX12_dot 4 (some .int) [.ref (ad 133), .int p1, .int p2, .int p3] ad false U T eI q := by
  refine cr_of (by decide) (Nat.le_of_ble_eq_true rfl) fun x S0 hn9 C M => ?_
  have C : CB x RX12 cX12_dot := C
  refine Jr.eq (lv' := [(0, .ref (ad 133)), (1, .int p1), (2, .int p2), (3, .int p3)]) (st' := []) rfl rfl ?_
  unfold f_X12_dot at h
  refine r_iload_n C dX12_dot_0 rfl 1 rfl ?_
  refine r_if_lt (tgt := 40) C dX12_dot_1 (by decide) h (fun h => ?_) (fun h => ?_)
  · refine r_iconst (v := (-1)) C dX12_dot_40 (by decide) ?_
    exact r_iret C M dX12_dot_41 h
  · refine r_iload_n C dX12_dot_4 rfl 1 rfl ?_
    refine r_aload_n C dX12_dot_5 rfl 0 rfl ?_
    refine r_geti (f := 1240) C flX12_198 dX12_dot_6 kq_133 (by decide) (by decide) rfl ?_
    refine r_ic_ge (tgt := 40) C dX12_dot_9 (by decide) h (fun h => ?_) (fun h => ?_)
    · refine r_iconst (v := (-1)) C dX12_dot_40 (by decide) ?_
      exact r_iret C M dX12_dot_41 h
    · refine r_iload_n C dX12_dot_12 rfl 2 rfl ?_
      refine r_if_lt (tgt := 40) C dX12_dot_13 (by decide) h (fun h => ?_) (fun h => ?_)
      · refine r_iconst (v := (-1)) C dX12_dot_40 (by decide) ?_
        exact r_iret C M dX12_dot_41 h
      · refine r_iload_n C dX12_dot_16 rfl 3 rfl ?_
        refine r_if_lt (tgt := 40) C dX12_dot_17 (by decide) h (fun h => ?_) (fun h => ?_)
        · refine r_iconst (v := (-1)) C dX12_dot_40 (by decide) ?_
          exact r_iret C M dX12_dot_41 h
        · refine r_iload_n C dX12_dot_20 rfl 2 rfl ?_
          refine r_aload_n C dX12_dot_21 rfl 0 rfl ?_
          refine r_getp (f := 1238) (j := 159) C flX12_89 dX12_dot_22 kq_133 (by decide) rfl (fun W => pt_1238 kq_133 W) ?_
          refine r_iload_n C dX12_dot_25 rfl 1 rfl ?_
          refine r_iald (n := 12) C dX12_dot_26 kq_159 lq_159 h (fun j1 hj2 h => ?_)
          show Jr _ _ _ _ _ _ 27 _
          refine r_ic_ge (tgt := 40) C dX12_dot_27 (by decide) h (fun h => ?_) (fun h => ?_)
          · refine r_iconst (v := (-1)) C dX12_dot_40 (by decide) ?_
            exact r_iret C M dX12_dot_41 h
          · refine r_iload_n C dX12_dot_30 rfl 3 rfl ?_
            refine r_aload_n C dX12_dot_31 rfl 0 rfl ?_
            refine r_getp (f := 1239) (j := 160) C flX12_92 dX12_dot_32 kq_133 (by decide) rfl (fun W => pt_1239 kq_133 W) ?_
            refine r_iload_n C dX12_dot_35 rfl 1 rfl ?_
            refine r_iald (n := 12) C dX12_dot_36 kq_160 lq_160 h (fun j3 hj4 h => ?_)
            show Jr _ _ _ _ _ _ 37 _
            refine r_ic_lt (tgt := 42) C dX12_dot_37 (by decide) h (fun h => ?_) (fun h => ?_)
            · refine r_aload_n C dX12_dot_42 rfl 0 rfl ?_
              refine r_getp (f := 1237) (j := 158) C flX12_86 dX12_dot_43 kq_133 (by decide) rfl (fun W => pt_1237 kq_133 W) ?_
              refine r_iload_n C dX12_dot_46 rfl 1 rfl ?_
              refine r_ldc (v := 64000) C dX12_dot_47 kcX12_81 ?_
              refine r_imul C dX12_dot_49 rfl ?_
              show Jr _ _ _ _ _ _ 50 _
              refine r_bipush (v := 80) C dX12_dot_50 (by decide) ?_
              refine r_iload_n C dX12_dot_52 rfl 3 rfl ?_
              refine r_imul C dX12_dot_53 rfl ?_
              refine r_iadd C dX12_dot_54 rfl ?_
              refine r_iload_n C dX12_dot_55 rfl 2 rfl ?_
              refine r_bipush (v := 8) C dX12_dot_56 (by decide) ?_
              show Jr _ _ _ _ _ _ 58 _
              refine r_idiv C dX12_dot_58 (by decide) rfl ?_
              refine r_iadd C dX12_dot_59 rfl ?_
              refine r_bald (n := 768000) C dX12_dot_60 kq_158 lq_158 h (fun j5 hj6 h => ?_)
              refine r_bipush (v := 7) C dX12_dot_61 (by decide) ?_
              refine r_iload_n C dX12_dot_63 rfl 2 rfl ?_
              refine r_bipush (v := 8) C dX12_dot_64 (by decide) ?_
              show Jr _ _ _ _ _ _ 66 _
              refine r_irem C dX12_dot_66 (by decide) rfl ?_
              refine r_isub C dX12_dot_67 rfl ?_
              refine r_ishr C dX12_dot_68 rfl ?_
              refine r_iconst (v := 1) C dX12_dot_69 (by decide) ?_
              refine r_iand C dX12_dot_70 rfl ?_
              exact r_iret C M dX12_dot_71 h
            · refine r_iconst (v := (-1)) C dX12_dot_40 (by decide) ?_
              exact r_iret C M dX12_dot_41 h
theorem dX12_black_0 : decode cX12_black 0 = .ok (.iload_n 1, 1) := by decide +kernel
theorem dX12_black_1 : decode cX12_black 1 = .ok (.ifCond .lt 25, 3) := by decide +kernel
theorem dX12_black_4 : decode cX12_black 4 = .ok (.iload_n 1, 1) := by decide +kernel
theorem dX12_black_5 : decode cX12_black 5 = .ok (.aload_n 0, 1) := by decide +kernel
theorem dX12_black_6 : decode cX12_black 6 = .ok (.getfield 198, 3) := by decide +kernel
theorem dX12_black_9 : decode cX12_black 9 = .ok (.if_icmp .ge 17, 3) := by decide +kernel
theorem dX12_black_12 : decode cX12_black 12 = .ok (.iload_n 2, 1) := by decide +kernel
theorem dX12_black_13 : decode cX12_black 13 = .ok (.ifCond .lt 13, 3) := by decide +kernel
theorem dX12_black_16 : decode cX12_black 16 = .ok (.iload_n 2, 1) := by decide +kernel
theorem dX12_black_17 : decode cX12_black 17 = .ok (.aload_n 0, 1) := by decide +kernel
theorem dX12_black_18 : decode cX12_black 18 = .ok (.getfield 92, 3) := by decide +kernel
theorem dX12_black_21 : decode cX12_black 21 = .ok (.iload_n 1, 1) := by decide +kernel
theorem dX12_black_22 : decode cX12_black 22 = .ok (.iaload, 1) := by decide +kernel
theorem dX12_black_23 : decode cX12_black 23 = .ok (.if_icmp .lt 5, 3) := by decide +kernel
theorem dX12_black_26 : decode cX12_black 26 = .ok (.iconst (-1), 1) := by decide +kernel
theorem dX12_black_27 : decode cX12_black 27 = .ok (.ireturn, 1) := by decide +kernel
theorem dX12_black_28 : decode cX12_black 28 = .ok (.iconst 0, 1) := by decide +kernel
theorem dX12_black_29 : decode cX12_black 29 = .ok (.istore_n 3, 1) := by decide +kernel
theorem dX12_black_30 : decode cX12_black 30 = .ok (.iconst 0, 1) := by decide +kernel
theorem dX12_black_31 : decode cX12_black 31 = .ok (.istore 4, 2) := by decide +kernel
theorem dX12_black_33 : decode cX12_black 33 = .ok (.iload 4, 2) := by decide +kernel
theorem dX12_black_35 : decode cX12_black 35 = .ok (.aload_n 0, 1) := by decide +kernel
theorem dX12_black_36 : decode cX12_black 36 = .ok (.getfield 89, 3) := by decide +kernel
theorem dX12_black_39 : decode cX12_black 39 = .ok (.iload_n 1, 1) := by decide +kernel
theorem dX12_black_40 : decode cX12_black 40 = .ok (.iaload, 1) := by decide +kernel
theorem dX12_black_41 : decode cX12_black 41 = .ok (.if_icmp .ge 43, 3) := by decide +kernel
theorem dX12_black_44 : decode cX12_black 44 = .ok (.iload_n 3, 1) := by decide +kernel
theorem dX12_black_45 : decode cX12_black 45 = .ok (.aload_n 0, 1) := by decide +kernel
theorem dX12_black_46 : decode cX12_black 46 = .ok (.getfield 86, 3) := by decide +kernel
theorem dX12_black_49 : decode cX12_black 49 = .ok (.iload_n 1, 1) := by decide +kernel
theorem dX12_black_50 : decode cX12_black 50 = .ok (.ldc 81, 2) := by decide +kernel
theorem dX12_black_52 : decode cX12_black 52 = .ok (.imul, 1) := by decide +kernel
theorem dX12_black_53 : decode cX12_black 53 = .ok (.bipush 80, 2) := by decide +kernel
theorem dX12_black_55 : decode cX12_black 55 = .ok (.iload_n 2, 1) := by decide +kernel
theorem dX12_black_56 : decode cX12_black 56 = .ok (.imul, 1) := by decide +kernel
theorem dX12_black_57 : decode cX12_black 57 = .ok (.iadd, 1) := by decide +kernel
theorem dX12_black_58 : decode cX12_black 58 = .ok (.iload 4, 2) := by decide +kernel
theorem dX12_black_60 : decode cX12_black 60 = .ok (.bipush 8, 2) := by decide +kernel
theorem dX12_black_62 : decode cX12_black 62 = .ok (.idiv, 1) := by decide +kernel
theorem dX12_black_63 : decode cX12_black 63 = .ok (.iadd, 1) := by decide +kernel
theorem dX12_black_64 : decode cX12_black 64 = .ok (.baload, 1) := by decide +kernel
theorem dX12_black_65 : decode cX12_black 65 = .ok (.bipush 7, 2) := by decide +kernel
theorem dX12_black_67 : decode cX12_black 67 = .ok (.iload 4, 2) := by decide +kernel
theorem dX12_black_69 : decode cX12_black 69 = .ok (.bipush 8, 2) := by decide +kernel
theorem dX12_black_71 : decode cX12_black 71 = .ok (.irem, 1) := by decide +kernel
theorem dX12_black_72 : decode cX12_black 72 = .ok (.isub, 1) := by decide +kernel
theorem dX12_black_73 : decode cX12_black 73 = .ok (.ishr, 1) := by decide +kernel
theorem dX12_black_74 : decode cX12_black 74 = .ok (.iconst 1, 1) := by decide +kernel
theorem dX12_black_75 : decode cX12_black 75 = .ok (.iand, 1) := by decide +kernel
theorem dX12_black_76 : decode cX12_black 76 = .ok (.iadd, 1) := by decide +kernel
theorem dX12_black_77 : decode cX12_black 77 = .ok (.istore_n 3, 1) := by decide +kernel
theorem dX12_black_78 : decode cX12_black 78 = .ok (.iinc 4 1, 3) := by decide +kernel
theorem dX12_black_81 : decode cX12_black 81 = .ok (.goto (-48), 3) := by decide +kernel
theorem dX12_black_84 : decode cX12_black 84 = .ok (.iload_n 3, 1) := by decide +kernel
theorem dX12_black_85 : decode cX12_black 85 = .ok (.ireturn, 1) := by decide +kernel
noncomputable def f_X12_black_b33 (k33 : Int32 → Int32 → Int32 → Int32 → Mm → Option (Int32 × Mm)) (a1 : Int32) (a2 : Int32) (a3 : Int32) (a4 : Int32) (T : Mm) : Option (Int32 × Mm) :=
  ix a1 12 fun j1 =>
  if (gA T 159 j1) ≤ a4 then (some (a3, T))
  else (ix (((a1 * 64000) + ((80 : Int32) * a2)) + (a4 / 8)) 768000 fun j3 =>
  lb ((a3 + (((gA T 158 j3) >>> (((7 : Int32) - (a4 - a4 / 8 * 8)) &&& 31)) &&& 1))) fun v5 =>
  k33 a1 a2 v5 (a4 + 1) T)
set_option maxRecDepth 100000 in
set_option maxHeartbeats 4000000 in
theorem s_X12_black_b33 {x : JX} {ad : Nat → Nat} {U : Mm} {S0 : Hp} {q : Int32 × Mm}  {k33 : Int32 → Int32 → Int32 → Int32 → Mm → Option (Int32 × Mm)} (hn9 : x_n x = 5) (C : CB x RX12 cX12_black) (M : CMr x 1 (some .int) S0 ad false U eI q) (hk33 : ∀ (a1 : Int32) (a2 : Int32) (a3 : Int32) (a4 : Int32) (T : Mm), k33 a1 a2 a3 a4 T = some q → Jr x ad false U T [(0, .ref (ad 133)), (1, .int a1), (2, .int a2), (3, .int a3), (4, .int a4)] 33 []) (a1 : Int32) (a2 : Int32) (a3 : Int32) (a4 : Int32) (T : Mm) (h : f_X12_black_b33 k33 a1 a2 a3 a4 T = some q) : Jr x ad false U T [(0, .ref (ad 133)), (1, .int a1), (2, .int a2), (3, .int a3), (4, .int a4)] 33 [] := by
  unfold f_X12_black_b33 at h
  refine r_iload C dX12_black_33 4 rfl ?_
  refine r_aload_n C dX12_black_35 rfl 0 rfl ?_
  refine r_getp (f := 1238) (j := 159) C flX12_89 dX12_black_36 kq_133 (by decide) rfl (fun W => pt_1238 kq_133 W) ?_
  refine r_iload_n C dX12_black_39 rfl 1 rfl ?_
  refine r_iald (n := 12) C dX12_black_40 kq_159 lq_159 h (fun j1 hj2 h => ?_)
  show Jr _ _ _ _ _ _ 41 _
  refine r_ic_ge (tgt := 84) C dX12_black_41 (by decide) h (fun h => ?_) (fun h => ?_)
  · refine r_iload_n C dX12_black_84 rfl 3 rfl ?_
    exact r_iret C M dX12_black_85 h
  · refine r_iload_n C dX12_black_44 rfl 3 rfl ?_
    refine r_aload_n C dX12_black_45 rfl 0 rfl ?_
    refine r_getp (f := 1237) (j := 158) C flX12_86 dX12_black_46 kq_133 (by decide) rfl (fun W => pt_1237 kq_133 W) ?_
    refine r_iload_n C dX12_black_49 rfl 1 rfl ?_
    refine r_ldc (v := 64000) C dX12_black_50 kcX12_81 ?_
    show Jr _ _ _ _ _ _ 52 _
    refine r_imul C dX12_black_52 rfl ?_
    refine r_bipush (v := 80) C dX12_black_53 (by decide) ?_
    refine r_iload_n C dX12_black_55 rfl 2 rfl ?_
    refine r_imul C dX12_black_56 rfl ?_
    refine r_iadd C dX12_black_57 rfl ?_
    refine r_iload C dX12_black_58 4 rfl ?_
    show Jr _ _ _ _ _ _ 60 _
    refine r_bipush (v := 8) C dX12_black_60 (by decide) ?_
    refine r_idiv C dX12_black_62 (by decide) rfl ?_
    refine r_iadd C dX12_black_63 rfl ?_
    refine r_bald (n := 768000) C dX12_black_64 kq_158 lq_158 h (fun j3 hj4 h => ?_)
    refine r_bipush (v := 7) C dX12_black_65 (by decide) ?_
    refine r_iload C dX12_black_67 4 rfl ?_
    show Jr _ _ _ _ _ _ 69 _
    refine r_bipush (v := 8) C dX12_black_69 (by decide) ?_
    refine r_irem C dX12_black_71 (by decide) rfl ?_
    refine r_isub C dX12_black_72 rfl ?_
    refine r_ishr C dX12_black_73 rfl ?_
    refine r_iconst (v := 1) C dX12_black_74 (by decide) ?_
    refine r_iand C dX12_black_75 rfl ?_
    show Jr _ _ _ _ _ _ 76 _
    refine r_iadd C dX12_black_76 rfl ?_
    refine r_lbI h (fun v5 h => ?_)
    refine r_istore_n (lv' := [(3, .int v5), (0, .ref (ad 133)), (1, .int a1), (2, .int a2), (4, .int a4)]) C dX12_black_77 rfl (by rw [hn9]; decide) rfl ?_
    refine r_iinc (q := 4) (v := (a4 + 1)) (lv' := [(4, .int (a4 + 1)), (3, .int v5), (0, .ref (ad 133)), (1, .int a1), (2, .int a2)]) C dX12_black_78 rfl (by rw [show Int32.ofInt (1) = 1 by decide]) (by rw [hn9]; decide) rfl ?_
    refine r_goto (tgt := 33) C dX12_black_81 (by decide) ?_
    refine Jr.sub [2, 3, 4, 1, 0] (lv' := [(0, .ref (ad 133)), (1, .int a1), (2, .int a2), (3, .int v5), (4, .int (a4 + 1))]) rfl ?_
    exact hk33 a1 a2 v5 (a4 + 1) T h
noncomputable def f_X12_black_l33 (n : Nat) : Int32 → Int32 → Int32 → Int32 → Mm → Option (Int32 × Mm) := Nat.rec (fun _ _ _ _ _ => none) (fun _ ih => f_X12_black_b33 ih) n
theorem s_X12_black_l33 {x : JX} {ad : Nat → Nat} {U : Mm} {S0 : Hp} {q : Int32 × Mm}  (hn9 : x_n x = 5) (C : CB x RX12 cX12_black) (M : CMr x 1 (some .int) S0 ad false U eI q) : ∀ (n : Nat), ∀ (a1 : Int32) (a2 : Int32) (a3 : Int32) (a4 : Int32) (T : Mm), f_X12_black_l33  n a1 a2 a3 a4 T = some q → Jr x ad false U T [(0, .ref (ad 133)), (1, .int a1), (2, .int a2), (3, .int a3), (4, .int a4)] 33 [] := by
  intro n
  induction n with
  | zero => intro a1 a2 a3 a4 T  h; exact absurd h (by intro h; cases h)
  | succ n ih => exact fun a1 a2 a3 a4 T  h => s_X12_black_b33 hn9 C M (ih) a1 a2 a3 a4 T  h
noncomputable def f_X12_black (p1 : Int32) (p2 : Int32) (T : Mm) : Option (Int32 × Mm) :=
  if p1 < 0 then (some ((-1), T))
  else (if (gI T 1240 133) ≤ p1 then (some ((-1), T))
  else (if p2 < 0 then (some ((-1), T))
  else (ix p1 12 fun j1 =>
  if p2 < (gA T 160 j1) then (f_X12_black_l33 FU p1 p2 0 0 T)
  else (some ((-1), T)))))
set_option maxRecDepth 100000 in
set_option maxHeartbeats 4000000 in
theorem s_X12_black {ad : Nat → Nat} {U T : Mm} {q : Int32 × Mm}  (p1 : Int32) (p2 : Int32) (h : f_X12_black p1 p2 T = some q) : Cr 1 yX12_black cX12_black 5 (some .int) [.ref (ad 133), .int p1, .int p2] ad false U T eI q := by
  refine cr_of (by decide) (Nat.le_of_ble_eq_true rfl) fun x S0 hn9 C M => ?_
  have C : CB x RX12 cX12_black := C
  refine Jr.eq (lv' := [(0, .ref (ad 133)), (1, .int p1), (2, .int p2)]) (st' := []) rfl rfl ?_
  unfold f_X12_black at h
  refine r_iload_n C dX12_black_0 rfl 1 rfl ?_
  refine r_if_lt (tgt := 26) C dX12_black_1 (by decide) h (fun h => ?_) (fun h => ?_)
  · refine r_iconst (v := (-1)) C dX12_black_26 (by decide) ?_
    exact r_iret C M dX12_black_27 h
  · refine r_iload_n C dX12_black_4 rfl 1 rfl ?_
    refine r_aload_n C dX12_black_5 rfl 0 rfl ?_
    refine r_geti (f := 1240) C flX12_198 dX12_black_6 kq_133 (by decide) (by decide) rfl ?_
    refine r_ic_ge (tgt := 26) C dX12_black_9 (by decide) h (fun h => ?_) (fun h => ?_)
    · refine r_iconst (v := (-1)) C dX12_black_26 (by decide) ?_
      exact r_iret C M dX12_black_27 h
    · refine r_iload_n C dX12_black_12 rfl 2 rfl ?_
      refine r_if_lt (tgt := 26) C dX12_black_13 (by decide) h (fun h => ?_) (fun h => ?_)
      · refine r_iconst (v := (-1)) C dX12_black_26 (by decide) ?_
        exact r_iret C M dX12_black_27 h
      · refine r_iload_n C dX12_black_16 rfl 2 rfl ?_
        refine r_aload_n C dX12_black_17 rfl 0 rfl ?_
        refine r_getp (f := 1239) (j := 160) C flX12_92 dX12_black_18 kq_133 (by decide) rfl (fun W => pt_1239 kq_133 W) ?_
        refine r_iload_n C dX12_black_21 rfl 1 rfl ?_
        refine r_iald (n := 12) C dX12_black_22 kq_160 lq_160 h (fun j1 hj2 h => ?_)
        show Jr _ _ _ _ _ _ 23 _
        refine r_ic_lt (tgt := 28) C dX12_black_23 (by decide) h (fun h => ?_) (fun h => ?_)
        · refine r_iconst (v := 0) C dX12_black_28 (by decide) ?_
          refine r_istore_n (lv' := [(3, .int 0), (0, .ref (ad 133)), (1, .int p1), (2, .int p2)]) C dX12_black_29 rfl (by rw [hn9]; decide) rfl ?_
          refine r_iconst (v := 0) C dX12_black_30 (by decide) ?_
          refine r_istore (lv' := [(4, .int 0), (3, .int 0), (0, .ref (ad 133)), (1, .int p1), (2, .int p2)]) C dX12_black_31 (by rw [hn9]; decide) rfl ?_
          refine Jr.sub [2, 3, 4, 1, 0] (lv' := [(0, .ref (ad 133)), (1, .int p1), (2, .int p2), (3, .int 0), (4, .int 0)]) rfl ?_
          exact s_X12_black_l33 hn9 C M  FU p1 p2 0 0 T h
        · refine r_iconst (v := (-1)) C dX12_black_26 (by decide) ?_
          exact r_iret C M dX12_black_27 h
theorem dX12_state_0 : decode cX12_state 0 = .ok (.aload_n 0, 1) := by decide +kernel
theorem dX12_state_1 : decode cX12_state 1 = .ok (.getfield 661, 3) := by decide +kernel
theorem dX12_state_4 : decode cX12_state 4 = .ok (.ifCond .eq 13, 3) := by decide +kernel
theorem dX12_state_7 : decode cX12_state 7 = .ok (.iload_n 1, 1) := by decide +kernel
theorem dX12_state_8 : decode cX12_state 8 = .ok (.ifCond .lt 9, 3) := by decide +kernel
theorem dX12_state_11 : decode cX12_state 11 = .ok (.iload_n 1, 1) := by decide +kernel
theorem dX12_state_12 : decode cX12_state 12 = .ok (.bipush 11, 2) := by decide +kernel
theorem dX12_state_14 : decode cX12_state 14 = .ok (.if_icmp .le 7, 3) := by decide +kernel
theorem dX12_state_17 : decode cX12_state 17 = .ok (.iconst (-1), 1) := by decide +kernel
theorem dX12_state_18 : decode cX12_state 18 = .ok (.goto 9, 3) := by decide +kernel
theorem dX12_state_21 : decode cX12_state 21 = .ok (.aload_n 0, 1) := by decide +kernel
theorem dX12_state_22 : decode cX12_state 22 = .ok (.getfield 99, 3) := by decide +kernel
theorem dX12_state_25 : decode cX12_state 25 = .ok (.iload_n 1, 1) := by decide +kernel
theorem dX12_state_26 : decode cX12_state 26 = .ok (.iaload, 1) := by decide +kernel
theorem dX12_state_27 : decode cX12_state 27 = .ok (.ireturn, 1) := by decide +kernel
noncomputable def f_X12_state (p1 : Int32) (T : Mm) : Option (Int32 × Mm) :=
  if (gI T 1247 133) = 0 then (some ((-1), T))
  else (if p1 < 0 then (some ((-1), T))
  else (if p1 ≤ 11 then (ix p1 12 fun j1 =>
  some ((gA T 162 j1), T))
  else (some ((-1), T))))
set_option maxRecDepth 100000 in
set_option maxHeartbeats 4000000 in
theorem s_X12_state {ad : Nat → Nat} {U T : Mm} {q : Int32 × Mm}  (p1 : Int32) (h : f_X12_state p1 T = some q) : Cr 1 yX12_state cX12_state 2 (some .int) [.ref (ad 133), .int p1] ad false U T eI q := by
  refine cr_of (by decide) (Nat.le_of_ble_eq_true rfl) fun x S0 hn9 C M => ?_
  have C : CB x RX12 cX12_state := C
  refine Jr.eq (lv' := [(0, .ref (ad 133)), (1, .int p1)]) (st' := []) rfl rfl ?_
  unfold f_X12_state at h
  refine r_aload_n C dX12_state_0 rfl 0 rfl ?_
  refine r_geti (f := 1247) C flX12_661 dX12_state_1 kq_133 (by decide) (by decide) rfl ?_
  refine r_if_eq (tgt := 17) C dX12_state_4 (by decide) h (fun h => ?_) (fun h => ?_)
  · refine r_iconst (v := (-1)) C dX12_state_17 (by decide) ?_
    refine r_goto (tgt := 27) C dX12_state_18 (by decide) ?_
    exact r_iret C M dX12_state_27 h
  · refine r_iload_n C dX12_state_7 rfl 1 rfl ?_
    refine r_if_lt (tgt := 17) C dX12_state_8 (by decide) h (fun h => ?_) (fun h => ?_)
    · refine r_iconst (v := (-1)) C dX12_state_17 (by decide) ?_
      refine r_goto (tgt := 27) C dX12_state_18 (by decide) ?_
      exact r_iret C M dX12_state_27 h
    · refine r_iload_n C dX12_state_11 rfl 1 rfl ?_
      refine r_bipush (v := 11) C dX12_state_12 (by decide) ?_
      refine r_ic_le (tgt := 21) C dX12_state_14 (by decide) h (fun h => ?_) (fun h => ?_)
      · refine r_aload_n C dX12_state_21 rfl 0 rfl ?_
        refine r_getp (f := 1246) (j := 162) C flX12_99 dX12_state_22 kq_133 (by decide) rfl (fun W => pt_1246 kq_133 W) ?_
        refine r_iload_n C dX12_state_25 rfl 1 rfl ?_
        refine r_iald (n := 12) C dX12_state_26 kq_162 lq_162 h (fun j1 hj2 h => ?_)
        exact r_iret C M dX12_state_27 h
      · refine r_iconst (v := (-1)) C dX12_state_17 (by decide) ?_
        refine r_goto (tgt := 27) C dX12_state_18 (by decide) ?_
        exact r_iret C M dX12_state_27 h
theorem dX12_held_0 : decode cX12_held 0 = .ok (.iconst 0, 1) := by decide +kernel
theorem dX12_held_1 : decode cX12_held 1 = .ok (.istore_n 2, 1) := by decide +kernel
theorem dX12_held_2 : decode cX12_held 2 = .ok (.iconst 0, 1) := by decide +kernel
theorem dX12_held_3 : decode cX12_held 3 = .ok (.istore_n 3, 1) := by decide +kernel
theorem dX12_held_4 : decode cX12_held 4 = .ok (.iload_n 3, 1) := by decide +kernel
theorem dX12_held_5 : decode cX12_held 5 = .ok (.bipush 16, 2) := by decide +kernel
theorem dX12_held_7 : decode cX12_held 7 = .ok (.if_icmp .ge 110, 3) := by decide +kernel
theorem dX12_held_10 : decode cX12_held 10 = .ok (.iload_n 1, 1) := by decide +kernel
theorem dX12_held_11 : decode cX12_held 11 = .ok (.ifCond .ne 23, 3) := by decide +kernel
theorem dX12_held_14 : decode cX12_held 14 = .ok (.iload_n 2, 1) := by decide +kernel
theorem dX12_held_15 : decode cX12_held 15 = .ok (.aload_n 0, 1) := by decide +kernel
theorem dX12_held_16 : decode cX12_held 16 = .ok (.getfield 16, 3) := by decide +kernel
theorem dX12_held_19 : decode cX12_held 19 = .ok (.iload_n 3, 1) := by decide +kernel
theorem dX12_held_20 : decode cX12_held 20 = .ok (.baload, 1) := by decide +kernel
theorem dX12_held_21 : decode cX12_held 21 = .ok (.ifCond .eq 7, 3) := by decide +kernel
theorem dX12_held_24 : decode cX12_held 24 = .ok (.iconst 1, 1) := by decide +kernel
theorem dX12_held_25 : decode cX12_held 25 = .ok (.goto 4, 3) := by decide +kernel
theorem dX12_held_28 : decode cX12_held 28 = .ok (.iconst 0, 1) := by decide +kernel
theorem dX12_held_29 : decode cX12_held 29 = .ok (.iadd, 1) := by decide +kernel
theorem dX12_held_30 : decode cX12_held 30 = .ok (.istore_n 2, 1) := by decide +kernel
theorem dX12_held_31 : decode cX12_held 31 = .ok (.goto 80, 3) := by decide +kernel
theorem dX12_held_34 : decode cX12_held 34 = .ok (.iload_n 1, 1) := by decide +kernel
theorem dX12_held_35 : decode cX12_held 35 = .ok (.iconst 2, 1) := by decide +kernel
theorem dX12_held_36 : decode cX12_held 36 = .ok (.if_icmp .ne 23, 3) := by decide +kernel
theorem dX12_held_39 : decode cX12_held 39 = .ok (.iload_n 2, 1) := by decide +kernel
theorem dX12_held_40 : decode cX12_held 40 = .ok (.aload_n 0, 1) := by decide +kernel
theorem dX12_held_41 : decode cX12_held 41 = .ok (.getfield 38, 3) := by decide +kernel
theorem dX12_held_44 : decode cX12_held 44 = .ok (.iload_n 3, 1) := by decide +kernel
theorem dX12_held_45 : decode cX12_held 45 = .ok (.baload, 1) := by decide +kernel
theorem dX12_held_46 : decode cX12_held 46 = .ok (.ifCond .eq 7, 3) := by decide +kernel
theorem dX12_held_49 : decode cX12_held 49 = .ok (.iconst 1, 1) := by decide +kernel
theorem dX12_held_50 : decode cX12_held 50 = .ok (.goto 4, 3) := by decide +kernel
theorem dX12_held_53 : decode cX12_held 53 = .ok (.iconst 0, 1) := by decide +kernel
theorem dX12_held_54 : decode cX12_held 54 = .ok (.iadd, 1) := by decide +kernel
theorem dX12_held_55 : decode cX12_held 55 = .ok (.istore_n 2, 1) := by decide +kernel
theorem dX12_held_56 : decode cX12_held 56 = .ok (.goto 55, 3) := by decide +kernel
theorem dX12_held_59 : decode cX12_held 59 = .ok (.iload_n 1, 1) := by decide +kernel
theorem dX12_held_60 : decode cX12_held 60 = .ok (.iconst 3, 1) := by decide +kernel
theorem dX12_held_61 : decode cX12_held 61 = .ok (.if_icmp .ne 23, 3) := by decide +kernel
theorem dX12_held_64 : decode cX12_held 64 = .ok (.iload_n 2, 1) := by decide +kernel
theorem dX12_held_65 : decode cX12_held 65 = .ok (.aload_n 0, 1) := by decide +kernel
theorem dX12_held_66 : decode cX12_held 66 = .ok (.getfield 53, 3) := by decide +kernel
theorem dX12_held_69 : decode cX12_held 69 = .ok (.iload_n 3, 1) := by decide +kernel
theorem dX12_held_70 : decode cX12_held 70 = .ok (.baload, 1) := by decide +kernel
theorem dX12_held_71 : decode cX12_held 71 = .ok (.ifCond .eq 7, 3) := by decide +kernel
theorem dX12_held_74 : decode cX12_held 74 = .ok (.iconst 1, 1) := by decide +kernel
theorem dX12_held_75 : decode cX12_held 75 = .ok (.goto 4, 3) := by decide +kernel
theorem dX12_held_78 : decode cX12_held 78 = .ok (.iconst 0, 1) := by decide +kernel
theorem dX12_held_79 : decode cX12_held 79 = .ok (.iadd, 1) := by decide +kernel
theorem dX12_held_80 : decode cX12_held 80 = .ok (.istore_n 2, 1) := by decide +kernel
theorem dX12_held_81 : decode cX12_held 81 = .ok (.goto 30, 3) := by decide +kernel
theorem dX12_held_84 : decode cX12_held 84 = .ok (.iload_n 1, 1) := by decide +kernel
theorem dX12_held_85 : decode cX12_held 85 = .ok (.iconst 4, 1) := by decide +kernel
theorem dX12_held_86 : decode cX12_held 86 = .ok (.if_icmp .ne 25, 3) := by decide +kernel
theorem dX12_held_89 : decode cX12_held 89 = .ok (.iload_n 2, 1) := by decide +kernel
theorem dX12_held_90 : decode cX12_held 90 = .ok (.aload_n 0, 1) := by decide +kernel
theorem dX12_held_91 : decode cX12_held 91 = .ok (.getfield 53, 3) := by decide +kernel
theorem dX12_held_94 : decode cX12_held 94 = .ok (.iload_n 3, 1) := by decide +kernel
theorem dX12_held_95 : decode cX12_held 95 = .ok (.baload, 1) := by decide +kernel
theorem dX12_held_96 : decode cX12_held 96 = .ok (.ifCond .eq 12, 3) := by decide +kernel
theorem dX12_held_99 : decode cX12_held 99 = .ok (.aload_n 0, 1) := by decide +kernel
theorem dX12_held_100 : decode cX12_held 100 = .ok (.getfield 59, 3) := by decide +kernel
theorem dX12_held_103 : decode cX12_held 103 = .ok (.iload_n 3, 1) := by decide +kernel
theorem dX12_held_104 : decode cX12_held 104 = .ok (.iaload, 1) := by decide +kernel
theorem dX12_held_105 : decode cX12_held 105 = .ok (.goto 4, 3) := by decide +kernel
theorem dX12_held_108 : decode cX12_held 108 = .ok (.iconst 0, 1) := by decide +kernel
theorem dX12_held_109 : decode cX12_held 109 = .ok (.iadd, 1) := by decide +kernel
theorem dX12_held_110 : decode cX12_held 110 = .ok (.istore_n 2, 1) := by decide +kernel
theorem dX12_held_111 : decode cX12_held 111 = .ok (.iinc 3 1, 3) := by decide +kernel
theorem dX12_held_114 : decode cX12_held 114 = .ok (.goto (-110), 3) := by decide +kernel
theorem dX12_held_117 : decode cX12_held 117 = .ok (.iload_n 1, 1) := by decide +kernel
theorem dX12_held_118 : decode cX12_held 118 = .ok (.iconst 1, 1) := by decide +kernel
theorem dX12_held_119 : decode cX12_held 119 = .ok (.if_icmp .ne 10, 3) := by decide +kernel
theorem dX12_held_122 : decode cX12_held 122 = .ok (.aload_n 0, 1) := by decide +kernel
theorem dX12_held_123 : decode cX12_held 123 = .ok (.getfield 260, 3) := by decide +kernel
theorem dX12_held_126 : decode cX12_held 126 = .ok (.goto 42, 3) := by decide +kernel
theorem dX12_held_129 : decode cX12_held 129 = .ok (.iload_n 1, 1) := by decide +kernel
theorem dX12_held_130 : decode cX12_held 130 = .ok (.iconst 5, 1) := by decide +kernel
theorem dX12_held_131 : decode cX12_held 131 = .ok (.if_icmp .ne 10, 3) := by decide +kernel
theorem dX12_held_134 : decode cX12_held 134 = .ok (.aload_n 0, 1) := by decide +kernel
theorem dX12_held_135 : decode cX12_held 135 = .ok (.getfield 275, 3) := by decide +kernel
theorem dX12_held_138 : decode cX12_held 138 = .ok (.goto 30, 3) := by decide +kernel
theorem dX12_held_141 : decode cX12_held 141 = .ok (.iload_n 1, 1) := by decide +kernel
theorem dX12_held_142 : decode cX12_held 142 = .ok (.bipush 6, 2) := by decide +kernel
theorem dX12_held_144 : decode cX12_held 144 = .ok (.if_icmp .ne 10, 3) := by decide +kernel
theorem dX12_held_147 : decode cX12_held 147 = .ok (.aload_n 0, 1) := by decide +kernel
theorem dX12_held_148 : decode cX12_held 148 = .ok (.getfield 195, 3) := by decide +kernel
theorem dX12_held_151 : decode cX12_held 151 = .ok (.goto 17, 3) := by decide +kernel
theorem dX12_held_154 : decode cX12_held 154 = .ok (.iload_n 1, 1) := by decide +kernel
theorem dX12_held_155 : decode cX12_held 155 = .ok (.ifCond .lt 12, 3) := by decide +kernel
theorem dX12_held_158 : decode cX12_held 158 = .ok (.iload_n 1, 1) := by decide +kernel
theorem dX12_held_159 : decode cX12_held 159 = .ok (.iconst 4, 1) := by decide +kernel
theorem dX12_held_160 : decode cX12_held 160 = .ok (.if_icmp .gt 7, 3) := by decide +kernel
theorem dX12_held_163 : decode cX12_held 163 = .ok (.iload_n 2, 1) := by decide +kernel
theorem dX12_held_164 : decode cX12_held 164 = .ok (.goto 4, 3) := by decide +kernel
theorem dX12_held_167 : decode cX12_held 167 = .ok (.iconst (-1), 1) := by decide +kernel
theorem dX12_held_168 : decode cX12_held 168 = .ok (.ireturn, 1) := by decide +kernel
noncomputable def f_X12_held_b4 (k4 : Int32 → Int32 → Int32 → Mm → Option (Int32 × Mm)) (a1 : Int32) (a2 : Int32) (a3 : Int32) (T : Mm) : Option (Int32 × Mm) :=
  if 16 ≤ a3 then (if a1 = 1 then (some ((gI T 1209 133), T))
  else (if a1 = 5 then (some ((gI T 1232 133), T))
  else (if a1 = 6 then (some ((gI T 1236 133), T))
  else (if a1 < 0 then (some ((-1), T))
  else (if 4 < a1 then (some ((-1), T))
  else (some (a2, T)))))))
  else (if a1 = 0 then (ix a3 17 fun j15 =>
  if (gA T 136 j15) = 0 then (lb ((a2 + 0)) fun v17 =>
  k4 a1 v17 (a3 + 1) T)
  else (lb ((a2 + 1)) fun v18 =>
  k4 a1 v18 (a3 + 1) T))
  else (if a1 = 2 then (ix a3 16 fun j11 =>
  if (gA T 143 j11) = 0 then (lb ((a2 + 0)) fun v13 =>
  k4 a1 v13 (a3 + 1) T)
  else (lb ((a2 + 1)) fun v14 =>
  k4 a1 v14 (a3 + 1) T))
  else (if a1 = 3 then (ix a3 16 fun j7 =>
  if (gA T 148 j7) = 0 then (lb ((a2 + 0)) fun v9 =>
  k4 a1 v9 (a3 + 1) T)
  else (lb ((a2 + 1)) fun v10 =>
  k4 a1 v10 (a3 + 1) T))
  else (if a1 = 4 then (ix a3 16 fun j1 =>
  if (gA T 148 j1) = 0 then (lb ((a2 + 0)) fun v3 =>
  k4 a1 v3 (a3 + 1) T)
  else (ix a3 16 fun j4 =>
  lb ((a2 + (gA T 150 j4))) fun v6 =>
  k4 a1 v6 (a3 + 1) T))
  else (k4 a1 a2 (a3 + 1) T)))))
set_option maxRecDepth 100000 in
set_option maxHeartbeats 4000000 in
theorem s_X12_held_b4 {x : JX} {ad : Nat → Nat} {U : Mm} {S0 : Hp} {q : Int32 × Mm}  {k4 : Int32 → Int32 → Int32 → Mm → Option (Int32 × Mm)} (hn9 : x_n x = 4) (C : CB x RX12 cX12_held) (M : CMr x 1 (some .int) S0 ad false U eI q) (hk4 : ∀ (a1 : Int32) (a2 : Int32) (a3 : Int32) (T : Mm), k4 a1 a2 a3 T = some q → Jr x ad false U T [(0, .ref (ad 133)), (1, .int a1), (2, .int a2), (3, .int a3)] 4 []) (a1 : Int32) (a2 : Int32) (a3 : Int32) (T : Mm) (h : f_X12_held_b4 k4 a1 a2 a3 T = some q) : Jr x ad false U T [(0, .ref (ad 133)), (1, .int a1), (2, .int a2), (3, .int a3)] 4 [] := by
  unfold f_X12_held_b4 at h
  refine r_iload_n C dX12_held_4 rfl 3 rfl ?_
  refine r_bipush (v := 16) C dX12_held_5 (by decide) ?_
  refine r_ic_ge (tgt := 117) C dX12_held_7 (by decide) h (fun h => ?_) (fun h => ?_)
  · refine r_iload_n C dX12_held_117 rfl 1 rfl ?_
    refine r_iconst (v := 1) C dX12_held_118 (by decide) ?_
    refine r_ic_ne (tgt := 129) C dX12_held_119 (by decide) h (fun h => ?_) (fun h => ?_)
    · refine r_iload_n C dX12_held_129 rfl 1 rfl ?_
      refine r_iconst (v := 5) C dX12_held_130 (by decide) ?_
      refine r_ic_ne (tgt := 141) C dX12_held_131 (by decide) h (fun h => ?_) (fun h => ?_)
      · refine r_iload_n C dX12_held_141 rfl 1 rfl ?_
        refine r_bipush (v := 6) C dX12_held_142 (by decide) ?_
        refine r_ic_ne (tgt := 154) C dX12_held_144 (by decide) h (fun h => ?_) (fun h => ?_)
        · refine r_iload_n C dX12_held_154 rfl 1 rfl ?_
          refine r_if_lt (tgt := 167) C dX12_held_155 (by decide) h (fun h => ?_) (fun h => ?_)
          · refine r_iconst (v := (-1)) C dX12_held_167 (by decide) ?_
            exact r_iret C M dX12_held_168 h
          · refine r_iload_n C dX12_held_158 rfl 1 rfl ?_
            refine r_iconst (v := 4) C dX12_held_159 (by decide) ?_
            refine r_ic_gt (tgt := 167) C dX12_held_160 (by decide) h (fun h => ?_) (fun h => ?_)
            · refine r_iconst (v := (-1)) C dX12_held_167 (by decide) ?_
              exact r_iret C M dX12_held_168 h
            · refine r_iload_n C dX12_held_163 rfl 2 rfl ?_
              refine r_goto (tgt := 168) C dX12_held_164 (by decide) ?_
              exact r_iret C M dX12_held_168 h
        · refine r_aload_n C dX12_held_147 rfl 0 rfl ?_
          refine r_geti (f := 1236) C flX12_195 dX12_held_148 kq_133 (by decide) (by decide) rfl ?_
          refine r_goto (tgt := 168) C dX12_held_151 (by decide) ?_
          exact r_iret C M dX12_held_168 h
      · refine r_aload_n C dX12_held_134 rfl 0 rfl ?_
        refine r_geti (f := 1232) C flX12_275 dX12_held_135 kq_133 (by decide) (by decide) rfl ?_
        refine r_goto (tgt := 168) C dX12_held_138 (by decide) ?_
        exact r_iret C M dX12_held_168 h
    · refine r_aload_n C dX12_held_122 rfl 0 rfl ?_
      refine r_geti (f := 1209) C flX12_260 dX12_held_123 kq_133 (by decide) (by decide) rfl ?_
      refine r_goto (tgt := 168) C dX12_held_126 (by decide) ?_
      exact r_iret C M dX12_held_168 h
  · refine r_iload_n C dX12_held_10 rfl 1 rfl ?_
    refine r_if_ne (tgt := 34) C dX12_held_11 (by decide) h (fun h => ?_) (fun h => ?_)
    · refine r_iload_n C dX12_held_34 rfl 1 rfl ?_
      refine r_iconst (v := 2) C dX12_held_35 (by decide) ?_
      refine r_ic_ne (tgt := 59) C dX12_held_36 (by decide) h (fun h => ?_) (fun h => ?_)
      · refine r_iload_n C dX12_held_59 rfl 1 rfl ?_
        refine r_iconst (v := 3) C dX12_held_60 (by decide) ?_
        refine r_ic_ne (tgt := 84) C dX12_held_61 (by decide) h (fun h => ?_) (fun h => ?_)
        · refine r_iload_n C dX12_held_84 rfl 1 rfl ?_
          refine r_iconst (v := 4) C dX12_held_85 (by decide) ?_
          refine r_ic_ne (tgt := 111) C dX12_held_86 (by decide) h (fun h => ?_) (fun h => ?_)
          · refine r_iinc (q := 3) (v := (a3 + 1)) (lv' := [(3, .int (a3 + 1)), (0, .ref (ad 133)), (1, .int a1), (2, .int a2)]) C dX12_held_111 rfl (by rw [show Int32.ofInt (1) = 1 by decide]) (by rw [hn9]; decide) rfl ?_
            refine r_goto (tgt := 4) C dX12_held_114 (by decide) ?_
            refine Jr.sub [1, 2, 3, 0] (lv' := [(0, .ref (ad 133)), (1, .int a1), (2, .int a2), (3, .int (a3 + 1))]) rfl ?_
            exact hk4 a1 a2 (a3 + 1) T h
          · refine r_iload_n C dX12_held_89 rfl 2 rfl ?_
            refine r_aload_n C dX12_held_90 rfl 0 rfl ?_
            refine r_getp (f := 1215) (j := 148) C flX12_53 dX12_held_91 kq_133 (by decide) rfl (fun W => pt_1215 kq_133 W) ?_
            refine r_iload_n C dX12_held_94 rfl 3 rfl ?_
            refine r_zald (n := 16) C dX12_held_95 kq_148 lq_148 h (fun j1 hj2 h => ?_)
            show Jr _ _ _ _ _ _ 96 _
            refine r_if_eq (tgt := 108) C dX12_held_96 (by decide) h (fun h => ?_) (fun h => ?_)
            · refine r_iconst (v := 0) C dX12_held_108 (by decide) ?_
              refine r_iadd C dX12_held_109 rfl ?_
              refine r_lbI h (fun v3 h => ?_)
              refine r_istore_n (lv' := [(2, .int v3), (0, .ref (ad 133)), (1, .int a1), (3, .int a3)]) C dX12_held_110 rfl (by rw [hn9]; decide) rfl ?_
              refine r_iinc (q := 3) (v := (a3 + 1)) (lv' := [(3, .int (a3 + 1)), (2, .int v3), (0, .ref (ad 133)), (1, .int a1)]) C dX12_held_111 rfl (by rw [show Int32.ofInt (1) = 1 by decide]) (by rw [hn9]; decide) rfl ?_
              refine r_goto (tgt := 4) C dX12_held_114 (by decide) ?_
              refine Jr.sub [2, 3, 1, 0] (lv' := [(0, .ref (ad 133)), (1, .int a1), (2, .int v3), (3, .int (a3 + 1))]) rfl ?_
              exact hk4 a1 v3 (a3 + 1) T h
            · refine r_aload_n C dX12_held_99 rfl 0 rfl ?_
              refine r_getp (f := 1217) (j := 150) C flX12_59 dX12_held_100 kq_133 (by decide) rfl (fun W => pt_1217 kq_133 W) ?_
              refine r_iload_n C dX12_held_103 rfl 3 rfl ?_
              refine r_iald (n := 16) C dX12_held_104 kq_150 lq_150 h (fun j4 hj5 h => ?_)
              refine r_goto (tgt := 109) C dX12_held_105 (by decide) ?_
              show Jr _ _ _ _ _ _ 109 _
              refine r_iadd C dX12_held_109 rfl ?_
              refine r_lbI h (fun v6 h => ?_)
              refine r_istore_n (lv' := [(2, .int v6), (0, .ref (ad 133)), (1, .int a1), (3, .int a3)]) C dX12_held_110 rfl (by rw [hn9]; decide) rfl ?_
              refine r_iinc (q := 3) (v := (a3 + 1)) (lv' := [(3, .int (a3 + 1)), (2, .int v6), (0, .ref (ad 133)), (1, .int a1)]) C dX12_held_111 rfl (by rw [show Int32.ofInt (1) = 1 by decide]) (by rw [hn9]; decide) rfl ?_
              refine r_goto (tgt := 4) C dX12_held_114 (by decide) ?_
              refine Jr.sub [2, 3, 1, 0] (lv' := [(0, .ref (ad 133)), (1, .int a1), (2, .int v6), (3, .int (a3 + 1))]) rfl ?_
              exact hk4 a1 v6 (a3 + 1) T h
        · refine r_iload_n C dX12_held_64 rfl 2 rfl ?_
          refine r_aload_n C dX12_held_65 rfl 0 rfl ?_
          refine r_getp (f := 1215) (j := 148) C flX12_53 dX12_held_66 kq_133 (by decide) rfl (fun W => pt_1215 kq_133 W) ?_
          refine r_iload_n C dX12_held_69 rfl 3 rfl ?_
          refine r_zald (n := 16) C dX12_held_70 kq_148 lq_148 h (fun j7 hj8 h => ?_)
          show Jr _ _ _ _ _ _ 71 _
          refine r_if_eq (tgt := 78) C dX12_held_71 (by decide) h (fun h => ?_) (fun h => ?_)
          · refine r_iconst (v := 0) C dX12_held_78 (by decide) ?_
            refine r_iadd C dX12_held_79 rfl ?_
            refine r_lbI h (fun v9 h => ?_)
            refine r_istore_n (lv' := [(2, .int v9), (0, .ref (ad 133)), (1, .int a1), (3, .int a3)]) C dX12_held_80 rfl (by rw [hn9]; decide) rfl ?_
            refine r_goto (tgt := 111) C dX12_held_81 (by decide) ?_
            refine r_iinc (q := 3) (v := (a3 + 1)) (lv' := [(3, .int (a3 + 1)), (2, .int v9), (0, .ref (ad 133)), (1, .int a1)]) C dX12_held_111 rfl (by rw [show Int32.ofInt (1) = 1 by decide]) (by rw [hn9]; decide) rfl ?_
            show Jr _ _ _ _ _ _ 114 _
            refine r_goto (tgt := 4) C dX12_held_114 (by decide) ?_
            refine Jr.sub [2, 3, 1, 0] (lv' := [(0, .ref (ad 133)), (1, .int a1), (2, .int v9), (3, .int (a3 + 1))]) rfl ?_
            exact hk4 a1 v9 (a3 + 1) T h
          · refine r_iconst (v := 1) C dX12_held_74 (by decide) ?_
            refine r_goto (tgt := 79) C dX12_held_75 (by decide) ?_
            refine r_iadd C dX12_held_79 rfl ?_
            refine r_lbI h (fun v10 h => ?_)
            refine r_istore_n (lv' := [(2, .int v10), (0, .ref (ad 133)), (1, .int a1), (3, .int a3)]) C dX12_held_80 rfl (by rw [hn9]; decide) rfl ?_
            refine r_goto (tgt := 111) C dX12_held_81 (by decide) ?_
            show Jr _ _ _ _ _ _ 111 _
            refine r_iinc (q := 3) (v := (a3 + 1)) (lv' := [(3, .int (a3 + 1)), (2, .int v10), (0, .ref (ad 133)), (1, .int a1)]) C dX12_held_111 rfl (by rw [show Int32.ofInt (1) = 1 by decide]) (by rw [hn9]; decide) rfl ?_
            refine r_goto (tgt := 4) C dX12_held_114 (by decide) ?_
            refine Jr.sub [2, 3, 1, 0] (lv' := [(0, .ref (ad 133)), (1, .int a1), (2, .int v10), (3, .int (a3 + 1))]) rfl ?_
            exact hk4 a1 v10 (a3 + 1) T h
      · refine r_iload_n C dX12_held_39 rfl 2 rfl ?_
        refine r_aload_n C dX12_held_40 rfl 0 rfl ?_
        refine r_getp (f := 1210) (j := 143) C flX12_38 dX12_held_41 kq_133 (by decide) rfl (fun W => pt_1210 kq_133 W) ?_
        refine r_iload_n C dX12_held_44 rfl 3 rfl ?_
        refine r_zald (n := 16) C dX12_held_45 kq_143 lq_143 h (fun j11 hj12 h => ?_)
        show Jr _ _ _ _ _ _ 46 _
        refine r_if_eq (tgt := 53) C dX12_held_46 (by decide) h (fun h => ?_) (fun h => ?_)
        · refine r_iconst (v := 0) C dX12_held_53 (by decide) ?_
          refine r_iadd C dX12_held_54 rfl ?_
          refine r_lbI h (fun v13 h => ?_)
          refine r_istore_n (lv' := [(2, .int v13), (0, .ref (ad 133)), (1, .int a1), (3, .int a3)]) C dX12_held_55 rfl (by rw [hn9]; decide) rfl ?_
          refine r_goto (tgt := 111) C dX12_held_56 (by decide) ?_
          refine r_iinc (q := 3) (v := (a3 + 1)) (lv' := [(3, .int (a3 + 1)), (2, .int v13), (0, .ref (ad 133)), (1, .int a1)]) C dX12_held_111 rfl (by rw [show Int32.ofInt (1) = 1 by decide]) (by rw [hn9]; decide) rfl ?_
          show Jr _ _ _ _ _ _ 114 _
          refine r_goto (tgt := 4) C dX12_held_114 (by decide) ?_
          refine Jr.sub [2, 3, 1, 0] (lv' := [(0, .ref (ad 133)), (1, .int a1), (2, .int v13), (3, .int (a3 + 1))]) rfl ?_
          exact hk4 a1 v13 (a3 + 1) T h
        · refine r_iconst (v := 1) C dX12_held_49 (by decide) ?_
          refine r_goto (tgt := 54) C dX12_held_50 (by decide) ?_
          refine r_iadd C dX12_held_54 rfl ?_
          refine r_lbI h (fun v14 h => ?_)
          refine r_istore_n (lv' := [(2, .int v14), (0, .ref (ad 133)), (1, .int a1), (3, .int a3)]) C dX12_held_55 rfl (by rw [hn9]; decide) rfl ?_
          refine r_goto (tgt := 111) C dX12_held_56 (by decide) ?_
          show Jr _ _ _ _ _ _ 111 _
          refine r_iinc (q := 3) (v := (a3 + 1)) (lv' := [(3, .int (a3 + 1)), (2, .int v14), (0, .ref (ad 133)), (1, .int a1)]) C dX12_held_111 rfl (by rw [show Int32.ofInt (1) = 1 by decide]) (by rw [hn9]; decide) rfl ?_
          refine r_goto (tgt := 4) C dX12_held_114 (by decide) ?_
          refine Jr.sub [2, 3, 1, 0] (lv' := [(0, .ref (ad 133)), (1, .int a1), (2, .int v14), (3, .int (a3 + 1))]) rfl ?_
          exact hk4 a1 v14 (a3 + 1) T h
    · refine r_iload_n C dX12_held_14 rfl 2 rfl ?_
      refine r_aload_n C dX12_held_15 rfl 0 rfl ?_
      refine r_getp (f := 1202) (j := 136) C flX12_16 dX12_held_16 kq_133 (by decide) rfl (fun W => pt_1202 kq_133 W) ?_
      refine r_iload_n C dX12_held_19 rfl 3 rfl ?_
      refine r_zald (n := 17) C dX12_held_20 kq_136 lq_136 h (fun j15 hj16 h => ?_)
      show Jr _ _ _ _ _ _ 21 _
      refine r_if_eq (tgt := 28) C dX12_held_21 (by decide) h (fun h => ?_) (fun h => ?_)
      · refine r_iconst (v := 0) C dX12_held_28 (by decide) ?_
        refine r_iadd C dX12_held_29 rfl ?_
        refine r_lbI h (fun v17 h => ?_)
        refine r_istore_n (lv' := [(2, .int v17), (0, .ref (ad 133)), (1, .int a1), (3, .int a3)]) C dX12_held_30 rfl (by rw [hn9]; decide) rfl ?_
        refine r_goto (tgt := 111) C dX12_held_31 (by decide) ?_
        refine r_iinc (q := 3) (v := (a3 + 1)) (lv' := [(3, .int (a3 + 1)), (2, .int v17), (0, .ref (ad 133)), (1, .int a1)]) C dX12_held_111 rfl (by rw [show Int32.ofInt (1) = 1 by decide]) (by rw [hn9]; decide) rfl ?_
        show Jr _ _ _ _ _ _ 114 _
        refine r_goto (tgt := 4) C dX12_held_114 (by decide) ?_
        refine Jr.sub [2, 3, 1, 0] (lv' := [(0, .ref (ad 133)), (1, .int a1), (2, .int v17), (3, .int (a3 + 1))]) rfl ?_
        exact hk4 a1 v17 (a3 + 1) T h
      · refine r_iconst (v := 1) C dX12_held_24 (by decide) ?_
        refine r_goto (tgt := 29) C dX12_held_25 (by decide) ?_
        refine r_iadd C dX12_held_29 rfl ?_
        refine r_lbI h (fun v18 h => ?_)
        refine r_istore_n (lv' := [(2, .int v18), (0, .ref (ad 133)), (1, .int a1), (3, .int a3)]) C dX12_held_30 rfl (by rw [hn9]; decide) rfl ?_
        refine r_goto (tgt := 111) C dX12_held_31 (by decide) ?_
        show Jr _ _ _ _ _ _ 111 _
        refine r_iinc (q := 3) (v := (a3 + 1)) (lv' := [(3, .int (a3 + 1)), (2, .int v18), (0, .ref (ad 133)), (1, .int a1)]) C dX12_held_111 rfl (by rw [show Int32.ofInt (1) = 1 by decide]) (by rw [hn9]; decide) rfl ?_
        refine r_goto (tgt := 4) C dX12_held_114 (by decide) ?_
        refine Jr.sub [2, 3, 1, 0] (lv' := [(0, .ref (ad 133)), (1, .int a1), (2, .int v18), (3, .int (a3 + 1))]) rfl ?_
        exact hk4 a1 v18 (a3 + 1) T h
noncomputable def f_X12_held_l4 (n : Nat) : Int32 → Int32 → Int32 → Mm → Option (Int32 × Mm) := Nat.rec (fun _ _ _ _ => none) (fun _ ih => f_X12_held_b4 ih) n
theorem s_X12_held_l4 {x : JX} {ad : Nat → Nat} {U : Mm} {S0 : Hp} {q : Int32 × Mm}  (hn9 : x_n x = 4) (C : CB x RX12 cX12_held) (M : CMr x 1 (some .int) S0 ad false U eI q) : ∀ (n : Nat), ∀ (a1 : Int32) (a2 : Int32) (a3 : Int32) (T : Mm), f_X12_held_l4  n a1 a2 a3 T = some q → Jr x ad false U T [(0, .ref (ad 133)), (1, .int a1), (2, .int a2), (3, .int a3)] 4 [] := by
  intro n
  induction n with
  | zero => intro a1 a2 a3 T  h; exact absurd h (by intro h; cases h)
  | succ n ih => exact fun a1 a2 a3 T  h => s_X12_held_b4 hn9 C M (ih) a1 a2 a3 T  h
noncomputable def f_X12_held (p1 : Int32) (T : Mm) : Option (Int32 × Mm) :=
  f_X12_held_l4 FU p1 0 0 T
set_option maxRecDepth 100000 in
set_option maxHeartbeats 4000000 in
theorem s_X12_held {ad : Nat → Nat} {U T : Mm} {q : Int32 × Mm}  (p1 : Int32) (h : f_X12_held p1 T = some q) : Cr 1 yX12_held cX12_held 4 (some .int) [.ref (ad 133), .int p1] ad false U T eI q := by
  refine cr_of (by decide) (Nat.le_of_ble_eq_true rfl) fun x S0 hn9 C M => ?_
  have C : CB x RX12 cX12_held := C
  refine Jr.eq (lv' := [(0, .ref (ad 133)), (1, .int p1)]) (st' := []) rfl rfl ?_
  unfold f_X12_held at h
  refine r_iconst (v := 0) C dX12_held_0 (by decide) ?_
  refine r_istore_n (lv' := [(2, .int 0), (0, .ref (ad 133)), (1, .int p1)]) C dX12_held_1 rfl (by rw [hn9]; decide) rfl ?_
  refine r_iconst (v := 0) C dX12_held_2 (by decide) ?_
  refine r_istore_n (lv' := [(3, .int 0), (2, .int 0), (0, .ref (ad 133)), (1, .int p1)]) C dX12_held_3 rfl (by rw [hn9]; decide) rfl ?_
  refine Jr.sub [2, 3, 1, 0] (lv' := [(0, .ref (ad 133)), (1, .int p1), (2, .int 0), (3, .int 0)]) rfl ?_
  exact s_X12_held_l4 hn9 C M  FU p1 0 0 T h
theorem dX12_off_0 : decode cX12_off 0 = .ok (.aload_n 0, 1) := by decide +kernel
theorem dX12_off_1 : decode cX12_off 1 = .ok (.iconst 0, 1) := by decide +kernel
theorem dX12_off_2 : decode cX12_off 2 = .ok (.invokevirtual 664, 3) := by decide +kernel
theorem dX12_off_5 : decode cX12_off 5 = .ok (.aload_n 0, 1) := by decide +kernel
theorem dX12_off_6 : decode cX12_off 6 = .ok (.iconst 2, 1) := by decide +kernel
theorem dX12_off_7 : decode cX12_off 7 = .ok (.invokevirtual 664, 3) := by decide +kernel
theorem dX12_off_10 : decode cX12_off 10 = .ok (.iadd, 1) := by decide +kernel
theorem dX12_off_11 : decode cX12_off 11 = .ok (.aload_n 0, 1) := by decide +kernel
theorem dX12_off_12 : decode cX12_off 12 = .ok (.iconst 3, 1) := by decide +kernel
theorem dX12_off_13 : decode cX12_off 13 = .ok (.invokevirtual 664, 3) := by decide +kernel
theorem dX12_off_16 : decode cX12_off 16 = .ok (.iadd, 1) := by decide +kernel
theorem dX12_off_17 : decode cX12_off 17 = .ok (.istore_n 1, 1) := by decide +kernel
theorem dX12_off_18 : decode cX12_off 18 = .ok (.aload_n 0, 1) := by decide +kernel
theorem dX12_off_19 : decode cX12_off 19 = .ok (.iconst 0, 1) := by decide +kernel
theorem dX12_off_20 : decode cX12_off 20 = .ok (.invokevirtual 244, 3) := by decide +kernel
theorem dX12_off_23 : decode cX12_off 23 = .ok (.aload_n 0, 1) := by decide +kernel
theorem dX12_off_24 : decode cX12_off 24 = .ok (.iconst 0, 1) := by decide +kernel
theorem dX12_off_25 : decode cX12_off 25 = .ok (.invokevirtual 248, 3) := by decide +kernel
theorem dX12_off_28 : decode cX12_off 28 = .ok (.aload_n 0, 1) := by decide +kernel
theorem dX12_off_29 : decode cX12_off 29 = .ok (.iconst 0, 1) := by decide +kernel
theorem dX12_off_30 : decode cX12_off 30 = .ok (.invokevirtual 251, 3) := by decide +kernel
theorem dX12_off_33 : decode cX12_off 33 = .ok (.iload_n 1, 1) := by decide +kernel
theorem dX12_off_34 : decode cX12_off 34 = .ok (.ireturn, 1) := by decide +kernel
noncomputable def f_X12_off (T : Mm) : Option (Int32 × Mm) :=
  bd (f_X12_held 0 T) fun v1 T2 =>
  bd (f_X12_held 2 T2) fun v3 T4 =>
  bd (f_X12_held 3 T4) fun v5 T6 =>
  lb (((v1 + v3) + v5)) fun v7 =>
  bd (f_X12_fontsGo 0 T6) fun _ T8 =>
  bd (f_X12_usersGo 0 T8) fun _ T9 =>
  bd (f_X12_macrosGo 0 T9) fun _ T10 =>
  some (v7, T10)
set_option maxRecDepth 100000 in
set_option maxHeartbeats 4000000 in
theorem s_X12_off {ad : Nat → Nat} {U T : Mm} {q : Int32 × Mm}  (h : f_X12_off  T = some q) : Cr 4 yX12_off cX12_off 2 (some .int) [.ref (ad 133)] ad false U T eI q := by
  refine cr_of (by decide) (Nat.le_of_ble_eq_true rfl) fun x S0 hn9 C M => ?_
  have C : CB x RX12 cX12_off := C
  refine Jr.eq (lv' := [(0, .ref (ad 133))]) (st' := []) rfl rfl ?_
  unfold f_X12_off at h
  refine r_aload_n C dX12_off_0 rfl 0 rfl ?_
  refine r_iconst (v := 0) C dX12_off_1 (by decide) ?_
  refine r_callVI C M h [.int 0] [] mlX12_664 mcX12_held (fun q9 e9 => s_X12_held 0  e9) kq_133 rfl (by decide) (by decide) rfl rfl (Nat.le_of_ble_eq_true rfl) dX12_off_2 (fun v1 T2 h => ?_)
  refine r_aload_n C dX12_off_5 rfl 0 rfl ?_
  refine r_iconst (v := 2) C dX12_off_6 (by decide) ?_
  show Jr _ _ _ _ _ _ 7 _
  refine r_callVI C M h [.int 2] [.int v1] mlX12_664 mcX12_held (fun q9 e9 => s_X12_held 2  e9) kq_133 rfl (by decide) (by decide) rfl rfl (Nat.le_of_ble_eq_true rfl) dX12_off_7 (fun v3 T4 h => ?_)
  refine r_iadd C dX12_off_10 rfl ?_
  refine r_aload_n C dX12_off_11 rfl 0 rfl ?_
  refine r_iconst (v := 3) C dX12_off_12 (by decide) ?_
  refine r_callVI C M h [.int 3] [.int (v1 + v3)] mlX12_664 mcX12_held (fun q9 e9 => s_X12_held 3  e9) kq_133 rfl (by decide) (by decide) rfl rfl (Nat.le_of_ble_eq_true rfl) dX12_off_13 (fun v5 T6 h => ?_)
  refine r_iadd C dX12_off_16 rfl ?_
  show Jr _ _ _ _ _ _ 17 _
  refine r_lbI h (fun v7 h => ?_)
  refine r_istore_n (lv' := [(1, .int v7), (0, .ref (ad 133))]) C dX12_off_17 rfl (by rw [hn9]; decide) rfl ?_
  refine r_aload_n C dX12_off_18 rfl 1 rfl ?_
  refine r_iconst (v := 0) C dX12_off_19 (by decide) ?_
  refine r_callVN C M h [.int 0] [] mlX12_244 mcX12_fontsGo (fun q9 e9 => s_X12_fontsGo 0  e9) kq_133 rfl (by decide) (by decide) rfl rfl (Nat.le_of_ble_eq_true rfl) dX12_off_20 (fun _ T8 h => ?_)
  refine r_aload_n C dX12_off_23 rfl 1 rfl ?_
  refine r_iconst (v := 0) C dX12_off_24 (by decide) ?_
  show Jr _ _ _ _ _ _ 25 _
  refine r_callVN C M h [.int 0] [] mlX12_248 mcX12_usersGo (fun q9 e9 => s_X12_usersGo 0  e9) kq_133 rfl (by decide) (by decide) rfl rfl (Nat.le_of_ble_eq_true rfl) dX12_off_25 (fun _ T9 h => ?_)
  refine r_aload_n C dX12_off_28 rfl 1 rfl ?_
  refine r_iconst (v := 0) C dX12_off_29 (by decide) ?_
  refine r_callVN C M h [.int 0] [] mlX12_251 mcX12_macrosGo (fun q9 e9 => s_X12_macrosGo 0  e9) kq_133 rfl (by decide) (by decide) rfl rfl (Nat.le_of_ble_eq_true rfl) dX12_off_30 (fun _ T10 h => ?_)
  refine r_iload_n C dX12_off_33 rfl 0 rfl ?_
  exact r_iret C M dX12_off_34 h
