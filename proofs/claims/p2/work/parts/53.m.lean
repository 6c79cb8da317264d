theorem dX12_macroField_0 : decode cX12_macroField 0 = .ok (.iload_n 1, 1) := by decide +kernel
theorem dX12_macroField_1 : decode cX12_macroField 1 = .ok (.bipush 89, 2) := by decide +kernel
theorem dX12_macroField_3 : decode cX12_macroField 3 = .ok (.if_icmp .ne 34, 3) := by decide +kernel
theorem dX12_macroField_6 : decode cX12_macroField 6 = .ok (.aload_n 0, 1) := by decide +kernel
theorem dX12_macroField_7 : decode cX12_macroField 7 = .ok (.getfield 379, 3) := by decide +kernel
theorem dX12_macroField_10 : decode cX12_macroField 10 = .ok (.ifCond .lt 27, 3) := by decide +kernel
theorem dX12_macroField_13 : decode cX12_macroField 13 = .ok (.aload_n 0, 1) := by decide +kernel
theorem dX12_macroField_14 : decode cX12_macroField 14 = .ok (.getfield 379, 3) := by decide +kernel
theorem dX12_macroField_17 : decode cX12_macroField 17 = .ok (.bipush 15, 2) := by decide +kernel
theorem dX12_macroField_19 : decode cX12_macroField 19 = .ok (.if_icmp .gt 18, 3) := by decide +kernel
theorem dX12_macroField_22 : decode cX12_macroField 22 = .ok (.aload_n 0, 1) := by decide +kernel
theorem dX12_macroField_23 : decode cX12_macroField 23 = .ok (.getfield 9, 3) := by decide +kernel
theorem dX12_macroField_26 : decode cX12_macroField 26 = .ok (.sipush 145, 3) := by decide +kernel
theorem dX12_macroField_29 : decode cX12_macroField 29 = .ok (.aload_n 0, 1) := by decide +kernel
theorem dX12_macroField_30 : decode cX12_macroField 30 = .ok (.getfield 379, 3) := by decide +kernel
theorem dX12_macroField_33 : decode cX12_macroField 33 = .ok (.iastore, 1) := by decide +kernel
theorem dX12_macroField_34 : decode cX12_macroField 34 = .ok (.goto 200, 3) := by decide +kernel
theorem dX12_macroField_37 : decode cX12_macroField 37 = .ok (.iload_n 1, 1) := by decide +kernel
theorem dX12_macroField_38 : decode cX12_macroField 38 = .ok (.bipush 83, 2) := by decide +kernel
theorem dX12_macroField_40 : decode cX12_macroField 40 = .ok (.if_icmp .ne 94, 3) := by decide +kernel
theorem dX12_macroField_43 : decode cX12_macroField 43 = .ok (.aload_n 0, 1) := by decide +kernel
theorem dX12_macroField_44 : decode cX12_macroField 44 = .ok (.getfield 379, 3) := by decide +kernel
theorem dX12_macroField_47 : decode cX12_macroField 47 = .ok (.ifCond .ne 87, 3) := by decide +kernel
theorem dX12_macroField_50 : decode cX12_macroField 50 = .ok (.aload_n 0, 1) := by decide +kernel
theorem dX12_macroField_51 : decode cX12_macroField 51 = .ok (.getfield 9, 3) := by decide +kernel
theorem dX12_macroField_54 : decode cX12_macroField 54 = .ok (.sipush 146, 3) := by decide +kernel
theorem dX12_macroField_57 : decode cX12_macroField 57 = .ok (.iaload, 1) := by decide +kernel
theorem dX12_macroField_58 : decode cX12_macroField 58 = .ok (.bipush 20, 2) := by decide +kernel
theorem dX12_macroField_60 : decode cX12_macroField 60 = .ok (.if_icmp .ge 174, 3) := by decide +kernel
theorem dX12_macroField_63 : decode cX12_macroField 63 = .ok (.aload_n 0, 1) := by decide +kernel
theorem dX12_macroField_64 : decode cX12_macroField 64 = .ok (.getfield 9, 3) := by decide +kernel
theorem dX12_macroField_67 : decode cX12_macroField 67 = .ok (.sipush 147, 3) := by decide +kernel
theorem dX12_macroField_70 : decode cX12_macroField 70 = .ok (.iconst 2, 1) := by decide +kernel
theorem dX12_macroField_71 : decode cX12_macroField 71 = .ok (.aload_n 0, 1) := by decide +kernel
theorem dX12_macroField_72 : decode cX12_macroField 72 = .ok (.getfield 9, 3) := by decide +kernel
theorem dX12_macroField_75 : decode cX12_macroField 75 = .ok (.sipush 146, 3) := by decide +kernel
theorem dX12_macroField_78 : decode cX12_macroField 78 = .ok (.iaload, 1) := by decide +kernel
theorem dX12_macroField_79 : decode cX12_macroField 79 = .ok (.imul, 1) := by decide +kernel
theorem dX12_macroField_80 : decode cX12_macroField 80 = .ok (.iadd, 1) := by decide +kernel
theorem dX12_macroField_81 : decode cX12_macroField 81 = .ok (.aload_n 0, 1) := by decide +kernel
theorem dX12_macroField_82 : decode cX12_macroField 82 = .ok (.getfield 9, 3) := by decide +kernel
theorem dX12_macroField_85 : decode cX12_macroField 85 = .ok (.sipush 189, 3) := by decide +kernel
theorem dX12_macroField_88 : decode cX12_macroField 88 = .ok (.iaload, 1) := by decide +kernel
theorem dX12_macroField_89 : decode cX12_macroField 89 = .ok (.iastore, 1) := by decide +kernel
theorem dX12_macroField_90 : decode cX12_macroField 90 = .ok (.aload_n 0, 1) := by decide +kernel
theorem dX12_macroField_91 : decode cX12_macroField 91 = .ok (.getfield 9, 3) := by decide +kernel
theorem dX12_macroField_94 : decode cX12_macroField 94 = .ok (.sipush 147, 3) := by decide +kernel
theorem dX12_macroField_97 : decode cX12_macroField 97 = .ok (.iconst 2, 1) := by decide +kernel
theorem dX12_macroField_98 : decode cX12_macroField 98 = .ok (.aload_n 0, 1) := by decide +kernel
theorem dX12_macroField_99 : decode cX12_macroField 99 = .ok (.getfield 9, 3) := by decide +kernel
theorem dX12_macroField_102 : decode cX12_macroField 102 = .ok (.sipush 146, 3) := by decide +kernel
theorem dX12_macroField_105 : decode cX12_macroField 105 = .ok (.iaload, 1) := by decide +kernel
theorem dX12_macroField_106 : decode cX12_macroField 106 = .ok (.imul, 1) := by decide +kernel
theorem dX12_macroField_107 : decode cX12_macroField 107 = .ok (.iadd, 1) := by decide +kernel
theorem dX12_macroField_108 : decode cX12_macroField 108 = .ok (.iconst 1, 1) := by decide +kernel
theorem dX12_macroField_109 : decode cX12_macroField 109 = .ok (.iadd, 1) := by decide +kernel
theorem dX12_macroField_110 : decode cX12_macroField 110 = .ok (.aload_n 0, 1) := by decide +kernel
theorem dX12_macroField_111 : decode cX12_macroField 111 = .ok (.getfield 9, 3) := by decide +kernel
theorem dX12_macroField_114 : decode cX12_macroField 114 = .ok (.sipush 190, 3) := by decide +kernel
theorem dX12_macroField_117 : decode cX12_macroField 117 = .ok (.iaload, 1) := by decide +kernel
theorem dX12_macroField_118 : decode cX12_macroField 118 = .ok (.iastore, 1) := by decide +kernel
theorem dX12_macroField_119 : decode cX12_macroField 119 = .ok (.aload_n 0, 1) := by decide +kernel
theorem dX12_macroField_120 : decode cX12_macroField 120 = .ok (.getfield 9, 3) := by decide +kernel
theorem dX12_macroField_123 : decode cX12_macroField 123 = .ok (.sipush 146, 3) := by decide +kernel
theorem dX12_macroField_126 : decode cX12_macroField 126 = .ok (.dup2, 1) := by decide +kernel
theorem dX12_macroField_127 : decode cX12_macroField 127 = .ok (.iaload, 1) := by decide +kernel
theorem dX12_macroField_128 : decode cX12_macroField 128 = .ok (.iconst 1, 1) := by decide +kernel
theorem dX12_macroField_129 : decode cX12_macroField 129 = .ok (.iadd, 1) := by decide +kernel
theorem dX12_macroField_130 : decode cX12_macroField 130 = .ok (.iastore, 1) := by decide +kernel
theorem dX12_macroField_131 : decode cX12_macroField 131 = .ok (.goto 103, 3) := by decide +kernel
theorem dX12_macroField_134 : decode cX12_macroField 134 = .ok (.iload_n 1, 1) := by decide +kernel
theorem dX12_macroField_135 : decode cX12_macroField 135 = .ok (.bipush 83, 2) := by decide +kernel
theorem dX12_macroField_137 : decode cX12_macroField 137 = .ok (.if_icmp .ne 87, 3) := by decide +kernel
theorem dX12_macroField_140 : decode cX12_macroField 140 = .ok (.aload_n 0, 1) := by decide +kernel
theorem dX12_macroField_141 : decode cX12_macroField 141 = .ok (.getfield 379, 3) := by decide +kernel
theorem dX12_macroField_144 : decode cX12_macroField 144 = .ok (.iconst 1, 1) := by decide +kernel
theorem dX12_macroField_145 : decode cX12_macroField 145 = .ok (.if_icmp .ne 79, 3) := by decide +kernel
theorem dX12_macroField_148 : decode cX12_macroField 148 = .ok (.aload_n 0, 1) := by decide +kernel
theorem dX12_macroField_149 : decode cX12_macroField 149 = .ok (.getfield 9, 3) := by decide +kernel
theorem dX12_macroField_152 : decode cX12_macroField 152 = .ok (.sipush 146, 3) := by decide +kernel
theorem dX12_macroField_155 : decode cX12_macroField 155 = .ok (.iaload, 1) := by decide +kernel
theorem dX12_macroField_156 : decode cX12_macroField 156 = .ok (.ifCond .le 78, 3) := by decide +kernel
theorem dX12_macroField_159 : decode cX12_macroField 159 = .ok (.aload_n 0, 1) := by decide +kernel
theorem dX12_macroField_160 : decode cX12_macroField 160 = .ok (.getfield 9, 3) := by decide +kernel
theorem dX12_macroField_163 : decode cX12_macroField 163 = .ok (.sipush 146, 3) := by decide +kernel
theorem dX12_macroField_166 : decode cX12_macroField 166 = .ok (.dup2, 1) := by decide +kernel
theorem dX12_macroField_167 : decode cX12_macroField 167 = .ok (.iaload, 1) := by decide +kernel
theorem dX12_macroField_168 : decode cX12_macroField 168 = .ok (.iconst 1, 1) := by decide +kernel
theorem dX12_macroField_169 : decode cX12_macroField 169 = .ok (.isub, 1) := by decide +kernel
theorem dX12_macroField_170 : decode cX12_macroField 170 = .ok (.iastore, 1) := by decide +kernel
theorem dX12_macroField_171 : decode cX12_macroField 171 = .ok (.aload_n 0, 1) := by decide +kernel
theorem dX12_macroField_172 : decode cX12_macroField 172 = .ok (.aload_n 0, 1) := by decide +kernel
theorem dX12_macroField_173 : decode cX12_macroField 173 = .ok (.getfield 9, 3) := by decide +kernel
theorem dX12_macroField_176 : decode cX12_macroField 176 = .ok (.sipush 147, 3) := by decide +kernel
theorem dX12_macroField_179 : decode cX12_macroField 179 = .ok (.iconst 2, 1) := by decide +kernel
theorem dX12_macroField_180 : decode cX12_macroField 180 = .ok (.aload_n 0, 1) := by decide +kernel
theorem dX12_macroField_181 : decode cX12_macroField 181 = .ok (.getfield 9, 3) := by decide +kernel
theorem dX12_macroField_184 : decode cX12_macroField 184 = .ok (.sipush 146, 3) := by decide +kernel
theorem dX12_macroField_187 : decode cX12_macroField 187 = .ok (.iaload, 1) := by decide +kernel
theorem dX12_macroField_188 : decode cX12_macroField 188 = .ok (.imul, 1) := by decide +kernel
theorem dX12_macroField_189 : decode cX12_macroField 189 = .ok (.iadd, 1) := by decide +kernel
theorem dX12_macroField_190 : decode cX12_macroField 190 = .ok (.iaload, 1) := by decide +kernel
theorem dX12_macroField_191 : decode cX12_macroField 191 = .ok (.i2l, 1) := by decide +kernel
theorem dX12_macroField_192 : decode cX12_macroField 192 = .ok (.invokevirtual 210, 3) := by decide +kernel
theorem dX12_macroField_195 : decode cX12_macroField 195 = .ok (.aload_n 0, 1) := by decide +kernel
theorem dX12_macroField_196 : decode cX12_macroField 196 = .ok (.aload_n 0, 1) := by decide +kernel
theorem dX12_macroField_197 : decode cX12_macroField 197 = .ok (.getfield 9, 3) := by decide +kernel
theorem dX12_macroField_200 : decode cX12_macroField 200 = .ok (.sipush 147, 3) := by decide +kernel
theorem dX12_macroField_203 : decode cX12_macroField 203 = .ok (.iconst 2, 1) := by decide +kernel
theorem dX12_macroField_204 : decode cX12_macroField 204 = .ok (.aload_n 0, 1) := by decide +kernel
theorem dX12_macroField_205 : decode cX12_macroField 205 = .ok (.getfield 9, 3) := by decide +kernel
theorem dX12_macroField_208 : decode cX12_macroField 208 = .ok (.sipush 146, 3) := by decide +kernel
theorem dX12_macroField_211 : decode cX12_macroField 211 = .ok (.iaload, 1) := by decide +kernel
theorem dX12_macroField_212 : decode cX12_macroField 212 = .ok (.imul, 1) := by decide +kernel
theorem dX12_macroField_213 : decode cX12_macroField 213 = .ok (.iadd, 1) := by decide +kernel
theorem dX12_macroField_214 : decode cX12_macroField 214 = .ok (.iconst 1, 1) := by decide +kernel
theorem dX12_macroField_215 : decode cX12_macroField 215 = .ok (.iadd, 1) := by decide +kernel
theorem dX12_macroField_216 : decode cX12_macroField 216 = .ok (.iaload, 1) := by decide +kernel
theorem dX12_macroField_217 : decode cX12_macroField 217 = .ok (.i2l, 1) := by decide +kernel
theorem dX12_macroField_218 : decode cX12_macroField 218 = .ok (.invokevirtual 206, 3) := by decide +kernel
theorem dX12_macroField_221 : decode cX12_macroField 221 = .ok (.goto 13, 3) := by decide +kernel
theorem dX12_macroField_224 : decode cX12_macroField 224 = .ok (.iload_n 1, 1) := by decide +kernel
theorem dX12_macroField_225 : decode cX12_macroField 225 = .ok (.bipush 88, 2) := by decide +kernel
theorem dX12_macroField_227 : decode cX12_macroField 227 = .ok (.if_icmp .ne 7, 3) := by decide +kernel
theorem dX12_macroField_230 : decode cX12_macroField 230 = .ok (.aload_n 0, 1) := by decide +kernel
theorem dX12_macroField_231 : decode cX12_macroField 231 = .ok (.invokevirtual 435, 3) := by decide +kernel
theorem dX12_macroField_234 : decode cX12_macroField 234 = .ok (.return_, 1) := by decide +kernel
noncomputable def f_X12_macroField_224 (G : Int32 → Mm → Option (Unit × Mm)) (a1 : Int32) (T : Mm) : Option (Unit × Mm) :=
  if a1 = 88 then (bd (f_X12_macroAct G T) fun _ T1 =>
  some ((), T1))
  else (some ((), T))
set_option maxRecDepth 100000 in
set_option maxHeartbeats 4000000 in
theorem s_X12_macroField_224 {x : JX} {ad : Nat → Nat} {U : Mm} {S0 : Hp} {q : Unit × Mm} {D : Nat} {G : Int32 → Mm → Option (Unit × Mm)}  (hn9 : x_n x = 2) (C : CB x RX12 cX12_macroField) (M : CMr x (D + 3) none S0 ad false U eV q) (hD : 40 ≤ D) (hG : ∀ (i : Int32) (T : Mm) (q : Unit × Mm), G i T = some q → Cr D yX12_through cX12_through 8 none [.ref (ad 133), .int i] ad false U T eV q) (a1 : Int32) (T : Mm) (h : f_X12_macroField_224 G  a1 T = some q) : Jr x ad false U T [(0, .ref (ad 133)), (1, .int a1)] 224 [] := by
  unfold f_X12_macroField_224 at h
  refine r_iload_n C dX12_macroField_224 rfl 1 rfl ?_
  refine r_bipush (v := 88) C dX12_macroField_225 (by decide) ?_
  refine r_ic_ne (tgt := 234) C dX12_macroField_227 (by decide) h (fun h => ?_) (fun h => ?_)
  · exact r_vret C M dX12_macroField_234 h
  · refine r_aload_n C dX12_macroField_230 rfl 0 rfl ?_
    refine r_callVN C M h [] [] mlX12_435 mcX12_macroAct (fun q9 e9 => s_X12_macroAct hD (fun i9 T9 q9 e9 => hG i9 T9 q9 e9)   e9) kq_133 rfl (by omega) (by decide) rfl rfl (Nat.le_of_ble_eq_true rfl) dX12_macroField_231 (fun _ T1 h => ?_)
    exact r_vret C M dX12_macroField_234 h
noncomputable def f_X12_macroField_134 (G : Int32 → Mm → Option (Unit × Mm)) (a1 : Int32) (T : Mm) : Option (Unit × Mm) :=
  if a1 = 83 then (if (gI T 1251 133) = 1 then (if (gA T 134 146) ≤ 0 then (some ((), T))
  else (lb (uA T 134 146 (((gA T 134 146) - 1))) fun T1 =>
  ix ((147 : Int32) + ((2 : Int32) * (gA T1 134 146))) 192 fun j2 =>
  bd (f_X12_setX (((gA T1 134 j2)).toInt64) T1) fun _ T4 =>
  ix (((147 : Int32) + ((2 : Int32) * (gA T4 134 146))) + 1) 192 fun j5 =>
  bd (f_X12_setY (((gA T4 134 j5)).toInt64) T4) fun _ T7 =>
  some ((), T7)))
  else (f_X12_macroField_224 G a1 T))
  else (f_X12_macroField_224 G a1 T)
set_option maxRecDepth 100000 in
set_option maxHeartbeats 4000000 in
theorem s_X12_macroField_134 {x : JX} {ad : Nat → Nat} {U : Mm} {S0 : Hp} {q : Unit × Mm} {D : Nat} {G : Int32 → Mm → Option (Unit × Mm)}  (hn9 : x_n x = 2) (C : CB x RX12 cX12_macroField) (M : CMr x (D + 3) none S0 ad false U eV q) (hD : 40 ≤ D) (hG : ∀ (i : Int32) (T : Mm) (q : Unit × Mm), G i T = some q → Cr D yX12_through cX12_through 8 none [.ref (ad 133), .int i] ad false U T eV q) (a1 : Int32) (T : Mm) (h : f_X12_macroField_134 G  a1 T = some q) : Jr x ad false U T [(0, .ref (ad 133)), (1, .int a1)] 134 [] := by
  unfold f_X12_macroField_134 at h
  refine r_iload_n C dX12_macroField_134 rfl 1 rfl ?_
  refine r_bipush (v := 83) C dX12_macroField_135 (by decide) ?_
  refine r_ic_ne (tgt := 224) C dX12_macroField_137 (by decide) h (fun h => ?_) (fun h => ?_)
  · exact s_X12_macroField_224 hn9 C M hD hG  a1 T h
  · refine r_aload_n C dX12_macroField_140 rfl 0 rfl ?_
    refine r_geti (f := 1251) C flX12_379 dX12_macroField_141 kq_133 (by decide) (by decide) rfl ?_
    refine r_iconst (v := 1) C dX12_macroField_144 (by decide) ?_
    refine r_ic_ne (tgt := 224) C dX12_macroField_145 (by decide) h (fun h => ?_) (fun h => ?_)
    · exact s_X12_macroField_224 hn9 C M hD hG  a1 T h
    · refine r_aload_n C dX12_macroField_148 rfl 0 rfl ?_
      refine r_getp (f := 1200) (j := 134) C flX12_9 dX12_macroField_149 kq_133 (by decide) rfl (fun W => pt_1200 kq_133 W) ?_
      refine r_sipush (v := 146) C dX12_macroField_152 (by decide) ?_
      refine r_ialdc (n := 192) C 146 dX12_macroField_155 kq_134 lq_134 (vp_lit (by decide)) (by decide) ?_
      refine r_if_le (tgt := 234) C dX12_macroField_156 (by decide) h (fun h => ?_) (fun h => ?_)
      · exact r_vret C M dX12_macroField_234 h
      · refine r_aload_n C dX12_macroField_159 rfl 0 rfl ?_
        refine r_getp (f := 1200) (j := 134) C flX12_9 dX12_macroField_160 kq_133 (by decide) rfl (fun W => pt_1200 kq_133 W) ?_
        refine r_sipush (v := 146) C dX12_macroField_163 (by decide) ?_
        refine r_dup2 C dX12_macroField_166 rfl rfl ?_
        refine r_ialdc (n := 192) C 146 dX12_macroField_167 kq_134 lq_134 (vp_lit (by decide)) (by decide) ?_
        show Jr _ _ _ _ _ _ 168 _
        refine r_iconst (v := 1) C dX12_macroField_168 (by decide) ?_
        refine r_isub C dX12_macroField_169 rfl ?_
        refine r_iastc (n := 192) C 146 dX12_macroField_170 kq_134 lq_134 (vp_lit (by decide)) (by decide) h (fun T1 h => ?_)
        refine r_aload_n C dX12_macroField_171 rfl 0 rfl ?_
        refine r_aload_n C dX12_macroField_172 rfl 0 rfl ?_
        refine r_getp (f := 1200) (j := 134) C flX12_9 dX12_macroField_173 kq_133 (by decide) rfl (fun W => pt_1200 kq_133 W) ?_
        show Jr _ _ _ _ _ _ 176 _
        refine r_sipush (v := 147) C dX12_macroField_176 (by decide) ?_
        refine r_iconst (v := 2) C dX12_macroField_179 (by decide) ?_
        refine r_aload_n C dX12_macroField_180 rfl 0 rfl ?_
        refine r_getp (f := 1200) (j := 134) C flX12_9 dX12_macroField_181 kq_133 (by decide) rfl (fun W => pt_1200 kq_133 W) ?_
        refine r_sipush (v := 146) C dX12_macroField_184 (by decide) ?_
        refine r_ialdc (n := 192) C 146 dX12_macroField_187 kq_134 lq_134 (vp_lit (by decide)) (by decide) ?_
        show Jr _ _ _ _ _ _ 188 _
        refine r_imul C dX12_macroField_188 rfl ?_
        refine r_iadd C dX12_macroField_189 rfl ?_
        refine r_iald (n := 192) C dX12_macroField_190 kq_134 lq_134 h (fun j2 hj3 h => ?_)
        refine r_i2l C dX12_macroField_191 rfl ?_
        refine r_callVN C M h [.long (((gA T1 134 j2)).toInt64)] [] mlX12_210 mcX12_setX (fun q9 e9 => s_X12_setX (((gA T1 134 j2)).toInt64)  e9) kq_133 rfl (by omega) (by decide) rfl rfl (Nat.le_of_ble_eq_true rfl) dX12_macroField_192 (fun _ T4 h => ?_)
        refine r_aload_n C dX12_macroField_195 rfl 0 rfl ?_
        show Jr _ _ _ _ _ _ 196 _
        refine r_aload_n C dX12_macroField_196 rfl 0 rfl ?_
        refine r_getp (f := 1200) (j := 134) C flX12_9 dX12_macroField_197 kq_133 (by decide) rfl (fun W => pt_1200 kq_133 W) ?_
        refine r_sipush (v := 147) C dX12_macroField_200 (by decide) ?_
        refine r_iconst (v := 2) C dX12_macroField_203 (by decide) ?_
        refine r_aload_n C dX12_macroField_204 rfl 0 rfl ?_
        refine r_getp (f := 1200) (j := 134) C flX12_9 dX12_macroField_205 kq_133 (by decide) rfl (fun W => pt_1200 kq_133 W) ?_
        show Jr _ _ _ _ _ _ 208 _
        refine r_sipush (v := 146) C dX12_macroField_208 (by decide) ?_
        refine r_ialdc (n := 192) C 146 dX12_macroField_211 kq_134 lq_134 (vp_lit (by decide)) (by decide) ?_
        refine r_imul C dX12_macroField_212 rfl ?_
        refine r_iadd C dX12_macroField_213 rfl ?_
        refine r_iconst (v := 1) C dX12_macroField_214 (by decide) ?_
        refine r_iadd C dX12_macroField_215 rfl ?_
        show Jr _ _ _ _ _ _ 216 _
        refine r_iald (n := 192) C dX12_macroField_216 kq_134 lq_134 h (fun j5 hj6 h => ?_)
        refine r_i2l C dX12_macroField_217 rfl ?_
        refine r_callVN C M h [.long (((gA T4 134 j5)).toInt64)] [] mlX12_206 mcX12_setY (fun q9 e9 => s_X12_setY (((gA T4 134 j5)).toInt64)  e9) kq_133 rfl (by omega) (by decide) rfl rfl (Nat.le_of_ble_eq_true rfl) dX12_macroField_218 (fun _ T7 h => ?_)
        refine r_goto (tgt := 234) C dX12_macroField_221 (by decide) ?_
        exact r_vret C M dX12_macroField_234 h
noncomputable def f_X12_macroField_37 (G : Int32 → Mm → Option (Unit × Mm)) (a1 : Int32) (T : Mm) : Option (Unit × Mm) :=
  if a1 = 83 then (if (gI T 1251 133) = 0 then (if 20 ≤ (gA T 134 146) then (some ((), T))
  else (ix ((147 : Int32) + ((2 : Int32) * (gA T 134 146))) 192 fun j1 => lb (uA T 134 j1 ((gA T 134 189))) fun T3 =>
  ix (((147 : Int32) + ((2 : Int32) * (gA T3 134 146))) + 1) 192 fun j4 => lb (uA T3 134 j4 ((gA T3 134 190))) fun T6 =>
  lb (uA T6 134 146 (((gA T6 134 146) + 1))) fun T7 =>
  some ((), T7)))
  else (f_X12_macroField_134 G a1 T))
  else (f_X12_macroField_134 G a1 T)
set_option maxRecDepth 100000 in
set_option maxHeartbeats 4000000 in
theorem s_X12_macroField_37 {x : JX} {ad : Nat → Nat} {U : Mm} {S0 : Hp} {q : Unit × Mm} {D : Nat} {G : Int32 → Mm → Option (Unit × Mm)}  (hn9 : x_n x = 2) (C : CB x RX12 cX12_macroField) (M : CMr x (D + 3) none S0 ad false U eV q) (hD : 40 ≤ D) (hG : ∀ (i : Int32) (T : Mm) (q : Unit × Mm), G i T = some q → Cr D yX12_through cX12_through 8 none [.ref (ad 133), .int i] ad false U T eV q) (a1 : Int32) (T : Mm) (h : f_X12_macroField_37 G  a1 T = some q) : Jr x ad false U T [(0, .ref (ad 133)), (1, .int a1)] 37 [] := by
  unfold f_X12_macroField_37 at h
  refine r_iload_n C dX12_macroField_37 rfl 1 rfl ?_
  refine r_bipush (v := 83) C dX12_macroField_38 (by decide) ?_
  refine r_ic_ne (tgt := 134) C dX12_macroField_40 (by decide) h (fun h => ?_) (fun h => ?_)
  · exact s_X12_macroField_134 hn9 C M hD hG  a1 T h
  · refine r_aload_n C dX12_macroField_43 rfl 0 rfl ?_
    refine r_geti (f := 1251) C flX12_379 dX12_macroField_44 kq_133 (by decide) (by decide) rfl ?_
    refine r_if_ne (tgt := 134) C dX12_macroField_47 (by decide) h (fun h => ?_) (fun h => ?_)
    · exact s_X12_macroField_134 hn9 C M hD hG  a1 T h
    · refine r_aload_n C dX12_macroField_50 rfl 0 rfl ?_
      refine r_getp (f := 1200) (j := 134) C flX12_9 dX12_macroField_51 kq_133 (by decide) rfl (fun W => pt_1200 kq_133 W) ?_
      refine r_sipush (v := 146) C dX12_macroField_54 (by decide) ?_
      refine r_ialdc (n := 192) C 146 dX12_macroField_57 kq_134 lq_134 (vp_lit (by decide)) (by decide) ?_
      refine r_bipush (v := 20) C dX12_macroField_58 (by decide) ?_
      show Jr _ _ _ _ _ _ 60 _
      refine r_ic_ge (tgt := 234) C dX12_macroField_60 (by decide) h (fun h => ?_) (fun h => ?_)
      · exact r_vret C M dX12_macroField_234 h
      · refine r_aload_n C dX12_macroField_63 rfl 0 rfl ?_
        refine r_getp (f := 1200) (j := 134) C flX12_9 dX12_macroField_64 kq_133 (by decide) rfl (fun W => pt_1200 kq_133 W) ?_
        refine r_sipush (v := 147) C dX12_macroField_67 (by decide) ?_
        refine r_iconst (v := 2) C dX12_macroField_70 (by decide) ?_
        refine r_aload_n C dX12_macroField_71 rfl 0 rfl ?_
        show Jr _ _ _ _ _ _ 72 _
        refine r_getp (f := 1200) (j := 134) C flX12_9 dX12_macroField_72 kq_133 (by decide) rfl (fun W => pt_1200 kq_133 W) ?_
        refine r_sipush (v := 146) C dX12_macroField_75 (by decide) ?_
        refine r_ialdc (n := 192) C 146 dX12_macroField_78 kq_134 lq_134 (vp_lit (by decide)) (by decide) ?_
        refine r_imul C dX12_macroField_79 rfl ?_
        refine r_iadd C dX12_macroField_80 rfl ?_
        refine r_aload_n C dX12_macroField_81 rfl 0 rfl ?_
        show Jr _ _ _ _ _ _ 82 _
        refine r_getp (f := 1200) (j := 134) C flX12_9 dX12_macroField_82 kq_133 (by decide) rfl (fun W => pt_1200 kq_133 W) ?_
        refine r_sipush (v := 189) C dX12_macroField_85 (by decide) ?_
        refine r_ialdc (n := 192) C 189 dX12_macroField_88 kq_134 lq_134 (vp_lit (by decide)) (by decide) ?_
        refine r_iast (n := 192) C dX12_macroField_89 kq_134 lq_134 h (fun j1 T3 hj2 h => ?_)
        refine r_aload_n C dX12_macroField_90 rfl 0 rfl ?_
        refine r_getp (f := 1200) (j := 134) C flX12_9 dX12_macroField_91 kq_133 (by decide) rfl (fun W => pt_1200 kq_133 W) ?_
        show Jr _ _ _ _ _ _ 94 _
        refine r_sipush (v := 147) C dX12_macroField_94 (by decide) ?_
        refine r_iconst (v := 2) C dX12_macroField_97 (by decide) ?_
        refine r_aload_n C dX12_macroField_98 rfl 0 rfl ?_
        refine r_getp (f := 1200) (j := 134) C flX12_9 dX12_macroField_99 kq_133 (by decide) rfl (fun W => pt_1200 kq_133 W) ?_
        refine r_sipush (v := 146) C dX12_macroField_102 (by decide) ?_
        refine r_ialdc (n := 192) C 146 dX12_macroField_105 kq_134 lq_134 (vp_lit (by decide)) (by decide) ?_
        show Jr _ _ _ _ _ _ 106 _
        refine r_imul C dX12_macroField_106 rfl ?_
        refine r_iadd C dX12_macroField_107 rfl ?_
        refine r_iconst (v := 1) C dX12_macroField_108 (by decide) ?_
        refine r_iadd C dX12_macroField_109 rfl ?_
        refine r_aload_n C dX12_macroField_110 rfl 0 rfl ?_
        refine r_getp (f := 1200) (j := 134) C flX12_9 dX12_macroField_111 kq_133 (by decide) rfl (fun W => pt_1200 kq_133 W) ?_
        show Jr _ _ _ _ _ _ 114 _
        refine r_sipush (v := 190) C dX12_macroField_114 (by decide) ?_
        refine r_ialdc (n := 192) C 190 dX12_macroField_117 kq_134 lq_134 (vp_lit (by decide)) (by decide) ?_
        refine r_iast (n := 192) C dX12_macroField_118 kq_134 lq_134 h (fun j4 T6 hj5 h => ?_)
        refine r_aload_n C dX12_macroField_119 rfl 0 rfl ?_
        refine r_getp (f := 1200) (j := 134) C flX12_9 dX12_macroField_120 kq_133 (by decide) rfl (fun W => pt_1200 kq_133 W) ?_
        refine r_sipush (v := 146) C dX12_macroField_123 (by decide) ?_
        show Jr _ _ _ _ _ _ 126 _
        refine r_dup2 C dX12_macroField_126 rfl rfl ?_
        refine r_ialdc (n := 192) C 146 dX12_macroField_127 kq_134 lq_134 (vp_lit (by decide)) (by decide) ?_
        refine r_iconst (v := 1) C dX12_macroField_128 (by decide) ?_
        refine r_iadd C dX12_macroField_129 rfl ?_
        refine r_iastc (n := 192) C 146 dX12_macroField_130 kq_134 lq_134 (vp_lit (by decide)) (by decide) h (fun T7 h => ?_)
        refine r_goto (tgt := 234) C dX12_macroField_131 (by decide) ?_
        show Jr _ _ _ _ _ _ 234 _
        exact r_vret C M dX12_macroField_234 h
noncomputable def f_X12_macroField (G : Int32 → Mm → Option (Unit × Mm)) (p1 : Int32) (T : Mm) : Option (Unit × Mm) :=
  if p1 = 89 then (if (gI T 1251 133) < 0 then (f_X12_macroField_37 G p1 T)
  else (if 15 < (gI T 1251 133) then (f_X12_macroField_37 G p1 T)
  else (lb (uA T 134 145 ((gI T 1251 133))) fun T1 =>
  some ((), T1))))
  else (f_X12_macroField_37 G p1 T)
set_option maxRecDepth 100000 in
set_option maxHeartbeats 4000000 in
theorem s_X12_macroField {ad : Nat → Nat} {U T : Mm} {q : Unit × Mm} {D : Nat} {G : Int32 → Mm → Option (Unit × Mm)}  (hD : 40 ≤ D) (hG : ∀ (i : Int32) (T : Mm) (q : Unit × Mm), G i T = some q → Cr D yX12_through cX12_through 8 none [.ref (ad 133), .int i] ad false U T eV q) (p1 : Int32) (h : f_X12_macroField G p1 T = some q) : Cr (D + 3) yX12_macroField cX12_macroField 2 none [.ref (ad 133), .int p1] ad false U T eV q := by
  refine cr_of (by decide) (Nat.le_of_ble_eq_true rfl) fun x S0 hn9 C M => ?_
  have C : CB x RX12 cX12_macroField := C
  refine Jr.eq (lv' := [(0, .ref (ad 133)), (1, .int p1)]) (st' := []) rfl rfl ?_
  unfold f_X12_macroField at h
  refine r_iload_n C dX12_macroField_0 rfl 1 rfl ?_
  refine r_bipush (v := 89) C dX12_macroField_1 (by decide) ?_
  refine r_ic_ne (tgt := 37) C dX12_macroField_3 (by decide) h (fun h => ?_) (fun h => ?_)
  · exact s_X12_macroField_37 hn9 C M hD hG  p1 T h
  · refine r_aload_n C dX12_macroField_6 rfl 0 rfl ?_
    refine r_geti (f := 1251) C flX12_379 dX12_macroField_7 kq_133 (by decide) (by decide) rfl ?_
    refine r_if_lt (tgt := 37) C dX12_macroField_10 (by decide) h (fun h => ?_) (fun h => ?_)
    · exact s_X12_macroField_37 hn9 C M hD hG  p1 T h
    · refine r_aload_n C dX12_macroField_13 rfl 0 rfl ?_
      refine r_geti (f := 1251) C flX12_379 dX12_macroField_14 kq_133 (by decide) (by decide) rfl ?_
      refine r_bipush (v := 15) C dX12_macroField_17 (by decide) ?_
      refine r_ic_gt (tgt := 37) C dX12_macroField_19 (by decide) h (fun h => ?_) (fun h => ?_)
      · exact s_X12_macroField_37 hn9 C M hD hG  p1 T h
      · refine r_aload_n C dX12_macroField_22 rfl 0 rfl ?_
        refine r_getp (f := 1200) (j := 134) C flX12_9 dX12_macroField_23 kq_133 (by decide) rfl (fun W => pt_1200 kq_133 W) ?_
        refine r_sipush (v := 145) C dX12_macroField_26 (by decide) ?_
        refine r_aload_n C dX12_macroField_29 rfl 0 rfl ?_
        refine r_geti (f := 1251) C flX12_379 dX12_macroField_30 kq_133 (by decide) (by decide) rfl ?_
        show Jr _ _ _ _ _ _ 33 _
        refine r_iastc (n := 192) C 145 dX12_macroField_33 kq_134 lq_134 (vp_lit (by decide)) (by decide) h (fun T1 h => ?_)
        refine r_goto (tgt := 234) C dX12_macroField_34 (by decide) ?_
        exact r_vret C M dX12_macroField_234 h
theorem dX12_dotField_0 : decode cX12_dotField 0 = .ok (.iload_n 1, 1) := by decide +kernel
theorem dX12_dotField_1 : decode cX12_dotField 1 = .ok (.bipush 88, 2) := by decide +kernel
theorem dX12_dotField_3 : decode cX12_dotField 3 = .ok (.if_icmp .ne 38, 3) := by decide +kernel
theorem dX12_dotField_6 : decode cX12_dotField 6 = .ok (.aload_n 0, 1) := by decide +kernel
theorem dX12_dotField_7 : decode cX12_dotField 7 = .ok (.aload_n 0, 1) := by decide +kernel
theorem dX12_dotField_8 : decode cX12_dotField 8 = .ok (.ldc2_w 204, 3) := by decide +kernel
theorem dX12_dotField_11 : decode cX12_dotField 11 = .ok (.invokevirtual 404, 3) := by decide +kernel
theorem dX12_dotField_14 : decode cX12_dotField 14 = .ok (.aload_n 0, 1) := by decide +kernel
theorem dX12_dotField_15 : decode cX12_dotField 15 = .ok (.getfield 376, 3) := by decide +kernel
theorem dX12_dotField_18 : decode cX12_dotField 18 = .ok (.ifCond .eq 14, 3) := by decide +kernel
theorem dX12_dotField_21 : decode cX12_dotField 21 = .ok (.aload_n 0, 1) := by decide +kernel
theorem dX12_dotField_22 : decode cX12_dotField 22 = .ok (.getfield 9, 3) := by decide +kernel
theorem dX12_dotField_25 : decode cX12_dotField 25 = .ok (.sipush 189, 3) := by decide +kernel
theorem dX12_dotField_28 : decode cX12_dotField 28 = .ok (.iaload, 1) := by decide +kernel
theorem dX12_dotField_29 : decode cX12_dotField 29 = .ok (.goto 4, 3) := by decide +kernel
theorem dX12_dotField_32 : decode cX12_dotField 32 = .ok (.iconst 0, 1) := by decide +kernel
theorem dX12_dotField_33 : decode cX12_dotField 33 = .ok (.i2l, 1) := by decide +kernel
theorem dX12_dotField_34 : decode cX12_dotField 34 = .ok (.ladd, 1) := by decide +kernel
theorem dX12_dotField_35 : decode cX12_dotField 35 = .ok (.invokevirtual 210, 3) := by decide +kernel
theorem dX12_dotField_38 : decode cX12_dotField 38 = .ok (.goto 86, 3) := by decide +kernel
theorem dX12_dotField_41 : decode cX12_dotField 41 = .ok (.iload_n 1, 1) := by decide +kernel
theorem dX12_dotField_42 : decode cX12_dotField 42 = .ok (.bipush 89, 2) := by decide +kernel
theorem dX12_dotField_44 : decode cX12_dotField 44 = .ok (.if_icmp .ne 38, 3) := by decide +kernel
theorem dX12_dotField_47 : decode cX12_dotField 47 = .ok (.aload_n 0, 1) := by decide +kernel
theorem dX12_dotField_48 : decode cX12_dotField 48 = .ok (.aload_n 0, 1) := by decide +kernel
theorem dX12_dotField_49 : decode cX12_dotField 49 = .ok (.ldc2_w 204, 3) := by decide +kernel
theorem dX12_dotField_52 : decode cX12_dotField 52 = .ok (.invokevirtual 404, 3) := by decide +kernel
theorem dX12_dotField_55 : decode cX12_dotField 55 = .ok (.aload_n 0, 1) := by decide +kernel
theorem dX12_dotField_56 : decode cX12_dotField 56 = .ok (.getfield 376, 3) := by decide +kernel
theorem dX12_dotField_59 : decode cX12_dotField 59 = .ok (.ifCond .eq 14, 3) := by decide +kernel
theorem dX12_dotField_62 : decode cX12_dotField 62 = .ok (.aload_n 0, 1) := by decide +kernel
theorem dX12_dotField_63 : decode cX12_dotField 63 = .ok (.getfield 9, 3) := by decide +kernel
theorem dX12_dotField_66 : decode cX12_dotField 66 = .ok (.sipush 190, 3) := by decide +kernel
theorem dX12_dotField_69 : decode cX12_dotField 69 = .ok (.iaload, 1) := by decide +kernel
theorem dX12_dotField_70 : decode cX12_dotField 70 = .ok (.goto 4, 3) := by decide +kernel
theorem dX12_dotField_73 : decode cX12_dotField 73 = .ok (.iconst 0, 1) := by decide +kernel
theorem dX12_dotField_74 : decode cX12_dotField 74 = .ok (.i2l, 1) := by decide +kernel
theorem dX12_dotField_75 : decode cX12_dotField 75 = .ok (.ladd, 1) := by decide +kernel
theorem dX12_dotField_76 : decode cX12_dotField 76 = .ok (.invokevirtual 206, 3) := by decide +kernel
theorem dX12_dotField_79 : decode cX12_dotField 79 = .ok (.goto 45, 3) := by decide +kernel
theorem dX12_dotField_82 : decode cX12_dotField 82 = .ok (.iload_n 1, 1) := by decide +kernel
theorem dX12_dotField_83 : decode cX12_dotField 83 = .ok (.bipush 82, 2) := by decide +kernel
theorem dX12_dotField_85 : decode cX12_dotField 85 = .ok (.if_icmp .ne 39, 3) := by decide +kernel
theorem dX12_dotField_88 : decode cX12_dotField 88 = .ok (.aload_n 0, 1) := by decide +kernel
theorem dX12_dotField_89 : decode cX12_dotField 89 = .ok (.getfield 9, 3) := by decide +kernel
theorem dX12_dotField_92 : decode cX12_dotField 92 = .ok (.bipush 51, 2) := by decide +kernel
theorem dX12_dotField_94 : decode cX12_dotField 94 = .ok (.aload_n 0, 1) := by decide +kernel
theorem dX12_dotField_95 : decode cX12_dotField 95 = .ok (.getfield 9, 3) := by decide +kernel
theorem dX12_dotField_98 : decode cX12_dotField 98 = .ok (.sipush 189, 3) := by decide +kernel
theorem dX12_dotField_101 : decode cX12_dotField 101 = .ok (.iaload, 1) := by decide +kernel
theorem dX12_dotField_102 : decode cX12_dotField 102 = .ok (.bipush 96, 2) := by decide +kernel
theorem dX12_dotField_104 : decode cX12_dotField 104 = .ok (.idiv, 1) := by decide +kernel
theorem dX12_dotField_105 : decode cX12_dotField 105 = .ok (.iastore, 1) := by decide +kernel
theorem dX12_dotField_106 : decode cX12_dotField 106 = .ok (.aload_n 0, 1) := by decide +kernel
theorem dX12_dotField_107 : decode cX12_dotField 107 = .ok (.getfield 9, 3) := by decide +kernel
theorem dX12_dotField_110 : decode cX12_dotField 110 = .ok (.bipush 52, 2) := by decide +kernel
theorem dX12_dotField_112 : decode cX12_dotField 112 = .ok (.aload_n 0, 1) := by decide +kernel
theorem dX12_dotField_113 : decode cX12_dotField 113 = .ok (.getfield 9, 3) := by decide +kernel
theorem dX12_dotField_116 : decode cX12_dotField 116 = .ok (.sipush 190, 3) := by decide +kernel
theorem dX12_dotField_119 : decode cX12_dotField 119 = .ok (.iaload, 1) := by decide +kernel
theorem dX12_dotField_120 : decode cX12_dotField 120 = .ok (.bipush 96, 2) := by decide +kernel
theorem dX12_dotField_122 : decode cX12_dotField 122 = .ok (.idiv, 1) := by decide +kernel
theorem dX12_dotField_123 : decode cX12_dotField 123 = .ok (.iastore, 1) := by decide +kernel
theorem dX12_dotField_124 : decode cX12_dotField 124 = .ok (.return_, 1) := by decide +kernel
noncomputable def f_X12_dotField (p1 : Int32) (T : Mm) : Option (Unit × Mm) :=
  if p1 = 88 then (bd (f_X12_units 96 T) fun v7 T8 =>
  if (gI T8 1254 133) = 0 then (bd (f_X12_setX (v7 + 0) T8) fun _ T9 =>
  some ((), T9))
  else (bd (f_X12_setX (v7 + (((gA T8 134 189)).toInt64)) T8) fun _ T10 =>
  some ((), T10)))
  else (if p1 = 89 then (bd (f_X12_units 96 T) fun v3 T4 =>
  if (gI T4 1254 133) = 0 then (bd (f_X12_setY (v3 + 0) T4) fun _ T5 =>
  some ((), T5))
  else (bd (f_X12_setY (v3 + (((gA T4 134 190)).toInt64)) T4) fun _ T6 =>
  some ((), T6)))
  else (if p1 = 82 then (lb (uA T 134 51 (((gA T 134 189) / 96))) fun T1 =>
  lb (uA T1 134 52 (((gA T1 134 190) / 96))) fun T2 =>
  some ((), T2))
  else (some ((), T))))
set_option maxRecDepth 100000 in
set_option maxHeartbeats 4000000 in
theorem s_X12_dotField {ad : Nat → Nat} {U T : Mm} {q : Unit × Mm}  (p1 : Int32) (h : f_X12_dotField p1 T = some q) : Cr 4 yX12_dotField cX12_dotField 2 none [.ref (ad 133), .int p1] ad false U T eV q := by
  refine cr_of (by decide) (Nat.le_of_ble_eq_true rfl) fun x S0 hn9 C M => ?_
  have C : CB x RX12 cX12_dotField := C
  refine Jr.eq (lv' := [(0, .ref (ad 133)), (1, .int p1)]) (st' := []) rfl rfl ?_
  unfold f_X12_dotField at h
  refine r_iload_n C dX12_dotField_0 rfl 1 rfl ?_
  refine r_bipush (v := 88) C dX12_dotField_1 (by decide) ?_
  refine r_ic_ne (tgt := 41) C dX12_dotField_3 (by decide) h (fun h => ?_) (fun h => ?_)
  · refine r_iload_n C dX12_dotField_41 rfl 1 rfl ?_
    refine r_bipush (v := 89) C dX12_dotField_42 (by decide) ?_
    refine r_ic_ne (tgt := 82) C dX12_dotField_44 (by decide) h (fun h => ?_) (fun h => ?_)
    · refine r_iload_n C dX12_dotField_82 rfl 1 rfl ?_
      refine r_bipush (v := 82) C dX12_dotField_83 (by decide) ?_
      refine r_ic_ne (tgt := 124) C dX12_dotField_85 (by decide) h (fun h => ?_) (fun h => ?_)
      · exact r_vret C M dX12_dotField_124 h
      · refine r_aload_n C dX12_dotField_88 rfl 0 rfl ?_
        refine r_getp (f := 1200) (j := 134) C flX12_9 dX12_dotField_89 kq_133 (by decide) rfl (fun W => pt_1200 kq_133 W) ?_
        refine r_bipush (v := 51) C dX12_dotField_92 (by decide) ?_
        refine r_aload_n C dX12_dotField_94 rfl 0 rfl ?_
        refine r_getp (f := 1200) (j := 134) C flX12_9 dX12_dotField_95 kq_133 (by decide) rfl (fun W => pt_1200 kq_133 W) ?_
        show Jr _ _ _ _ _ _ 98 _
        refine r_sipush (v := 189) C dX12_dotField_98 (by decide) ?_
        refine r_ialdc (n := 192) C 189 dX12_dotField_101 kq_134 lq_134 (vp_lit (by decide)) (by decide) ?_
        refine r_bipush (v := 96) C dX12_dotField_102 (by decide) ?_
        refine r_idiv C dX12_dotField_104 (by decide) rfl ?_
        refine r_iastc (n := 192) C 51 dX12_dotField_105 kq_134 lq_134 (vp_lit (by decide)) (by decide) h (fun T1 h => ?_)
        refine r_aload_n C dX12_dotField_106 rfl 0 rfl ?_
        show Jr _ _ _ _ _ _ 107 _
        refine r_getp (f := 1200) (j := 134) C flX12_9 dX12_dotField_107 kq_133 (by decide) rfl (fun W => pt_1200 kq_133 W) ?_
        refine r_bipush (v := 52) C dX12_dotField_110 (by decide) ?_
        refine r_aload_n C dX12_dotField_112 rfl 0 rfl ?_
        refine r_getp (f := 1200) (j := 134) C flX12_9 dX12_dotField_113 kq_133 (by decide) rfl (fun W => pt_1200 kq_133 W) ?_
        refine r_sipush (v := 190) C dX12_dotField_116 (by decide) ?_
        refine r_ialdc (n := 192) C 190 dX12_dotField_119 kq_134 lq_134 (vp_lit (by decide)) (by decide) ?_
        show Jr _ _ _ _ _ _ 120 _
        refine r_bipush (v := 96) C dX12_dotField_120 (by decide) ?_
        refine r_idiv C dX12_dotField_122 (by decide) rfl ?_
        refine r_iastc (n := 192) C 52 dX12_dotField_123 kq_134 lq_134 (vp_lit (by decide)) (by decide) h (fun T2 h => ?_)
        exact r_vret C M dX12_dotField_124 h
    · refine r_aload_n C dX12_dotField_47 rfl 0 rfl ?_
      refine r_aload_n C dX12_dotField_48 rfl 0 rfl ?_
      refine r_ldc2 (v := 96) C dX12_dotField_49 kcX12_204 ?_
      refine r_callVJ C M h [.long 96] [.ref (ad 133)] mlX12_404 mcX12_units (fun q9 e9 => s_X12_units 96  e9) kq_133 rfl (by decide) (by decide) rfl rfl (Nat.le_of_ble_eq_true rfl) dX12_dotField_52 (fun v3 T4 h => ?_)
      refine r_aload_n C dX12_dotField_55 rfl 0 rfl ?_
      show Jr _ _ _ _ _ _ 56 _
      refine r_geti (f := 1254) C flX12_376 dX12_dotField_56 kq_133 (by decide) (by decide) rfl ?_
      refine r_if_eq (tgt := 73) C dX12_dotField_59 (by decide) h (fun h => ?_) (fun h => ?_)
      · refine r_iconst (v := 0) C dX12_dotField_73 (by decide) ?_
        refine r_i2l (v := 0) C dX12_dotField_74 (by decide) ?_
        refine r_ladd C dX12_dotField_75 rfl ?_
        refine r_callVN C M h [.long (v3 + 0)] [] mlX12_206 mcX12_setY (fun q9 e9 => s_X12_setY (v3 + 0)  e9) kq_133 rfl (by decide) (by decide) rfl rfl (Nat.le_of_ble_eq_true rfl) dX12_dotField_76 (fun _ T5 h => ?_)
        refine r_goto (tgt := 124) C dX12_dotField_79 (by decide) ?_
        show Jr _ _ _ _ _ _ 124 _
        exact r_vret C M dX12_dotField_124 h
      · refine r_aload_n C dX12_dotField_62 rfl 0 rfl ?_
        refine r_getp (f := 1200) (j := 134) C flX12_9 dX12_dotField_63 kq_133 (by decide) rfl (fun W => pt_1200 kq_133 W) ?_
        refine r_sipush (v := 190) C dX12_dotField_66 (by decide) ?_
        refine r_ialdc (n := 192) C 190 dX12_dotField_69 kq_134 lq_134 (vp_lit (by decide)) (by decide) ?_
        refine r_goto (tgt := 74) C dX12_dotField_70 (by decide) ?_
        show Jr _ _ _ _ _ _ 74 _
        refine r_i2l C dX12_dotField_74 rfl ?_
        refine r_ladd C dX12_dotField_75 rfl ?_
        refine r_callVN C M h [.long (v3 + (((gA T4 134 190)).toInt64))] [] mlX12_206 mcX12_setY (fun q9 e9 => s_X12_setY (v3 + (((gA T4 134 190)).toInt64))  e9) kq_133 rfl (by decide) (by decide) rfl rfl (Nat.le_of_ble_eq_true rfl) dX12_dotField_76 (fun _ T6 h => ?_)
        refine r_goto (tgt := 124) C dX12_dotField_79 (by decide) ?_
        exact r_vret C M dX12_dotField_124 h
  · refine r_aload_n C dX12_dotField_6 rfl 0 rfl ?_
    refine r_aload_n C dX12_dotField_7 rfl 0 rfl ?_
    refine r_ldc2 (v := 96) C dX12_dotField_8 kcX12_204 ?_
    refine r_callVJ C M h [.long 96] [.ref (ad 133)] mlX12_404 mcX12_units (fun q9 e9 => s_X12_units 96  e9) kq_133 rfl (by decide) (by decide) rfl rfl (Nat.le_of_ble_eq_true rfl) dX12_dotField_11 (fun v7 T8 h => ?_)
    refine r_aload_n C dX12_dotField_14 rfl 0 rfl ?_
    show Jr _ _ _ _ _ _ 15 _
    refine r_geti (f := 1254) C flX12_376 dX12_dotField_15 kq_133 (by decide) (by decide) rfl ?_
    refine r_if_eq (tgt := 32) C dX12_dotField_18 (by decide) h (fun h => ?_) (fun h => ?_)
    · refine r_iconst (v := 0) C dX12_dotField_32 (by decide) ?_
      refine r_i2l (v := 0) C dX12_dotField_33 (by decide) ?_
      refine r_ladd C dX12_dotField_34 rfl ?_
      refine r_callVN C M h [.long (v7 + 0)] [] mlX12_210 mcX12_setX (fun q9 e9 => s_X12_setX (v7 + 0)  e9) kq_133 rfl (by decide) (by decide) rfl rfl (Nat.le_of_ble_eq_true rfl) dX12_dotField_35 (fun _ T9 h => ?_)
      refine r_goto (tgt := 124) C dX12_dotField_38 (by decide) ?_
      show Jr _ _ _ _ _ _ 124 _
      exact r_vret C M dX12_dotField_124 h
    · refine r_aload_n C dX12_dotField_21 rfl 0 rfl ?_
      refine r_getp (f := 1200) (j := 134) C flX12_9 dX12_dotField_22 kq_133 (by decide) rfl (fun W => pt_1200 kq_133 W) ?_
      refine r_sipush (v := 189) C dX12_dotField_25 (by decide) ?_
      refine r_ialdc (n := 192) C 189 dX12_dotField_28 kq_134 lq_134 (vp_lit (by decide)) (by decide) ?_
      refine r_goto (tgt := 33) C dX12_dotField_29 (by decide) ?_
      show Jr _ _ _ _ _ _ 33 _
      refine r_i2l C dX12_dotField_33 rfl ?_
      refine r_ladd C dX12_dotField_34 rfl ?_
      refine r_callVN C M h [.long (v7 + (((gA T8 134 189)).toInt64))] [] mlX12_210 mcX12_setX (fun q9 e9 => s_X12_setX (v7 + (((gA T8 134 189)).toInt64))  e9) kq_133 rfl (by decide) (by decide) rfl rfl (Nat.le_of_ble_eq_true rfl) dX12_dotField_35 (fun _ T10 h => ?_)
      refine r_goto (tgt := 124) C dX12_dotField_38 (by decide) ?_
      exact r_vret C M dX12_dotField_124 h
theorem dX12_hasPattern_0 : decode cX12_hasPattern 0 = .ok (.iload_n 1, 1) := by decide +kernel
theorem dX12_hasPattern_1 : decode cX12_hasPattern 1 = .ok (.ifCond .eq 64, 3) := by decide +kernel
theorem dX12_hasPattern_4 : decode cX12_hasPattern 4 = .ok (.iload_n 1, 1) := by decide +kernel
theorem dX12_hasPattern_5 : decode cX12_hasPattern 5 = .ok (.iconst 1, 1) := by decide +kernel
theorem dX12_hasPattern_6 : decode cX12_hasPattern 6 = .ok (.if_icmp .eq 59, 3) := by decide +kernel
theorem dX12_hasPattern_9 : decode cX12_hasPattern 9 = .ok (.iload_n 1, 1) := by decide +kernel
theorem dX12_hasPattern_10 : decode cX12_hasPattern 10 = .ok (.iconst 2, 1) := by decide +kernel
theorem dX12_hasPattern_11 : decode cX12_hasPattern 11 = .ok (.if_icmp .ne 14, 3) := by decide +kernel
theorem dX12_hasPattern_14 : decode cX12_hasPattern 14 = .ok (.iload_n 2, 1) := by decide +kernel
theorem dX12_hasPattern_15 : decode cX12_hasPattern 15 = .ok (.iconst 1, 1) := by decide +kernel
theorem dX12_hasPattern_16 : decode cX12_hasPattern 16 = .ok (.if_icmp .lt 9, 3) := by decide +kernel
theorem dX12_hasPattern_19 : decode cX12_hasPattern 19 = .ok (.iload_n 2, 1) := by decide +kernel
theorem dX12_hasPattern_20 : decode cX12_hasPattern 20 = .ok (.bipush 100, 2) := by decide +kernel
theorem dX12_hasPattern_22 : decode cX12_hasPattern 22 = .ok (.if_icmp .le 43, 3) := by decide +kernel
theorem dX12_hasPattern_25 : decode cX12_hasPattern 25 = .ok (.iload_n 1, 1) := by decide +kernel
theorem dX12_hasPattern_26 : decode cX12_hasPattern 26 = .ok (.iconst 3, 1) := by decide +kernel
theorem dX12_hasPattern_27 : decode cX12_hasPattern 27 = .ok (.if_icmp .ne 14, 3) := by decide +kernel
theorem dX12_hasPattern_30 : decode cX12_hasPattern 30 = .ok (.iload_n 2, 1) := by decide +kernel
theorem dX12_hasPattern_31 : decode cX12_hasPattern 31 = .ok (.iconst 1, 1) := by decide +kernel
theorem dX12_hasPattern_32 : decode cX12_hasPattern 32 = .ok (.if_icmp .lt 9, 3) := by decide +kernel
theorem dX12_hasPattern_35 : decode cX12_hasPattern 35 = .ok (.iload_n 2, 1) := by decide +kernel
theorem dX12_hasPattern_36 : decode cX12_hasPattern 36 = .ok (.bipush 6, 2) := by decide +kernel
theorem dX12_hasPattern_38 : decode cX12_hasPattern 38 = .ok (.if_icmp .le 27, 3) := by decide +kernel
theorem dX12_hasPattern_41 : decode cX12_hasPattern 41 = .ok (.iload_n 1, 1) := by decide +kernel
theorem dX12_hasPattern_42 : decode cX12_hasPattern 42 = .ok (.iconst 4, 1) := by decide +kernel
theorem dX12_hasPattern_43 : decode cX12_hasPattern 43 = .ok (.if_icmp .ne 26, 3) := by decide +kernel
theorem dX12_hasPattern_46 : decode cX12_hasPattern 46 = .ok (.iload_n 2, 1) := by decide +kernel
theorem dX12_hasPattern_47 : decode cX12_hasPattern 47 = .ok (.ifCond .lt 22, 3) := by decide +kernel
theorem dX12_hasPattern_50 : decode cX12_hasPattern 50 = .ok (.iload_n 2, 1) := by decide +kernel
theorem dX12_hasPattern_51 : decode cX12_hasPattern 51 = .ok (.bipush 15, 2) := by decide +kernel
theorem dX12_hasPattern_53 : decode cX12_hasPattern 53 = .ok (.if_icmp .gt 16, 3) := by decide +kernel
theorem dX12_hasPattern_56 : decode cX12_hasPattern 56 = .ok (.aload_n 0, 1) := by decide +kernel
theorem dX12_hasPattern_57 : decode cX12_hasPattern 57 = .ok (.getfield 38, 3) := by decide +kernel
theorem dX12_hasPattern_60 : decode cX12_hasPattern 60 = .ok (.iload_n 2, 1) := by decide +kernel
theorem dX12_hasPattern_61 : decode cX12_hasPattern 61 = .ok (.baload, 1) := by decide +kernel
theorem dX12_hasPattern_62 : decode cX12_hasPattern 62 = .ok (.ifCond .eq 7, 3) := by decide +kernel
theorem dX12_hasPattern_65 : decode cX12_hasPattern 65 = .ok (.iconst 1, 1) := by decide +kernel
theorem dX12_hasPattern_66 : decode cX12_hasPattern 66 = .ok (.goto 4, 3) := by decide +kernel
theorem dX12_hasPattern_69 : decode cX12_hasPattern 69 = .ok (.iconst 0, 1) := by decide +kernel
theorem dX12_hasPattern_70 : decode cX12_hasPattern 70 = .ok (.ireturn, 1) := by decide +kernel
noncomputable def f_X12_hasPattern_41 (a1 : Int32) (a2 : Int32) (T : Mm) : Option (Int32 × Mm) :=
  if a1 = 4 then (if a2 < 0 then (some (0, T))
  else (if 15 < a2 then (some (0, T))
  else (ix a2 16 fun j1 =>
  if (gA T 143 j1) = 0 then (some (0, T))
  else (some (1, T)))))
  else (some (0, T))
set_option maxRecDepth 100000 in
set_option maxHeartbeats 4000000 in
theorem s_X12_hasPattern_41 {x : JX} {ad : Nat → Nat} {U : Mm} {S0 : Hp} {q : Int32 × Mm}  (hn9 : x_n x = 3) (C : CB x RX12 cX12_hasPattern) (M : CMr x 1 (some .boolean) S0 ad false U eI q) (a1 : Int32) (a2 : Int32) (T : Mm) (h : f_X12_hasPattern_41  a1 a2 T = some q) : Jr x ad false U T [(0, .ref (ad 133)), (1, .int a1), (2, .int a2)] 41 [] := by
  unfold f_X12_hasPattern_41 at h
  refine r_iload_n C dX12_hasPattern_41 rfl 1 rfl ?_
  refine r_iconst (v := 4) C dX12_hasPattern_42 (by decide) ?_
  refine r_ic_ne (tgt := 69) C dX12_hasPattern_43 (by decide) h (fun h => ?_) (fun h => ?_)
  · refine r_iconst (v := 0) C dX12_hasPattern_69 (by decide) ?_
    exact r_zret C M dX12_hasPattern_70 (by decide) h
  · refine r_iload_n C dX12_hasPattern_46 rfl 2 rfl ?_
    refine r_if_lt (tgt := 69) C dX12_hasPattern_47 (by decide) h (fun h => ?_) (fun h => ?_)
    · refine r_iconst (v := 0) C dX12_hasPattern_69 (by decide) ?_
      exact r_zret C M dX12_hasPattern_70 (by decide) h
    · refine r_iload_n C dX12_hasPattern_50 rfl 2 rfl ?_
      refine r_bipush (v := 15) C dX12_hasPattern_51 (by decide) ?_
      refine r_ic_gt (tgt := 69) C dX12_hasPattern_53 (by decide) h (fun h => ?_) (fun h => ?_)
      · refine r_iconst (v := 0) C dX12_hasPattern_69 (by decide) ?_
        exact r_zret C M dX12_hasPattern_70 (by decide) h
      · refine r_aload_n C dX12_hasPattern_56 rfl 0 rfl ?_
        refine r_getp (f := 1210) (j := 143) C flX12_38 dX12_hasPattern_57 kq_133 (by decide) rfl (fun W => pt_1210 kq_133 W) ?_
        refine r_iload_n C dX12_hasPattern_60 rfl 2 rfl ?_
        refine r_zald (n := 16) C dX12_hasPattern_61 kq_143 lq_143 h (fun j1 hj2 h => ?_)
        refine r_if_eq (tgt := 69) C dX12_hasPattern_62 (by decide) h (fun h => ?_) (fun h => ?_)
        · refine r_iconst (v := 0) C dX12_hasPattern_69 (by decide) ?_
          exact r_zret C M dX12_hasPattern_70 (by decide) h
        · refine r_iconst (v := 1) C dX12_hasPattern_65 (by decide) ?_
          refine r_goto (tgt := 70) C dX12_hasPattern_66 (by decide) ?_
          exact r_zret C M dX12_hasPattern_70 (by decide) h
noncomputable def f_X12_hasPattern_25 (a1 : Int32) (a2 : Int32) (T : Mm) : Option (Int32 × Mm) :=
  if a1 = 3 then (if a2 < 1 then (f_X12_hasPattern_41 a1 a2 T)
  else (if a2 ≤ 6 then (some (1, T))
  else (f_X12_hasPattern_41 a1 a2 T)))
  else (f_X12_hasPattern_41 a1 a2 T)
set_option maxRecDepth 100000 in
set_option maxHeartbeats 4000000 in
theorem s_X12_hasPattern_25 {x : JX} {ad : Nat → Nat} {U : Mm} {S0 : Hp} {q : Int32 × Mm}  (hn9 : x_n x = 3) (C : CB x RX12 cX12_hasPattern) (M : CMr x 1 (some .boolean) S0 ad false U eI q) (a1 : Int32) (a2 : Int32) (T : Mm) (h : f_X12_hasPattern_25  a1 a2 T = some q) : Jr x ad false U T [(0, .ref (ad 133)), (1, .int a1), (2, .int a2)] 25 [] := by
  unfold f_X12_hasPattern_25 at h
  refine r_iload_n C dX12_hasPattern_25 rfl 1 rfl ?_
  refine r_iconst (v := 3) C dX12_hasPattern_26 (by decide) ?_
  refine r_ic_ne (tgt := 41) C dX12_hasPattern_27 (by decide) h (fun h => ?_) (fun h => ?_)
  · exact s_X12_hasPattern_41 hn9 C M  a1 a2 T h
  · refine r_iload_n C dX12_hasPattern_30 rfl 2 rfl ?_
    refine r_iconst (v := 1) C dX12_hasPattern_31 (by decide) ?_
    refine r_ic_lt (tgt := 41) C dX12_hasPattern_32 (by decide) h (fun h => ?_) (fun h => ?_)
    · exact s_X12_hasPattern_41 hn9 C M  a1 a2 T h
    · refine r_iload_n C dX12_hasPattern_35 rfl 2 rfl ?_
      refine r_bipush (v := 6) C dX12_hasPattern_36 (by decide) ?_
      refine r_ic_le (tgt := 65) C dX12_hasPattern_38 (by decide) h (fun h => ?_) (fun h => ?_)
      · refine r_iconst (v := 1) C dX12_hasPattern_65 (by decide) ?_
        refine r_goto (tgt := 70) C dX12_hasPattern_66 (by decide) ?_
        exact r_zret C M dX12_hasPattern_70 (by decide) h
      · exact s_X12_hasPattern_41 hn9 C M  a1 a2 T h
noncomputable def f_X12_hasPattern (p1 : Int32) (p2 : Int32) (T : Mm) : Option (Int32 × Mm) :=
  if p1 = 0 then (some (1, T))
  else (if p1 = 1 then (some (1, T))
  else (if p1 = 2 then (if p2 < 1 then (f_X12_hasPattern_25 p1 p2 T)
  else (if p2 ≤ 100 then (some (1, T))
  else (f_X12_hasPattern_25 p1 p2 T)))
  else (f_X12_hasPattern_25 p1 p2 T)))
set_option maxRecDepth 100000 in
set_option maxHeartbeats 4000000 in
theorem s_X12_hasPattern {ad : Nat → Nat} {U T : Mm} {q : Int32 × Mm}  (p1 : Int32) (p2 : Int32) (h : f_X12_hasPattern p1 p2 T = some q) : Cr 1 yX12_hasPattern cX12_hasPattern 3 (some .boolean) [.ref (ad 133), .int p1, .int p2] ad false U T eI q := by
  refine cr_of (by decide) (Nat.le_of_ble_eq_true rfl) fun x S0 hn9 C M => ?_
  have C : CB x RX12 cX12_hasPattern := C
  refine Jr.eq (lv' := [(0, .ref (ad 133)), (1, .int p1), (2, .int p2)]) (st' := []) rfl rfl ?_
  unfold f_X12_hasPattern at h
  refine r_iload_n C dX12_hasPattern_0 rfl 1 rfl ?_
  refine r_if_eq (tgt := 65) C dX12_hasPattern_1 (by decide) h (fun h => ?_) (fun h => ?_)
  · refine r_iconst (v := 1) C dX12_hasPattern_65 (by decide) ?_
    refine r_goto (tgt := 70) C dX12_hasPattern_66 (by decide) ?_
    exact r_zret C M dX12_hasPattern_70 (by decide) h
  · refine r_iload_n C dX12_hasPattern_4 rfl 1 rfl ?_
    refine r_iconst (v := 1) C dX12_hasPattern_5 (by decide) ?_
    refine r_ic_eq (tgt := 65) C dX12_hasPattern_6 (by decide) h (fun h => ?_) (fun h => ?_)
    · refine r_iconst (v := 1) C dX12_hasPattern_65 (by decide) ?_
      refine r_goto (tgt := 70) C dX12_hasPattern_66 (by decide) ?_
      exact r_zret C M dX12_hasPattern_70 (by decide) h
    · refine r_iload_n C dX12_hasPattern_9 rfl 1 rfl ?_
      refine r_iconst (v := 2) C dX12_hasPattern_10 (by decide) ?_
      refine r_ic_ne (tgt := 25) C dX12_hasPattern_11 (by decide) h (fun h => ?_) (fun h => ?_)
      · exact s_X12_hasPattern_25 hn9 C M  p1 p2 T h
      · refine r_iload_n C dX12_hasPattern_14 rfl 2 rfl ?_
        refine r_iconst (v := 1) C dX12_hasPattern_15 (by decide) ?_
        refine r_ic_lt (tgt := 25) C dX12_hasPattern_16 (by decide) h (fun h => ?_) (fun h => ?_)
        · exact s_X12_hasPattern_25 hn9 C M  p1 p2 T h
        · refine r_iload_n C dX12_hasPattern_19 rfl 2 rfl ?_
          refine r_bipush (v := 100) C dX12_hasPattern_20 (by decide) ?_
          refine r_ic_le (tgt := 65) C dX12_hasPattern_22 (by decide) h (fun h => ?_) (fun h => ?_)
          · refine r_iconst (v := 1) C dX12_hasPattern_65 (by decide) ?_
            refine r_goto (tgt := 70) C dX12_hasPattern_66 (by decide) ?_
            exact r_zret C M dX12_hasPattern_70 (by decide) h
          · exact s_X12_hasPattern_25 hn9 C M  p1 p2 T h
theorem dX12_putPattern_0 : decode cX12_putPattern 0 = .ok (.aload_n 1, 1) := by decide +kernel
theorem dX12_putPattern_1 : decode cX12_putPattern 1 = .ok (.iload_n 2, 1) := by decide +kernel
theorem dX12_putPattern_2 : decode cX12_putPattern 2 = .ok (.iload_n 3, 1) := by decide +kernel
theorem dX12_putPattern_3 : decode cX12_putPattern 3 = .ok (.iastore, 1) := by decide +kernel
theorem dX12_putPattern_4 : decode cX12_putPattern 4 = .ok (.aload_n 1, 1) := by decide +kernel
theorem dX12_putPattern_5 : decode cX12_putPattern 5 = .ok (.iload_n 2, 1) := by decide +kernel
theorem dX12_putPattern_6 : decode cX12_putPattern 6 = .ok (.iconst 1, 1) := by decide +kernel
theorem dX12_putPattern_7 : decode cX12_putPattern 7 = .ok (.iadd, 1) := by decide +kernel
theorem dX12_putPattern_8 : decode cX12_putPattern 8 = .ok (.iload 4, 2) := by decide +kernel
theorem dX12_putPattern_10 : decode cX12_putPattern 10 = .ok (.iastore, 1) := by decide +kernel
theorem dX12_putPattern_11 : decode cX12_putPattern 11 = .ok (.iload_n 3, 1) := by decide +kernel
theorem dX12_putPattern_12 : decode cX12_putPattern 12 = .ok (.iconst 4, 1) := by decide +kernel
theorem dX12_putPattern_13 : decode cX12_putPattern 13 = .ok (.if_icmp .ne 64, 3) := by decide +kernel
theorem dX12_putPattern_16 : decode cX12_putPattern 16 = .ok (.aload_n 1, 1) := by decide +kernel
theorem dX12_putPattern_17 : decode cX12_putPattern 17 = .ok (.iload_n 2, 1) := by decide +kernel
theorem dX12_putPattern_18 : decode cX12_putPattern 18 = .ok (.iconst 2, 1) := by decide +kernel
theorem dX12_putPattern_19 : decode cX12_putPattern 19 = .ok (.iadd, 1) := by decide +kernel
theorem dX12_putPattern_20 : decode cX12_putPattern 20 = .ok (.aload_n 0, 1) := by decide +kernel
theorem dX12_putPattern_21 : decode cX12_putPattern 21 = .ok (.getfield 44, 3) := by decide +kernel
theorem dX12_putPattern_24 : decode cX12_putPattern 24 = .ok (.iload 4, 2) := by decide +kernel
theorem dX12_putPattern_26 : decode cX12_putPattern 26 = .ok (.iaload, 1) := by decide +kernel
theorem dX12_putPattern_27 : decode cX12_putPattern 27 = .ok (.iastore, 1) := by decide +kernel
theorem dX12_putPattern_28 : decode cX12_putPattern 28 = .ok (.aload_n 1, 1) := by decide +kernel
theorem dX12_putPattern_29 : decode cX12_putPattern 29 = .ok (.iload_n 2, 1) := by decide +kernel
theorem dX12_putPattern_30 : decode cX12_putPattern 30 = .ok (.iconst 3, 1) := by decide +kernel
theorem dX12_putPattern_31 : decode cX12_putPattern 31 = .ok (.iadd, 1) := by decide +kernel
theorem dX12_putPattern_32 : decode cX12_putPattern 32 = .ok (.aload_n 0, 1) := by decide +kernel
theorem dX12_putPattern_33 : decode cX12_putPattern 33 = .ok (.getfield 47, 3) := by decide +kernel
theorem dX12_putPattern_36 : decode cX12_putPattern 36 = .ok (.iload 4, 2) := by decide +kernel
theorem dX12_putPattern_38 : decode cX12_putPattern 38 = .ok (.iaload, 1) := by decide +kernel
theorem dX12_putPattern_39 : decode cX12_putPattern 39 = .ok (.iastore, 1) := by decide +kernel
theorem dX12_putPattern_40 : decode cX12_putPattern 40 = .ok (.iconst 0, 1) := by decide +kernel
theorem dX12_putPattern_41 : decode cX12_putPattern 41 = .ok (.istore 5, 2) := by decide +kernel
theorem dX12_putPattern_43 : decode cX12_putPattern 43 = .ok (.iload 5, 2) := by decide +kernel
theorem dX12_putPattern_45 : decode cX12_putPattern 45 = .ok (.bipush 16, 2) := by decide +kernel
theorem dX12_putPattern_47 : decode cX12_putPattern 47 = .ok (.if_icmp .ge 30, 3) := by decide +kernel
theorem dX12_putPattern_50 : decode cX12_putPattern 50 = .ok (.aload_n 1, 1) := by decide +kernel
theorem dX12_putPattern_51 : decode cX12_putPattern 51 = .ok (.iload_n 2, 1) := by decide +kernel
theorem dX12_putPattern_52 : decode cX12_putPattern 52 = .ok (.iconst 4, 1) := by decide +kernel
theorem dX12_putPattern_53 : decode cX12_putPattern 53 = .ok (.iadd, 1) := by decide +kernel
theorem dX12_putPattern_54 : decode cX12_putPattern 54 = .ok (.iload 5, 2) := by decide +kernel
theorem dX12_putPattern_56 : decode cX12_putPattern 56 = .ok (.iadd, 1) := by decide +kernel
theorem dX12_putPattern_57 : decode cX12_putPattern 57 = .ok (.aload_n 0, 1) := by decide +kernel
theorem dX12_putPattern_58 : decode cX12_putPattern 58 = .ok (.getfield 50, 3) := by decide +kernel
theorem dX12_putPattern_61 : decode cX12_putPattern 61 = .ok (.bipush 16, 2) := by decide +kernel
theorem dX12_putPattern_63 : decode cX12_putPattern 63 = .ok (.iload 4, 2) := by decide +kernel
theorem dX12_putPattern_65 : decode cX12_putPattern 65 = .ok (.imul, 1) := by decide +kernel
theorem dX12_putPattern_66 : decode cX12_putPattern 66 = .ok (.iload 5, 2) := by decide +kernel
theorem dX12_putPattern_68 : decode cX12_putPattern 68 = .ok (.iadd, 1) := by decide +kernel
theorem dX12_putPattern_69 : decode cX12_putPattern 69 = .ok (.iaload, 1) := by decide +kernel
theorem dX12_putPattern_70 : decode cX12_putPattern 70 = .ok (.iastore, 1) := by decide +kernel
theorem dX12_putPattern_71 : decode cX12_putPattern 71 = .ok (.iinc 5 1, 3) := by decide +kernel
theorem dX12_putPattern_74 : decode cX12_putPattern 74 = .ok (.goto (-31), 3) := by decide +kernel
theorem dX12_putPattern_77 : decode cX12_putPattern 77 = .ok (.return_, 1) := by decide +kernel
noncomputable def f_X12_putPattern_b43 (k43 : Nat → Int32 → Int32 → Int32 → Mm → Option (Unit × Mm)) (a1 : Nat) (a2 : Int32) (a4 : Int32) (a5 : Int32) (T : Mm) : Option (Unit × Mm) :=
  if 16 ≤ a5 then (some ((), T))
  else (ix (((16 : Int32) * a4) + a5) 256 fun j1 =>
  ix ((a2 + 4) + a5) (LN a1) fun j3 => lb (uA T a1 j3 ((gA T 147 j1))) fun T5 =>
  k43 a1 a2 a4 (a5 + 1) T5)
set_option maxRecDepth 100000 in
set_option maxHeartbeats 4000000 in
theorem s_X12_putPattern_b43 {x : JX} {ad : Nat → Nat} {U : Mm} {S0 : Hp} {q : Unit × Mm}  {k43 : Nat → Int32 → Int32 → Int32 → Mm → Option (Unit × Mm)} (hn9 : x_n x = 6) (C : CB x RX12 cX12_putPattern) (M : CMr x 1 none S0 ad false U eV q) (hk43 : ∀ (a1 : Nat) (a2 : Int32) (a4 : Int32) (a5 : Int32) (T : Mm) (_ : kS false a1 = 14), k43 a1 a2 a4 a5 T = some q → Jr x ad false U T [(0, .ref (ad 133)), (1, .ref (ad a1)), (2, .int a2), (4, .int a4), (5, .int a5)] 43 []) (a1 : Nat) (a2 : Int32) (a4 : Int32) (a5 : Int32) (T : Mm) (ha1 : kS false a1 = 14) (h : f_X12_putPattern_b43 k43 a1 a2 a4 a5 T = some q) : Jr x ad false U T [(0, .ref (ad 133)), (1, .ref (ad a1)), (2, .int a2), (4, .int a4), (5, .int a5)] 43 [] := by
  unfold f_X12_putPattern_b43 at h
  refine r_iload C dX12_putPattern_43 4 rfl ?_
  refine r_bipush (v := 16) C dX12_putPattern_45 (by decide) ?_
  refine r_ic_ge (tgt := 77) C dX12_putPattern_47 (by decide) h (fun h => ?_) (fun h => ?_)
  · exact r_vret C M dX12_putPattern_77 h
  · refine r_aload_n C dX12_putPattern_50 rfl 1 rfl ?_
    refine r_iload_n C dX12_putPattern_51 rfl 2 rfl ?_
    refine r_iconst (v := 4) C dX12_putPattern_52 (by decide) ?_
    refine r_iadd C dX12_putPattern_53 rfl ?_
    refine r_iload C dX12_putPattern_54 4 rfl ?_
    show Jr _ _ _ _ _ _ 56 _
    refine r_iadd C dX12_putPattern_56 rfl ?_
    refine r_aload_n C dX12_putPattern_57 rfl 0 rfl ?_
    refine r_getp (f := 1214) (j := 147) C flX12_50 dX12_putPattern_58 kq_133 (by decide) rfl (fun W => pt_1214 kq_133 W) ?_
    refine r_bipush (v := 16) C dX12_putPattern_61 (by decide) ?_
    refine r_iload C dX12_putPattern_63 3 rfl ?_
    refine r_imul C dX12_putPattern_65 rfl ?_
    show Jr _ _ _ _ _ _ 66 _
    refine r_iload C dX12_putPattern_66 4 rfl ?_
    refine r_iadd C dX12_putPattern_68 rfl ?_
    refine r_iald (n := 256) C dX12_putPattern_69 kq_147 lq_147 h (fun j1 hj2 h => ?_)
    refine r_iast (n := (LN a1)) C dX12_putPattern_70 ha1 rfl h (fun j3 T5 hj4 h => ?_)
    refine r_iinc (q := 4) (v := (a5 + 1)) (lv' := [(5, .int (a5 + 1)), (0, .ref (ad 133)), (1, .ref (ad a1)), (2, .int a2), (4, .int a4)]) C dX12_putPattern_71 rfl (by rw [show Int32.ofInt (1) = 1 by decide]) (by rw [hn9]; decide) rfl ?_
    refine r_goto (tgt := 43) C dX12_putPattern_74 (by decide) ?_
    refine Jr.sub [1, 2, 3, 4, 0] (lv' := [(0, .ref (ad 133)), (1, .ref (ad a1)), (2, .int a2), (4, .int a4), (5, .int (a5 + 1))]) rfl ?_
    exact hk43 a1 a2 a4 (a5 + 1) T5 ha1 h
noncomputable def f_X12_putPattern_l43 (n : Nat) : Nat → Int32 → Int32 → Int32 → Mm → Option (Unit × Mm) := Nat.rec (fun _ _ _ _ _ => none) (fun _ ih => f_X12_putPattern_b43 ih) n
theorem s_X12_putPattern_l43 {x : JX} {ad : Nat → Nat} {U : Mm} {S0 : Hp} {q : Unit × Mm}  (hn9 : x_n x = 6) (C : CB x RX12 cX12_putPattern) (M : CMr x 1 none S0 ad false U eV q) : ∀ (n : Nat), ∀ (a1 : Nat) (a2 : Int32) (a4 : Int32) (a5 : Int32) (T : Mm) (_ : kS false a1 = 14), f_X12_putPattern_l43  n a1 a2 a4 a5 T = some q → Jr x ad false U T [(0, .ref (ad 133)), (1, .ref (ad a1)), (2, .int a2), (4, .int a4), (5, .int a5)] 43 [] := by
  intro n
  induction n with
  | zero => intro a1 a2 a4 a5 T _ h; exact absurd h (by intro h; cases h)
  | succ n ih => exact fun a1 a2 a4 a5 T ha1 h => s_X12_putPattern_b43 hn9 C M (ih) a1 a2 a4 a5 T ha1 h
noncomputable def f_X12_putPattern (p1 : Nat) (p2 : Int32) (p3 : Int32) (p4 : Int32) (T : Mm) : Option (Unit × Mm) :=
  ix p2 (LN p1) fun j1 => lb (uA T p1 j1 (p3)) fun T3 =>
  ix (p2 + 1) (LN p1) fun j4 => lb (uA T3 p1 j4 (p4)) fun T6 =>
  if p3 = 4 then (ix p4 16 fun j7 =>
  ix (p2 + 2) (LN p1) fun j9 => lb (uA T6 p1 j9 ((gA T6 145 j7))) fun T11 =>
  ix p4 16 fun j12 =>
  ix (p2 + 3) (LN p1) fun j14 => lb (uA T11 p1 j14 ((gA T11 146 j12))) fun T16 =>
  f_X12_putPattern_l43 FU p1 p2 p4 0 T16)
  else (some ((), T6))
set_option maxRecDepth 100000 in
set_option maxHeartbeats 4000000 in
theorem s_X12_putPattern {ad : Nat → Nat} {U T : Mm} {q : Unit × Mm}  (p1 : Nat) (p2 : Int32) (p3 : Int32) (p4 : Int32) (hk1 : kS false p1 = 14) (h : f_X12_putPattern p1 p2 p3 p4 T = some q) : Cr 1 yX12_putPattern cX12_putPattern 6 none [.ref (ad 133), .ref (ad p1), .int p2, .int p3, .int p4] ad false U T eV q := by
  refine cr_of (by decide) (Nat.le_of_ble_eq_true rfl) fun x S0 hn9 C M => ?_
  have C : CB x RX12 cX12_putPattern := C
  refine Jr.eq (lv' := [(0, .ref (ad 133)), (1, .ref (ad p1)), (2, .int p2), (3, .int p3), (4, .int p4)]) (st' := []) rfl rfl ?_
  unfold f_X12_putPattern at h
  refine r_aload_n C dX12_putPattern_0 rfl 1 rfl ?_
  refine r_iload_n C dX12_putPattern_1 rfl 2 rfl ?_
  refine r_iload_n C dX12_putPattern_2 rfl 3 rfl ?_
  refine r_iast (n := (LN p1)) C dX12_putPattern_3 hk1 rfl h (fun j1 T3 hj2 h => ?_)
  refine r_aload_n C dX12_putPattern_4 rfl 1 rfl ?_
  show Jr _ _ _ _ _ _ 5 _
  refine r_iload_n C dX12_putPattern_5 rfl 2 rfl ?_
  refine r_iconst (v := 1) C dX12_putPattern_6 (by decide) ?_
  refine r_iadd C dX12_putPattern_7 rfl ?_
  refine r_iload C dX12_putPattern_8 4 rfl ?_
  refine r_iast (n := (LN p1)) C dX12_putPattern_10 hk1 rfl h (fun j4 T6 hj5 h => ?_)
  refine r_iload_n C dX12_putPattern_11 rfl 3 rfl ?_
  show Jr _ _ _ _ _ _ 12 _
  refine r_iconst (v := 4) C dX12_putPattern_12 (by decide) ?_
  refine r_ic_ne (tgt := 77) C dX12_putPattern_13 (by decide) h (fun h => ?_) (fun h => ?_)
  · exact r_vret C M dX12_putPattern_77 h
  · refine r_aload_n C dX12_putPattern_16 rfl 1 rfl ?_
    refine r_iload_n C dX12_putPattern_17 rfl 2 rfl ?_
    refine r_iconst (v := 2) C dX12_putPattern_18 (by decide) ?_
    refine r_iadd C dX12_putPattern_19 rfl ?_
    refine r_aload_n C dX12_putPattern_20 rfl 0 rfl ?_
    show Jr _ _ _ _ _ _ 21 _
    refine r_getp (f := 1212) (j := 145) C flX12_44 dX12_putPattern_21 kq_133 (by decide) rfl (fun W => pt_1212 kq_133 W) ?_
    refine r_iload C dX12_putPattern_24 4 rfl ?_
    refine r_iald (n := 16) C dX12_putPattern_26 kq_145 lq_145 h (fun j7 hj8 h => ?_)
    refine r_iast (n := (LN p1)) C dX12_putPattern_27 hk1 rfl h (fun j9 T11 hj10 h => ?_)
    refine r_aload_n C dX12_putPattern_28 rfl 1 rfl ?_
    refine r_iload_n C dX12_putPattern_29 rfl 2 rfl ?_
    show Jr _ _ _ _ _ _ 30 _
    refine r_iconst (v := 3) C dX12_putPattern_30 (by decide) ?_
    refine r_iadd C dX12_putPattern_31 rfl ?_
    refine r_aload_n C dX12_putPattern_32 rfl 0 rfl ?_
    refine r_getp (f := 1213) (j := 146) C flX12_47 dX12_putPattern_33 kq_133 (by decide) rfl (fun W => pt_1213 kq_133 W) ?_
    refine r_iload C dX12_putPattern_36 4 rfl ?_
    refine r_iald (n := 16) C dX12_putPattern_38 kq_146 lq_146 h (fun j12 hj13 h => ?_)
    show Jr _ _ _ _ _ _ 39 _
    refine r_iast (n := (LN p1)) C dX12_putPattern_39 hk1 rfl h (fun j14 T16 hj15 h => ?_)
    refine r_iconst (v := 0) C dX12_putPattern_40 (by decide) ?_
    refine r_istore (lv' := [(5, .int 0), (0, .ref (ad 133)), (1, .ref (ad p1)), (2, .int p2), (3, .int p3), (4, .int p4)]) C dX12_putPattern_41 (by rw [hn9]; decide) rfl ?_
    refine Jr.sub [1, 2, 3, 5, 0] (lv' := [(0, .ref (ad 133)), (1, .ref (ad p1)), (2, .int p2), (4, .int p4), (5, .int 0)]) rfl ?_
    exact s_X12_putPattern_l43 hn9 C M  FU p1 p2 p4 0 T16 hk1 h
theorem dX12_modelField_0 : decode cX12_modelField 0 = .ok (.iload_n 1, 1) := by decide +kernel
theorem dX12_modelField_1 : decode cX12_modelField 1 = .ok (.bipush 78, 2) := by decide +kernel
theorem dX12_modelField_3 : decode cX12_modelField 3 = .ok (.if_icmp .ne 32, 3) := by decide +kernel
theorem dX12_modelField_6 : decode cX12_modelField 6 = .ok (.aload_n 0, 1) := by decide +kernel
theorem dX12_modelField_7 : decode cX12_modelField 7 = .ok (.getfield 379, 3) := by decide +kernel
theorem dX12_modelField_10 : decode cX12_modelField 10 = .ok (.ifCond .eq 11, 3) := by decide +kernel
theorem dX12_modelField_13 : decode cX12_modelField 13 = .ok (.aload_n 0, 1) := by decide +kernel
theorem dX12_modelField_14 : decode cX12_modelField 14 = .ok (.getfield 379, 3) := by decide +kernel
theorem dX12_modelField_17 : decode cX12_modelField 17 = .ok (.iconst 1, 1) := by decide +kernel
theorem dX12_modelField_18 : decode cX12_modelField 18 = .ok (.if_icmp .ne 17, 3) := by decide +kernel
theorem dX12_modelField_21 : decode cX12_modelField 21 = .ok (.aload_n 0, 1) := by decide +kernel
theorem dX12_modelField_22 : decode cX12_modelField 22 = .ok (.getfield 9, 3) := by decide +kernel
theorem dX12_modelField_25 : decode cX12_modelField 25 = .ok (.bipush 49, 2) := by decide +kernel
theorem dX12_modelField_27 : decode cX12_modelField 27 = .ok (.aload_n 0, 1) := by decide +kernel
theorem dX12_modelField_28 : decode cX12_modelField 28 = .ok (.getfield 379, 3) := by decide +kernel
theorem dX12_modelField_31 : decode cX12_modelField 31 = .ok (.iastore, 1) := by decide +kernel
theorem dX12_modelField_32 : decode cX12_modelField 32 = .ok (.goto 85, 3) := by decide +kernel
theorem dX12_modelField_35 : decode cX12_modelField 35 = .ok (.iload_n 1, 1) := by decide +kernel
theorem dX12_modelField_36 : decode cX12_modelField 36 = .ok (.bipush 79, 2) := by decide +kernel
theorem dX12_modelField_38 : decode cX12_modelField 38 = .ok (.if_icmp .ne 32, 3) := by decide +kernel
theorem dX12_modelField_41 : decode cX12_modelField 41 = .ok (.aload_n 0, 1) := by decide +kernel
theorem dX12_modelField_42 : decode cX12_modelField 42 = .ok (.getfield 379, 3) := by decide +kernel
theorem dX12_modelField_45 : decode cX12_modelField 45 = .ok (.ifCond .eq 11, 3) := by decide +kernel
theorem dX12_modelField_48 : decode cX12_modelField 48 = .ok (.aload_n 0, 1) := by decide +kernel
theorem dX12_modelField_49 : decode cX12_modelField 49 = .ok (.getfield 379, 3) := by decide +kernel
theorem dX12_modelField_52 : decode cX12_modelField 52 = .ok (.iconst 1, 1) := by decide +kernel
theorem dX12_modelField_53 : decode cX12_modelField 53 = .ok (.if_icmp .ne 17, 3) := by decide +kernel
theorem dX12_modelField_56 : decode cX12_modelField 56 = .ok (.aload_n 0, 1) := by decide +kernel
theorem dX12_modelField_57 : decode cX12_modelField 57 = .ok (.getfield 9, 3) := by decide +kernel
theorem dX12_modelField_60 : decode cX12_modelField 60 = .ok (.bipush 50, 2) := by decide +kernel
theorem dX12_modelField_62 : decode cX12_modelField 62 = .ok (.aload_n 0, 1) := by decide +kernel
theorem dX12_modelField_63 : decode cX12_modelField 63 = .ok (.getfield 379, 3) := by decide +kernel
theorem dX12_modelField_66 : decode cX12_modelField 66 = .ok (.iastore, 1) := by decide +kernel
theorem dX12_modelField_67 : decode cX12_modelField 67 = .ok (.goto 50, 3) := by decide +kernel
theorem dX12_modelField_70 : decode cX12_modelField 70 = .ok (.iload_n 1, 1) := by decide +kernel
theorem dX12_modelField_71 : decode cX12_modelField 71 = .ok (.bipush 84, 2) := by decide +kernel
theorem dX12_modelField_73 : decode cX12_modelField 73 = .ok (.if_icmp .ne 44, 3) := by decide +kernel
theorem dX12_modelField_76 : decode cX12_modelField 76 = .ok (.aload_n 0, 1) := by decide +kernel
theorem dX12_modelField_77 : decode cX12_modelField 77 = .ok (.aload_n 0, 1) := by decide +kernel
theorem dX12_modelField_78 : decode cX12_modelField 78 = .ok (.getfield 379, 3) := by decide +kernel
theorem dX12_modelField_81 : decode cX12_modelField 81 = .ok (.aload_n 0, 1) := by decide +kernel
theorem dX12_modelField_82 : decode cX12_modelField 82 = .ok (.getfield 9, 3) := by decide +kernel
theorem dX12_modelField_85 : decode cX12_modelField 85 = .ok (.sipush 144, 3) := by decide +kernel
theorem dX12_modelField_88 : decode cX12_modelField 88 = .ok (.iaload, 1) := by decide +kernel
theorem dX12_modelField_89 : decode cX12_modelField 89 = .ok (.invokevirtual 445, 3) := by decide +kernel
theorem dX12_modelField_92 : decode cX12_modelField 92 = .ok (.ifCond .eq 25, 3) := by decide +kernel
theorem dX12_modelField_95 : decode cX12_modelField 95 = .ok (.aload_n 0, 1) := by decide +kernel
theorem dX12_modelField_96 : decode cX12_modelField 96 = .ok (.aload_n 0, 1) := by decide +kernel
theorem dX12_modelField_97 : decode cX12_modelField 97 = .ok (.getfield 9, 3) := by decide +kernel
theorem dX12_modelField_100 : decode cX12_modelField 100 = .ok (.bipush 29, 2) := by decide +kernel
theorem dX12_modelField_102 : decode cX12_modelField 102 = .ok (.aload_n 0, 1) := by decide +kernel
theorem dX12_modelField_103 : decode cX12_modelField 103 = .ok (.getfield 379, 3) := by decide +kernel
theorem dX12_modelField_106 : decode cX12_modelField 106 = .ok (.aload_n 0, 1) := by decide +kernel
theorem dX12_modelField_107 : decode cX12_modelField 107 = .ok (.getfield 9, 3) := by decide +kernel
theorem dX12_modelField_110 : decode cX12_modelField 110 = .ok (.sipush 144, 3) := by decide +kernel
theorem dX12_modelField_113 : decode cX12_modelField 113 = .ok (.iaload, 1) := by decide +kernel
theorem dX12_modelField_114 : decode cX12_modelField 114 = .ok (.invokevirtual 449, 3) := by decide +kernel
theorem dX12_modelField_117 : decode cX12_modelField 117 = .ok (.return_, 1) := by decide +kernel
noncomputable def f_X12_modelField_70 (a1 : Int32) (T : Mm) : Option (Unit × Mm) :=
  if a1 = 84 then (bd (f_X12_hasPattern (gI T 1251 133) (gA T 134 144) T) fun v1 T2 =>
  if v1 = 0 then (some ((), T2))
  else (bd (f_X12_putPattern 134 29 (gI T2 1251 133) (gA T2 134 144) T2) fun _ T3 =>
  some ((), T3)))
  else (some ((), T))
set_option maxRecDepth 100000 in
set_option maxHeartbeats 4000000 in
theorem s_X12_modelField_70 {x : JX} {ad : Nat → Nat} {U : Mm} {S0 : Hp} {q : Unit × Mm}  (hn9 : x_n x = 2) (C : CB x RX12 cX12_modelField) (M : CMr x 2 none S0 ad false U eV q) (a1 : Int32) (T : Mm) (h : f_X12_modelField_70  a1 T = some q) : Jr x ad false U T [(0, .ref (ad 133)), (1, .int a1)] 70 [] := by
  unfold f_X12_modelField_70 at h
  refine r_iload_n C dX12_modelField_70 rfl 1 rfl ?_
  refine r_bipush (v := 84) C dX12_modelField_71 (by decide) ?_
  refine r_ic_ne (tgt := 117) C dX12_modelField_73 (by decide) h (fun h => ?_) (fun h => ?_)
  · exact r_vret C M dX12_modelField_117 h
  · refine r_aload_n C dX12_modelField_76 rfl 0 rfl ?_
    refine r_aload_n C dX12_modelField_77 rfl 0 rfl ?_
    refine r_geti (f := 1251) C flX12_379 dX12_modelField_78 kq_133 (by decide) (by decide) rfl ?_
    refine r_aload_n C dX12_modelField_81 rfl 0 rfl ?_
    refine r_getp (f := 1200) (j := 134) C flX12_9 dX12_modelField_82 kq_133 (by decide) rfl (fun W => pt_1200 kq_133 W) ?_
    show Jr _ _ _ _ _ _ 85 _
    refine r_sipush (v := 144) C dX12_modelField_85 (by decide) ?_
    refine r_ialdc (n := 192) C 144 dX12_modelField_88 kq_134 lq_134 (vp_lit (by decide)) (by decide) ?_
    refine r_callVI C M h [.int (gI T 1251 133), .int (gA T 134 144)] [] mlX12_445 mcX12_hasPattern (fun q9 e9 => s_X12_hasPattern (gI T 1251 133) (gA T 134 144)  e9) kq_133 rfl (by decide) (by decide) rfl rfl (Nat.le_of_ble_eq_true rfl) dX12_modelField_89 (fun v1 T2 h => ?_)
    refine r_if_eq (tgt := 117) C dX12_modelField_92 (by decide) h (fun h => ?_) (fun h => ?_)
    · exact r_vret C M dX12_modelField_117 h
    · refine r_aload_n C dX12_modelField_95 rfl 0 rfl ?_
      refine r_aload_n C dX12_modelField_96 rfl 0 rfl ?_
      refine r_getp (f := 1200) (j := 134) C flX12_9 dX12_modelField_97 kq_133 (by decide) rfl (fun W => pt_1200 kq_133 W) ?_
      refine r_bipush (v := 29) C dX12_modelField_100 (by decide) ?_
      refine r_aload_n C dX12_modelField_102 rfl 0 rfl ?_
      show Jr _ _ _ _ _ _ 103 _
      refine r_geti (f := 1251) C flX12_379 dX12_modelField_103 kq_133 (by decide) (by decide) rfl ?_
      refine r_aload_n C dX12_modelField_106 rfl 0 rfl ?_
      refine r_getp (f := 1200) (j := 134) C flX12_9 dX12_modelField_107 kq_133 (by decide) rfl (fun W => pt_1200 kq_133 W) ?_
      refine r_sipush (v := 144) C dX12_modelField_110 (by decide) ?_
      refine r_ialdc (n := 192) C 144 dX12_modelField_113 kq_134 lq_134 (vp_lit (by decide)) (by decide) ?_
      refine r_callVN C M h [.ref (ad 134), .int 29, .int (gI T2 1251 133), .int (gA T2 134 144)] [] mlX12_449 mcX12_putPattern (fun q9 e9 => s_X12_putPattern 134 29 (gI T2 1251 133) (gA T2 134 144) kq_134 e9) kq_133 rfl (by decide) (by decide) rfl rfl (Nat.le_of_ble_eq_true rfl) dX12_modelField_114 (fun _ T3 h => ?_)
      show Jr _ _ _ _ _ _ 117 _
      exact r_vret C M dX12_modelField_117 h
noncomputable def f_X12_modelField_35 (a1 : Int32) (T : Mm) : Option (Unit × Mm) :=
  if a1 = 79 then (if (gI T 1251 133) = 0 then (lb (uA T 134 50 ((gI T 1251 133))) fun T1 =>
  some ((), T1))
  else (if (gI T 1251 133) = 1 then (lb (uA T 134 50 ((gI T 1251 133))) fun T2 =>
  some ((), T2))
  else (f_X12_modelField_70 a1 T)))
  else (f_X12_modelField_70 a1 T)
set_option maxRecDepth 100000 in
set_option maxHeartbeats 4000000 in
theorem s_X12_modelField_35 {x : JX} {ad : Nat → Nat} {U : Mm} {S0 : Hp} {q : Unit × Mm}  (hn9 : x_n x = 2) (C : CB x RX12 cX12_modelField) (M : CMr x 2 none S0 ad false U eV q) (a1 : Int32) (T : Mm) (h : f_X12_modelField_35  a1 T = some q) : Jr x ad false U T [(0, .ref (ad 133)), (1, .int a1)] 35 [] := by
  unfold f_X12_modelField_35 at h
  refine r_iload_n C dX12_modelField_35 rfl 1 rfl ?_
  refine r_bipush (v := 79) C dX12_modelField_36 (by decide) ?_
  refine r_ic_ne (tgt := 70) C dX12_modelField_38 (by decide) h (fun h => ?_) (fun h => ?_)
  · exact s_X12_modelField_70 hn9 C M  a1 T h
  · refine r_aload_n C dX12_modelField_41 rfl 0 rfl ?_
    refine r_geti (f := 1251) C flX12_379 dX12_modelField_42 kq_133 (by decide) (by decide) rfl ?_
    refine r_if_eq (tgt := 56) C dX12_modelField_45 (by decide) h (fun h => ?_) (fun h => ?_)
    · refine r_aload_n C dX12_modelField_56 rfl 0 rfl ?_
      refine r_getp (f := 1200) (j := 134) C flX12_9 dX12_modelField_57 kq_133 (by decide) rfl (fun W => pt_1200 kq_133 W) ?_
      refine r_bipush (v := 50) C dX12_modelField_60 (by decide) ?_
      refine r_aload_n C dX12_modelField_62 rfl 0 rfl ?_
      refine r_geti (f := 1251) C flX12_379 dX12_modelField_63 kq_133 (by decide) (by decide) rfl ?_
      show Jr _ _ _ _ _ _ 66 _
      refine r_iastc (n := 192) C 50 dX12_modelField_66 kq_134 lq_134 (vp_lit (by decide)) (by decide) h (fun T1 h => ?_)
      refine r_goto (tgt := 117) C dX12_modelField_67 (by decide) ?_
      exact r_vret C M dX12_modelField_117 h
    · refine r_aload_n C dX12_modelField_48 rfl 0 rfl ?_
      refine r_geti (f := 1251) C flX12_379 dX12_modelField_49 kq_133 (by decide) (by decide) rfl ?_
      refine r_iconst (v := 1) C dX12_modelField_52 (by decide) ?_
      refine r_ic_ne (tgt := 70) C dX12_modelField_53 (by decide) h (fun h => ?_) (fun h => ?_)
      · exact s_X12_modelField_70 hn9 C M  a1 T h
      · refine r_aload_n C dX12_modelField_56 rfl 0 rfl ?_
        refine r_getp (f := 1200) (j := 134) C flX12_9 dX12_modelField_57 kq_133 (by decide) rfl (fun W => pt_1200 kq_133 W) ?_
        refine r_bipush (v := 50) C dX12_modelField_60 (by decide) ?_
        refine r_aload_n C dX12_modelField_62 rfl 0 rfl ?_
        refine r_geti (f := 1251) C flX12_379 dX12_modelField_63 kq_133 (by decide) (by decide) rfl ?_
        show Jr _ _ _ _ _ _ 66 _
        refine r_iastc (n := 192) C 50 dX12_modelField_66 kq_134 lq_134 (vp_lit (by decide)) (by decide) h (fun T2 h => ?_)
        refine r_goto (tgt := 117) C dX12_modelField_67 (by decide) ?_
        exact r_vret C M dX12_modelField_117 h
noncomputable def f_X12_modelField (p1 : Int32) (T : Mm) : Option (Unit × Mm) :=
  if p1 = 78 then (if (gI T 1251 133) = 0 then (lb (uA T 134 49 ((gI T 1251 133))) fun T1 =>
  some ((), T1))
  else (if (gI T 1251 133) = 1 then (lb (uA T 134 49 ((gI T 1251 133))) fun T2 =>
  some ((), T2))
  else (f_X12_modelField_35 p1 T)))
  else (f_X12_modelField_35 p1 T)
set_option maxRecDepth 100000 in
set_option maxHeartbeats 4000000 in
theorem s_X12_modelField {ad : Nat → Nat} {U T : Mm} {q : Unit × Mm}  (p1 : Int32) (h : f_X12_modelField p1 T = some q) : Cr 2 yX12_modelField cX12_modelField 2 none [.ref (ad 133), .int p1] ad false U T eV q := by
  refine cr_of (by decide) (Nat.le_of_ble_eq_true rfl) fun x S0 hn9 C M => ?_
  have C : CB x RX12 cX12_modelField := C
  refine Jr.eq (lv' := [(0, .ref (ad 133)), (1, .int p1)]) (st' := []) rfl rfl ?_
  unfold f_X12_modelField at h
  refine r_iload_n C dX12_modelField_0 rfl 1 rfl ?_
  refine r_bipush (v := 78) C dX12_modelField_1 (by decide) ?_
  refine r_ic_ne (tgt := 35) C dX12_modelField_3 (by decide) h (fun h => ?_) (fun h => ?_)
  · exact s_X12_modelField_35 hn9 C M  p1 T h
  · refine r_aload_n C dX12_modelField_6 rfl 0 rfl ?_
    refine r_geti (f := 1251) C flX12_379 dX12_modelField_7 kq_133 (by decide) (by decide) rfl ?_
    refine r_if_eq (tgt := 21) C dX12_modelField_10 (by decide) h (fun h => ?_) (fun h => ?_)
    · refine r_aload_n C dX12_modelField_21 rfl 0 rfl ?_
      refine r_getp (f := 1200) (j := 134) C flX12_9 dX12_modelField_22 kq_133 (by decide) rfl (fun W => pt_1200 kq_133 W) ?_
      refine r_bipush (v := 49) C dX12_modelField_25 (by decide) ?_
      refine r_aload_n C dX12_modelField_27 rfl 0 rfl ?_
      refine r_geti (f := 1251) C flX12_379 dX12_modelField_28 kq_133 (by decide) (by decide) rfl ?_
      show Jr _ _ _ _ _ _ 31 _
      refine r_iastc (n := 192) C 49 dX12_modelField_31 kq_134 lq_134 (vp_lit (by decide)) (by decide) h (fun T1 h => ?_)
      refine r_goto (tgt := 117) C dX12_modelField_32 (by decide) ?_
      exact r_vret C M dX12_modelField_117 h
    · refine r_aload_n C dX12_modelField_13 rfl 0 rfl ?_
      refine r_geti (f := 1251) C flX12_379 dX12_modelField_14 kq_133 (by decide) (by decide) rfl ?_
      refine r_iconst (v := 1) C dX12_modelField_17 (by decide) ?_
      refine r_ic_ne (tgt := 35) C dX12_modelField_18 (by decide) h (fun h => ?_) (fun h => ?_)
      · exact s_X12_modelField_35 hn9 C M  p1 T h
      · refine r_aload_n C dX12_modelField_21 rfl 0 rfl ?_
        refine r_getp (f := 1200) (j := 134) C flX12_9 dX12_modelField_22 kq_133 (by decide) rfl (fun W => pt_1200 kq_133 W) ?_
        refine r_bipush (v := 49) C dX12_modelField_25 (by decide) ?_
        refine r_aload_n C dX12_modelField_27 rfl 0 rfl ?_
        refine r_geti (f := 1251) C flX12_379 dX12_modelField_28 kq_133 (by decide) (by decide) rfl ?_
        show Jr _ _ _ _ _ _ 31 _
        refine r_iastc (n := 192) C 49 dX12_modelField_31 kq_134 lq_134 (vp_lit (by decide)) (by decide) h (fun T2 h => ?_)
        refine r_goto (tgt := 117) C dX12_modelField_32 (by decide) ?_
        exact r_vret C M dX12_modelField_117 h
theorem dX12_dotsUp_0 : decode cX12_dotsUp 0 = .ok (.lload_n 0, 1) := by decide +kernel
theorem dX12_dotsUp_1 : decode cX12_dotsUp 1 = .ok (.ldc2_w 453, 3) := by decide +kernel
theorem dX12_dotsUp_4 : decode cX12_dotsUp 4 = .ok (.ladd, 1) := by decide +kernel
theorem dX12_dotsUp_5 : decode cX12_dotsUp 5 = .ok (.ldc2_w 204, 3) := by decide +kernel
theorem dX12_dotsUp_8 : decode cX12_dotsUp 8 = .ok (.ldiv, 1) := by decide +kernel
theorem dX12_dotsUp_9 : decode cX12_dotsUp 9 = .ok (.l2i, 1) := by decide +kernel
theorem dX12_dotsUp_10 : decode cX12_dotsUp 10 = .ok (.ireturn, 1) := by decide +kernel
noncomputable def f_X12_dotsUp (p0 : Int64) (T : Mm) : Option (Int32 × Mm) :=
  some ((((p0 + 95) / 96)).toInt32, T)
set_option maxRecDepth 100000 in
set_option maxHeartbeats 4000000 in
theorem s_X12_dotsUp {ad : Nat → Nat} {U T : Mm} {q : Int32 × Mm}  (p0 : Int64) (h : f_X12_dotsUp p0 T = some q) : Cr 1 yX12_dotsUp cX12_dotsUp 2 (some .int) [.long p0] ad false U T eI q := by
  refine cr_of (by decide) (Nat.le_of_ble_eq_true rfl) fun x S0 hn9 C M => ?_
  have C : CB x RX12 cX12_dotsUp := C
  refine Jr.eq (lv' := [(0, .long p0)]) (st' := []) rfl rfl ?_
  unfold f_X12_dotsUp at h
  refine r_lload_n C dX12_dotsUp_0 rfl 0 rfl ?_
  refine r_ldc2 (v := 95) C dX12_dotsUp_1 kcX12_453 ?_
  refine r_ladd C dX12_dotsUp_4 rfl ?_
  refine r_ldc2 (v := 96) C dX12_dotsUp_5 kcX12_204 ?_
  refine r_ldiv C dX12_dotsUp_8 (by decide) rfl ?_
  show Jr _ _ _ _ _ _ 9 _
  refine r_l2i C dX12_dotsUp_9 rfl ?_
  exact r_iret C M dX12_dotsUp_10 h
theorem dX12_rectangle_0 : decode cX12_rectangle 0 = .ok (.aload_n 0, 1) := by decide +kernel
theorem dX12_rectangle_1 : decode cX12_rectangle 1 = .ok (.getfield 9, 3) := by decide +kernel
theorem dX12_rectangle_4 : decode cX12_rectangle 4 = .ok (.sipush 140, 3) := by decide +kernel
theorem dX12_rectangle_7 : decode cX12_rectangle 7 = .ok (.iaload, 1) := by decide +kernel
theorem dX12_rectangle_8 : decode cX12_rectangle 8 = .ok (.istore_n 1, 1) := by decide +kernel
theorem dX12_rectangle_9 : decode cX12_rectangle 9 = .ok (.aload_n 0, 1) := by decide +kernel
theorem dX12_rectangle_10 : decode cX12_rectangle 10 = .ok (.getfield 9, 3) := by decide +kernel
theorem dX12_rectangle_13 : decode cX12_rectangle 13 = .ok (.sipush 141, 3) := by decide +kernel
theorem dX12_rectangle_16 : decode cX12_rectangle 16 = .ok (.iaload, 1) := by decide +kernel
theorem dX12_rectangle_17 : decode cX12_rectangle 17 = .ok (.istore_n 2, 1) := by decide +kernel
theorem dX12_rectangle_18 : decode cX12_rectangle 18 = .ok (.aload_n 0, 1) := by decide +kernel
theorem dX12_rectangle_19 : decode cX12_rectangle 19 = .ok (.getfield 379, 3) := by decide +kernel
theorem dX12_rectangle_22 : decode cX12_rectangle 22 = .ok (.ifCond .lt 81, 3) := by decide +kernel
theorem dX12_rectangle_25 : decode cX12_rectangle 25 = .ok (.aload_n 0, 1) := by decide +kernel
theorem dX12_rectangle_26 : decode cX12_rectangle 26 = .ok (.getfield 379, 3) := by decide +kernel
theorem dX12_rectangle_29 : decode cX12_rectangle 29 = .ok (.iconst 5, 1) := by decide +kernel
theorem dX12_rectangle_30 : decode cX12_rectangle 30 = .ok (.if_icmp .gt 73, 3) := by decide +kernel
theorem dX12_rectangle_33 : decode cX12_rectangle 33 = .ok (.aload_n 0, 1) := by decide +kernel
theorem dX12_rectangle_34 : decode cX12_rectangle 34 = .ok (.getfield 379, 3) := by decide +kernel
theorem dX12_rectangle_37 : decode cX12_rectangle 37 = .ok (.iconst 5, 1) := by decide +kernel
theorem dX12_rectangle_38 : decode cX12_rectangle 38 = .ok (.if_icmp .ge 22, 3) := by decide +kernel
theorem dX12_rectangle_41 : decode cX12_rectangle 41 = .ok (.aload_n 0, 1) := by decide +kernel
theorem dX12_rectangle_42 : decode cX12_rectangle 42 = .ok (.aload_n 0, 1) := by decide +kernel
theorem dX12_rectangle_43 : decode cX12_rectangle 43 = .ok (.getfield 379, 3) := by decide +kernel
theorem dX12_rectangle_46 : decode cX12_rectangle 46 = .ok (.aload_n 0, 1) := by decide +kernel
theorem dX12_rectangle_47 : decode cX12_rectangle 47 = .ok (.getfield 9, 3) := by decide +kernel
theorem dX12_rectangle_50 : decode cX12_rectangle 50 = .ok (.sipush 144, 3) := by decide +kernel
theorem dX12_rectangle_53 : decode cX12_rectangle 53 = .ok (.iaload, 1) := by decide +kernel
theorem dX12_rectangle_54 : decode cX12_rectangle 54 = .ok (.invokevirtual 445, 3) := by decide +kernel
theorem dX12_rectangle_57 : decode cX12_rectangle 57 = .ok (.ifCond .eq 46, 3) := by decide +kernel
theorem dX12_rectangle_60 : decode cX12_rectangle 60 = .ok (.iload_n 1, 1) := by decide +kernel
theorem dX12_rectangle_61 : decode cX12_rectangle 61 = .ok (.ifCond .eq 42, 3) := by decide +kernel
theorem dX12_rectangle_64 : decode cX12_rectangle 64 = .ok (.iload_n 2, 1) := by decide +kernel
theorem dX12_rectangle_65 : decode cX12_rectangle 65 = .ok (.ifCond .eq 38, 3) := by decide +kernel
theorem dX12_rectangle_68 : decode cX12_rectangle 68 = .ok (.aload_n 0, 1) := by decide +kernel
theorem dX12_rectangle_69 : decode cX12_rectangle 69 = .ok (.aload_n 0, 1) := by decide +kernel
theorem dX12_rectangle_70 : decode cX12_rectangle 70 = .ok (.getfield 9, 3) := by decide +kernel
theorem dX12_rectangle_73 : decode cX12_rectangle 73 = .ok (.sipush 189, 3) := by decide +kernel
theorem dX12_rectangle_76 : decode cX12_rectangle 76 = .ok (.iaload, 1) := by decide +kernel
theorem dX12_rectangle_77 : decode cX12_rectangle 77 = .ok (.bipush 96, 2) := by decide +kernel
theorem dX12_rectangle_79 : decode cX12_rectangle 79 = .ok (.idiv, 1) := by decide +kernel
theorem dX12_rectangle_80 : decode cX12_rectangle 80 = .ok (.i2l, 1) := by decide +kernel
theorem dX12_rectangle_81 : decode cX12_rectangle 81 = .ok (.aload_n 0, 1) := by decide +kernel
theorem dX12_rectangle_82 : decode cX12_rectangle 82 = .ok (.getfield 9, 3) := by decide +kernel
theorem dX12_rectangle_85 : decode cX12_rectangle 85 = .ok (.sipush 190, 3) := by decide +kernel
theorem dX12_rectangle_88 : decode cX12_rectangle 88 = .ok (.iaload, 1) := by decide +kernel
theorem dX12_rectangle_89 : decode cX12_rectangle 89 = .ok (.bipush 96, 2) := by decide +kernel
theorem dX12_rectangle_91 : decode cX12_rectangle 91 = .ok (.idiv, 1) := by decide +kernel
theorem dX12_rectangle_92 : decode cX12_rectangle 92 = .ok (.i2l, 1) := by decide +kernel
theorem dX12_rectangle_93 : decode cX12_rectangle 93 = .ok (.iload_n 1, 1) := by decide +kernel
theorem dX12_rectangle_94 : decode cX12_rectangle 94 = .ok (.i2l, 1) := by decide +kernel
theorem dX12_rectangle_95 : decode cX12_rectangle 95 = .ok (.iload_n 2, 1) := by decide +kernel
theorem dX12_rectangle_96 : decode cX12_rectangle 96 = .ok (.i2l, 1) := by decide +kernel
theorem dX12_rectangle_97 : decode cX12_rectangle 97 = .ok (.invokevirtual 317, 3) := by decide +kernel
theorem dX12_rectangle_100 : decode cX12_rectangle 100 = .ok (.ifCond .ne 4, 3) := by decide +kernel
theorem dX12_rectangle_103 : decode cX12_rectangle 103 = .ok (.return_, 1) := by decide +kernel
theorem dX12_rectangle_104 : decode cX12_rectangle 104 = .ok (.aload_n 0, 1) := by decide +kernel
theorem dX12_rectangle_105 : decode cX12_rectangle 105 = .ok (.getfield 379, 3) := by decide +kernel
theorem dX12_rectangle_108 : decode cX12_rectangle 108 = .ok (.iconst 5, 1) := by decide +kernel
theorem dX12_rectangle_109 : decode cX12_rectangle 109 = .ok (.if_icmp .ne 10, 3) := by decide +kernel
theorem dX12_rectangle_112 : decode cX12_rectangle 112 = .ok (.aload_n 0, 1) := by decide +kernel
theorem dX12_rectangle_113 : decode cX12_rectangle 113 = .ok (.invokevirtual 321, 3) := by decide +kernel
theorem dX12_rectangle_116 : decode cX12_rectangle 116 = .ok (.goto 24, 3) := by decide +kernel
theorem dX12_rectangle_119 : decode cX12_rectangle 119 = .ok (.aload_n 0, 1) := by decide +kernel
theorem dX12_rectangle_120 : decode cX12_rectangle 120 = .ok (.aload_n 0, 1) := by decide +kernel
theorem dX12_rectangle_121 : decode cX12_rectangle 121 = .ok (.getfield 102, 3) := by decide +kernel
theorem dX12_rectangle_124 : decode cX12_rectangle 124 = .ok (.iconst 0, 1) := by decide +kernel
theorem dX12_rectangle_125 : decode cX12_rectangle 125 = .ok (.aload_n 0, 1) := by decide +kernel
theorem dX12_rectangle_126 : decode cX12_rectangle 126 = .ok (.getfield 379, 3) := by decide +kernel
theorem dX12_rectangle_129 : decode cX12_rectangle 129 = .ok (.aload_n 0, 1) := by decide +kernel
theorem dX12_rectangle_130 : decode cX12_rectangle 130 = .ok (.getfield 9, 3) := by decide +kernel
theorem dX12_rectangle_133 : decode cX12_rectangle 133 = .ok (.sipush 144, 3) := by decide +kernel
theorem dX12_rectangle_136 : decode cX12_rectangle 136 = .ok (.iaload, 1) := by decide +kernel
theorem dX12_rectangle_137 : decode cX12_rectangle 137 = .ok (.invokevirtual 449, 3) := by decide +kernel
theorem dX12_rectangle_140 : decode cX12_rectangle 140 = .ok (.aload_n 0, 1) := by decide +kernel
theorem dX12_rectangle_141 : decode cX12_rectangle 141 = .ok (.getfield 9, 3) := by decide +kernel
theorem dX12_rectangle_144 : decode cX12_rectangle 144 = .ok (.sipush 189, 3) := by decide +kernel
theorem dX12_rectangle_147 : decode cX12_rectangle 147 = .ok (.iaload, 1) := by decide +kernel
theorem dX12_rectangle_148 : decode cX12_rectangle 148 = .ok (.bipush 96, 2) := by decide +kernel
theorem dX12_rectangle_150 : decode cX12_rectangle 150 = .ok (.idiv, 1) := by decide +kernel
theorem dX12_rectangle_151 : decode cX12_rectangle 151 = .ok (.istore_n 3, 1) := by decide +kernel
theorem dX12_rectangle_152 : decode cX12_rectangle 152 = .ok (.aload_n 0, 1) := by decide +kernel
theorem dX12_rectangle_153 : decode cX12_rectangle 153 = .ok (.getfield 9, 3) := by decide +kernel
theorem dX12_rectangle_156 : decode cX12_rectangle 156 = .ok (.sipush 190, 3) := by decide +kernel
theorem dX12_rectangle_159 : decode cX12_rectangle 159 = .ok (.iaload, 1) := by decide +kernel
theorem dX12_rectangle_160 : decode cX12_rectangle 160 = .ok (.bipush 96, 2) := by decide +kernel
theorem dX12_rectangle_162 : decode cX12_rectangle 162 = .ok (.idiv, 1) := by decide +kernel
theorem dX12_rectangle_163 : decode cX12_rectangle 163 = .ok (.istore 4, 2) := by decide +kernel
theorem dX12_rectangle_165 : decode cX12_rectangle 165 = .ok (.iconst 0, 1) := by decide +kernel
theorem dX12_rectangle_166 : decode cX12_rectangle 166 = .ok (.istore 5, 2) := by decide +kernel
theorem dX12_rectangle_168 : decode cX12_rectangle 168 = .ok (.iload 5, 2) := by decide +kernel
theorem dX12_rectangle_170 : decode cX12_rectangle 170 = .ok (.iload_n 2, 1) := by decide +kernel
theorem dX12_rectangle_171 : decode cX12_rectangle 171 = .ok (.if_icmp .ge 61, 3) := by decide +kernel
theorem dX12_rectangle_174 : decode cX12_rectangle 174 = .ok (.iload 4, 2) := by decide +kernel
theorem dX12_rectangle_176 : decode cX12_rectangle 176 = .ok (.iload 5, 2) := by decide +kernel
theorem dX12_rectangle_178 : decode cX12_rectangle 178 = .ok (.iadd, 1) := by decide +kernel
theorem dX12_rectangle_179 : decode cX12_rectangle 179 = .ok (.aload_n 0, 1) := by decide +kernel
theorem dX12_rectangle_180 : decode cX12_rectangle 180 = .ok (.invokevirtual 176, 3) := by decide +kernel
theorem dX12_rectangle_183 : decode cX12_rectangle 183 = .ok (.if_icmp .ge 49, 3) := by decide +kernel
theorem dX12_rectangle_186 : decode cX12_rectangle 186 = .ok (.iconst 0, 1) := by decide +kernel
theorem dX12_rectangle_187 : decode cX12_rectangle 187 = .ok (.istore 6, 2) := by decide +kernel
theorem dX12_rectangle_189 : decode cX12_rectangle 189 = .ok (.iload 6, 2) := by decide +kernel
theorem dX12_rectangle_191 : decode cX12_rectangle 191 = .ok (.iload_n 1, 1) := by decide +kernel
theorem dX12_rectangle_192 : decode cX12_rectangle 192 = .ok (.if_icmp .ge 34, 3) := by decide +kernel
theorem dX12_rectangle_195 : decode cX12_rectangle 195 = .ok (.iload_n 3, 1) := by decide +kernel
theorem dX12_rectangle_196 : decode cX12_rectangle 196 = .ok (.iload 6, 2) := by decide +kernel
theorem dX12_rectangle_198 : decode cX12_rectangle 198 = .ok (.iadd, 1) := by decide +kernel
theorem dX12_rectangle_199 : decode cX12_rectangle 199 = .ok (.aload_n 0, 1) := by decide +kernel
theorem dX12_rectangle_200 : decode cX12_rectangle 200 = .ok (.invokevirtual 172, 3) := by decide +kernel
theorem dX12_rectangle_203 : decode cX12_rectangle 203 = .ok (.if_icmp .ge 23, 3) := by decide +kernel
theorem dX12_rectangle_206 : decode cX12_rectangle 206 = .ok (.aload_n 0, 1) := by decide +kernel
theorem dX12_rectangle_207 : decode cX12_rectangle 207 = .ok (.iload_n 3, 1) := by decide +kernel
theorem dX12_rectangle_208 : decode cX12_rectangle 208 = .ok (.iload 6, 2) := by decide +kernel
theorem dX12_rectangle_210 : decode cX12_rectangle 210 = .ok (.iadd, 1) := by decide +kernel
theorem dX12_rectangle_211 : decode cX12_rectangle 211 = .ok (.iload 4, 2) := by decide +kernel
theorem dX12_rectangle_213 : decode cX12_rectangle 213 = .ok (.iload 5, 2) := by decide +kernel
theorem dX12_rectangle_215 : decode cX12_rectangle 215 = .ok (.iadd, 1) := by decide +kernel
theorem dX12_rectangle_216 : decode cX12_rectangle 216 = .ok (.iconst 1, 1) := by decide +kernel
theorem dX12_rectangle_217 : decode cX12_rectangle 217 = .ok (.invokevirtual 331, 3) := by decide +kernel
theorem dX12_rectangle_220 : decode cX12_rectangle 220 = .ok (.iinc 6 1, 3) := by decide +kernel
theorem dX12_rectangle_223 : decode cX12_rectangle 223 = .ok (.goto (-34), 3) := by decide +kernel
theorem dX12_rectangle_226 : decode cX12_rectangle 226 = .ok (.iinc 5 1, 3) := by decide +kernel
theorem dX12_rectangle_229 : decode cX12_rectangle 229 = .ok (.goto (-61), 3) := by decide +kernel
theorem dX12_rectangle_232 : decode cX12_rectangle 232 = .ok (.return_, 1) := by decide +kernel
noncomputable def f_X12_rectangle_b189 (k168 : Int32 → Int32 → Int32 → Int32 → Int32 → Mm → Option (Unit × Mm)) (k189 : Int32 → Int32 → Int32 → Int32 → Int32 → Int32 → Mm → Option (Unit × Mm)) (a1 : Int32) (a2 : Int32) (a3 : Int32) (a4 : Int32) (a5 : Int32) (a6 : Int32) (T : Mm) : Option (Unit × Mm) :=
  if a1 ≤ a6 then (k168 a1 a2 a3 a4 (a5 + 1) T)
  else (bd (f_X12_wide T) fun v1 T2 =>
  if v1 ≤ (a3 + a6) then (k168 a1 a2 a3 a4 (a5 + 1) T2)
  else (bd (f_X12_lay_ (a3 + a6) (a4 + a5) 1 T2) fun _ T3 =>
  k189 a1 a2 a3 a4 a5 (a6 + 1) T3))
set_option maxRecDepth 100000 in
set_option maxHeartbeats 4000000 in
theorem s_X12_rectangle_b189 {x : JX} {ad : Nat → Nat} {U : Mm} {S0 : Hp} {q : Unit × Mm}  {k168 : Int32 → Int32 → Int32 → Int32 → Int32 → Mm → Option (Unit × Mm)} {k189 : Int32 → Int32 → Int32 → Int32 → Int32 → Int32 → Mm → Option (Unit × Mm)} (hn9 : x_n x = 7) (C : CB x RX12 cX12_rectangle) (M : CMr x 4 none S0 ad false U eV q) (hk168 : ∀ (a1 : Int32) (a2 : Int32) (a3 : Int32) (a4 : Int32) (a5 : Int32) (T : Mm), k168 a1 a2 a3 a4 a5 T = some q → Jr x ad false U T [(0, .ref (ad 133)), (1, .int a1), (2, .int a2), (3, .int a3), (4, .int a4), (5, .int a5)] 168 []) (hk189 : ∀ (a1 : Int32) (a2 : Int32) (a3 : Int32) (a4 : Int32) (a5 : Int32) (a6 : Int32) (T : Mm), k189 a1 a2 a3 a4 a5 a6 T = some q → Jr x ad false U T [(0, .ref (ad 133)), (1, .int a1), (2, .int a2), (3, .int a3), (4, .int a4), (5, .int a5), (6, .int a6)] 189 []) (a1 : Int32) (a2 : Int32) (a3 : Int32) (a4 : Int32) (a5 : Int32) (a6 : Int32) (T : Mm) (h : f_X12_rectangle_b189 k168 k189 a1 a2 a3 a4 a5 a6 T = some q) : Jr x ad false U T [(0, .ref (ad 133)), (1, .int a1), (2, .int a2), (3, .int a3), (4, .int a4), (5, .int a5), (6, .int a6)] 189 [] := by
  unfold f_X12_rectangle_b189 at h
  refine r_iload C dX12_rectangle_189 6 rfl ?_
  refine r_iload_n C dX12_rectangle_191 rfl 1 rfl ?_
  refine r_ic_ge (tgt := 226) C dX12_rectangle_192 (by decide) h (fun h => ?_) (fun h => ?_)
  · refine r_iinc (q := 5) (v := (a5 + 1)) (lv' := [(5, .int (a5 + 1)), (0, .ref (ad 133)), (1, .int a1), (2, .int a2), (3, .int a3), (4, .int a4), (6, .int a6)]) C dX12_rectangle_226 rfl (by rw [show Int32.ofInt (1) = 1 by decide]) (by rw [hn9]; decide) rfl ?_
    refine r_goto (tgt := 168) C dX12_rectangle_229 (by decide) ?_
    refine Jr.sub [1, 2, 3, 4, 5, 0] (lv' := [(0, .ref (ad 133)), (1, .int a1), (2, .int a2), (3, .int a3), (4, .int a4), (5, .int (a5 + 1))]) rfl ?_
    exact hk168 a1 a2 a3 a4 (a5 + 1) T h
  · refine r_iload_n C dX12_rectangle_195 rfl 3 rfl ?_
    refine r_iload C dX12_rectangle_196 6 rfl ?_
    refine r_iadd C dX12_rectangle_198 rfl ?_
    refine r_aload_n C dX12_rectangle_199 rfl 0 rfl ?_
    refine r_callVI C M h [] [.int (a3 + a6)] mlX12_172 mcX12_wide (fun q9 e9 => s_X12_wide   e9) kq_133 rfl (by decide) (by decide) rfl rfl (Nat.le_of_ble_eq_true rfl) dX12_rectangle_200 (fun v1 T2 h => ?_)
    show Jr _ _ _ _ _ _ 203 _
    refine r_ic_ge (tgt := 226) C dX12_rectangle_203 (by decide) h (fun h => ?_) (fun h => ?_)
    · refine r_iinc (q := 5) (v := (a5 + 1)) (lv' := [(5, .int (a5 + 1)), (0, .ref (ad 133)), (1, .int a1), (2, .int a2), (3, .int a3), (4, .int a4), (6, .int a6)]) C dX12_rectangle_226 rfl (by rw [show Int32.ofInt (1) = 1 by decide]) (by rw [hn9]; decide) rfl ?_
      refine r_goto (tgt := 168) C dX12_rectangle_229 (by decide) ?_
      refine Jr.sub [1, 2, 3, 4, 5, 0] (lv' := [(0, .ref (ad 133)), (1, .int a1), (2, .int a2), (3, .int a3), (4, .int a4), (5, .int (a5 + 1))]) rfl ?_
      exact hk168 a1 a2 a3 a4 (a5 + 1) T2 h
    · refine r_aload_n C dX12_rectangle_206 rfl 0 rfl ?_
      refine r_iload_n C dX12_rectangle_207 rfl 3 rfl ?_
      refine r_iload C dX12_rectangle_208 6 rfl ?_
      refine r_iadd C dX12_rectangle_210 rfl ?_
      refine r_iload C dX12_rectangle_211 4 rfl ?_
      show Jr _ _ _ _ _ _ 213 _
      refine r_iload C dX12_rectangle_213 5 rfl ?_
      refine r_iadd C dX12_rectangle_215 rfl ?_
      refine r_iconst (v := 1) C dX12_rectangle_216 (by decide) ?_
      refine r_callVN C M h [.int (a3 + a6), .int (a4 + a5), .int 1] [] mlX12_331 mcX12_lay_ (fun q9 e9 => s_X12_lay_ (a3 + a6) (a4 + a5) 1  e9) kq_133 rfl (by decide) (by decide) rfl rfl (Nat.le_of_ble_eq_true rfl) dX12_rectangle_217 (fun _ T3 h => ?_)
      refine r_iinc (q := 6) (v := (a6 + 1)) (lv' := [(6, .int (a6 + 1)), (0, .ref (ad 133)), (1, .int a1), (2, .int a2), (3, .int a3), (4, .int a4), (5, .int a5)]) C dX12_rectangle_220 rfl (by rw [show Int32.ofInt (1) = 1 by decide]) (by rw [hn9]; decide) rfl ?_
      refine r_goto (tgt := 189) C dX12_rectangle_223 (by decide) ?_
      refine Jr.sub [1, 2, 3, 4, 5, 6, 0] (lv' := [(0, .ref (ad 133)), (1, .int a1), (2, .int a2), (3, .int a3), (4, .int a4), (5, .int a5), (6, .int (a6 + 1))]) rfl ?_
      exact hk189 a1 a2 a3 a4 a5 (a6 + 1) T3 h
noncomputable def f_X12_rectangle_l189 (k168 : Int32 → Int32 → Int32 → Int32 → Int32 → Mm → Option (Unit × Mm)) (n : Nat) : Int32 → Int32 → Int32 → Int32 → Int32 → Int32 → Mm → Option (Unit × Mm) := Nat.rec (fun _ _ _ _ _ _ _ => none) (fun _ ih => f_X12_rectangle_b189 k168 ih) n
theorem s_X12_rectangle_l189 {x : JX} {ad : Nat → Nat} {U : Mm} {S0 : Hp} {q : Unit × Mm}  {k168 : Int32 → Int32 → Int32 → Int32 → Int32 → Mm → Option (Unit × Mm)} (hn9 : x_n x = 7) (C : CB x RX12 cX12_rectangle) (M : CMr x 4 none S0 ad false U eV q) (hk168 : ∀ (a1 : Int32) (a2 : Int32) (a3 : Int32) (a4 : Int32) (a5 : Int32) (T : Mm), k168 a1 a2 a3 a4 a5 T = some q → Jr x ad false U T [(0, .ref (ad 133)), (1, .int a1), (2, .int a2), (3, .int a3), (4, .int a4), (5, .int a5)] 168 []) : ∀ (n : Nat), ∀ (a1 : Int32) (a2 : Int32) (a3 : Int32) (a4 : Int32) (a5 : Int32) (a6 : Int32) (T : Mm), f_X12_rectangle_l189 k168 n a1 a2 a3 a4 a5 a6 T = some q → Jr x ad false U T [(0, .ref (ad 133)), (1, .int a1), (2, .int a2), (3, .int a3), (4, .int a4), (5, .int a5), (6, .int a6)] 189 [] := by
  intro n
  induction n with
  | zero => intro a1 a2 a3 a4 a5 a6 T  h; exact absurd h (by intro h; cases h)
  | succ n ih => exact fun a1 a2 a3 a4 a5 a6 T  h => s_X12_rectangle_b189 hn9 C M hk168 (ih) a1 a2 a3 a4 a5 a6 T  h
noncomputable def f_X12_rectangle_b168 (k168 : Int32 → Int32 → Int32 → Int32 → Int32 → Mm → Option (Unit × Mm)) (a1 : Int32) (a2 : Int32) (a3 : Int32) (a4 : Int32) (a5 : Int32) (T : Mm) : Option (Unit × Mm) :=
  if a2 ≤ a5 then (some ((), T))
  else (bd (f_X12_high T) fun v1 T2 =>
  if v1 ≤ (a4 + a5) then (some ((), T2))
  else (f_X12_rectangle_l189 k168 FU a1 a2 a3 a4 a5 0 T2))
set_option maxRecDepth 100000 in
set_option maxHeartbeats 4000000 in
theorem s_X12_rectangle_b168 {x : JX} {ad : Nat → Nat} {U : Mm} {S0 : Hp} {q : Unit × Mm}  {k168 : Int32 → Int32 → Int32 → Int32 → Int32 → Mm → Option (Unit × Mm)} (hn9 : x_n x = 7) (C : CB x RX12 cX12_rectangle) (M : CMr x 4 none S0 ad false U eV q) (hk168 : ∀ (a1 : Int32) (a2 : Int32) (a3 : Int32) (a4 : Int32) (a5 : Int32) (T : Mm), k168 a1 a2 a3 a4 a5 T = some q → Jr x ad false U T [(0, .ref (ad 133)), (1, .int a1), (2, .int a2), (3, .int a3), (4, .int a4), (5, .int a5)] 168 []) (a1 : Int32) (a2 : Int32) (a3 : Int32) (a4 : Int32) (a5 : Int32) (T : Mm) (h : f_X12_rectangle_b168 k168 a1 a2 a3 a4 a5 T = some q) : Jr x ad false U T [(0, .ref (ad 133)), (1, .int a1), (2, .int a2), (3, .int a3), (4, .int a4), (5, .int a5)] 168 [] := by
  unfold f_X12_rectangle_b168 at h
  refine r_iload C dX12_rectangle_168 5 rfl ?_
  refine r_iload_n C dX12_rectangle_170 rfl 2 rfl ?_
  refine r_ic_ge (tgt := 232) C dX12_rectangle_171 (by decide) h (fun h => ?_) (fun h => ?_)
  · exact r_vret C M dX12_rectangle_232 h
  · refine r_iload C dX12_rectangle_174 4 rfl ?_
    refine r_iload C dX12_rectangle_176 5 rfl ?_
    refine r_iadd C dX12_rectangle_178 rfl ?_
    refine r_aload_n C dX12_rectangle_179 rfl 0 rfl ?_
    refine r_callVI C M h [] [.int (a4 + a5)] mlX12_176 mcX12_high (fun q9 e9 => s_X12_high   e9) kq_133 rfl (by decide) (by decide) rfl rfl (Nat.le_of_ble_eq_true rfl) dX12_rectangle_180 (fun v1 T2 h => ?_)
    show Jr _ _ _ _ _ _ 183 _
    refine r_ic_ge (tgt := 232) C dX12_rectangle_183 (by decide) h (fun h => ?_) (fun h => ?_)
    · exact r_vret C M dX12_rectangle_232 h
    · refine r_iconst (v := 0) C dX12_rectangle_186 (by decide) ?_
      refine r_istore (lv' := [(6, .int 0), (0, .ref (ad 133)), (1, .int a1), (2, .int a2), (3, .int a3), (4, .int a4), (5, .int a5)]) C dX12_rectangle_187 (by rw [hn9]; decide) rfl ?_
      refine Jr.sub [1, 2, 3, 4, 5, 6, 0] (lv' := [(0, .ref (ad 133)), (1, .int a1), (2, .int a2), (3, .int a3), (4, .int a4), (5, .int a5), (6, .int 0)]) rfl ?_
      exact s_X12_rectangle_l189 hn9 C M hk168 FU a1 a2 a3 a4 a5 0 T2 h
noncomputable def f_X12_rectangle_l168 (n : Nat) : Int32 → Int32 → Int32 → Int32 → Int32 → Mm → Option (Unit × Mm) := Nat.rec (fun _ _ _ _ _ _ => none) (fun _ ih => f_X12_rectangle_b168 ih) n
theorem s_X12_rectangle_l168 {x : JX} {ad : Nat → Nat} {U : Mm} {S0 : Hp} {q : Unit × Mm}  (hn9 : x_n x = 7) (C : CB x RX12 cX12_rectangle) (M : CMr x 4 none S0 ad false U eV q) : ∀ (n : Nat), ∀ (a1 : Int32) (a2 : Int32) (a3 : Int32) (a4 : Int32) (a5 : Int32) (T : Mm), f_X12_rectangle_l168  n a1 a2 a3 a4 a5 T = some q → Jr x ad false U T [(0, .ref (ad 133)), (1, .int a1), (2, .int a2), (3, .int a3), (4, .int a4), (5, .int a5)] 168 [] := by
  intro n
  induction n with
  | zero => intro a1 a2 a3 a4 a5 T  h; exact absurd h (by intro h; cases h)
  | succ n ih => exact fun a1 a2 a3 a4 a5 T  h => s_X12_rectangle_b168 hn9 C M (ih) a1 a2 a3 a4 a5 T  h
noncomputable def f_X12_rectangle_140 (a1 : Int32) (a2 : Int32) (T : Mm) : Option (Unit × Mm) :=
  lb (((gA T 134 189) / 96)) fun v1 =>
  lb (((gA T 134 190) / 96)) fun v2 =>
  f_X12_rectangle_l168 FU a1 a2 v1 v2 0 T
set_option maxRecDepth 100000 in
set_option maxHeartbeats 4000000 in
theorem s_X12_rectangle_140 {x : JX} {ad : Nat → Nat} {U : Mm} {S0 : Hp} {q : Unit × Mm}  (hn9 : x_n x = 7) (C : CB x RX12 cX12_rectangle) (M : CMr x 4 none S0 ad false U eV q) (a1 : Int32) (a2 : Int32) (T : Mm) (h : f_X12_rectangle_140  a1 a2 T = some q) : Jr x ad false U T [(0, .ref (ad 133)), (1, .int a1), (2, .int a2)] 140 [] := by
  unfold f_X12_rectangle_140 at h
  refine r_aload_n C dX12_rectangle_140 rfl 0 rfl ?_
  refine r_getp (f := 1200) (j := 134) C flX12_9 dX12_rectangle_141 kq_133 (by decide) rfl (fun W => pt_1200 kq_133 W) ?_
  refine r_sipush (v := 189) C dX12_rectangle_144 (by decide) ?_
  refine r_ialdc (n := 192) C 189 dX12_rectangle_147 kq_134 lq_134 (vp_lit (by decide)) (by decide) ?_
  refine r_bipush (v := 96) C dX12_rectangle_148 (by decide) ?_
  show Jr _ _ _ _ _ _ 150 _
  refine r_idiv C dX12_rectangle_150 (by decide) rfl ?_
  refine r_lbI h (fun v1 h => ?_)
  refine r_istore_n (lv' := [(3, .int v1), (0, .ref (ad 133)), (1, .int a1), (2, .int a2)]) C dX12_rectangle_151 rfl (by rw [hn9]; decide) rfl ?_
  refine r_aload_n C dX12_rectangle_152 rfl 1 rfl ?_
  refine r_getp (f := 1200) (j := 134) C flX12_9 dX12_rectangle_153 kq_133 (by decide) rfl (fun W => pt_1200 kq_133 W) ?_
  refine r_sipush (v := 190) C dX12_rectangle_156 (by decide) ?_
  refine r_ialdc (n := 192) C 190 dX12_rectangle_159 kq_134 lq_134 (vp_lit (by decide)) (by decide) ?_
  show Jr _ _ _ _ _ _ 160 _
  refine r_bipush (v := 96) C dX12_rectangle_160 (by decide) ?_
  refine r_idiv C dX12_rectangle_162 (by decide) rfl ?_
  refine r_lbI h (fun v2 h => ?_)
  refine r_istore (lv' := [(4, .int v2), (3, .int v1), (0, .ref (ad 133)), (1, .int a1), (2, .int a2)]) C dX12_rectangle_163 (by rw [hn9]; decide) rfl ?_
  refine r_iconst (v := 0) C dX12_rectangle_165 (by decide) ?_
  refine r_istore (lv' := [(5, .int 0), (4, .int v2), (3, .int v1), (0, .ref (ad 133)), (1, .int a1), (2, .int a2)]) C dX12_rectangle_166 (by rw [hn9]; decide) rfl ?_
  refine Jr.sub [3, 4, 5, 2, 1, 0] (lv' := [(0, .ref (ad 133)), (1, .int a1), (2, .int a2), (3, .int v1), (4, .int v2), (5, .int 0)]) rfl ?_
  exact s_X12_rectangle_l168 hn9 C M  FU a1 a2 v1 v2 0 T h
noncomputable def f_X12_rectangle_60 (a1 : Int32) (a2 : Int32) (T : Mm) : Option (Unit × Mm) :=
  if a1 = 0 then (some ((), T))
  else (if a2 = 0 then (some ((), T))
  else (bd (f_X12_mark ((((gA T 134 189) / 96)).toInt64) ((((gA T 134 190) / 96)).toInt64) ((a1).toInt64) ((a2).toInt64) T) fun v1 T2 =>
  if v1 = 0 then (some ((), T2))
  else (if (gI T2 1251 133) = 5 then (bd (f_X12_useAtHand T2) fun _ T4 =>
  f_X12_rectangle_140 a1 a2 T4)
  else (bd (f_X12_putPattern 163 0 (gI T2 1251 133) (gA T2 134 144) T2) fun _ T3 =>
  f_X12_rectangle_140 a1 a2 T3))))
set_option maxRecDepth 100000 in
set_option maxHeartbeats 4000000 in
theorem s_X12_rectangle_60 {x : JX} {ad : Nat → Nat} {U : Mm} {S0 : Hp} {q : Unit × Mm}  (hn9 : x_n x = 7) (C : CB x RX12 cX12_rectangle) (M : CMr x 4 none S0 ad false U eV q) (a1 : Int32) (a2 : Int32) (T : Mm) (h : f_X12_rectangle_60  a1 a2 T = some q) : Jr x ad false U T [(0, .ref (ad 133)), (1, .int a1), (2, .int a2)] 60 [] := by
  unfold f_X12_rectangle_60 at h
  refine r_iload_n C dX12_rectangle_60 rfl 1 rfl ?_
  refine r_if_eq (tgt := 103) C dX12_rectangle_61 (by decide) h (fun h => ?_) (fun h => ?_)
  · exact r_vret C M dX12_rectangle_103 h
  · refine r_iload_n C dX12_rectangle_64 rfl 2 rfl ?_
    refine r_if_eq (tgt := 103) C dX12_rectangle_65 (by decide) h (fun h => ?_) (fun h => ?_)
    · exact r_vret C M dX12_rectangle_103 h
    · refine r_aload_n C dX12_rectangle_68 rfl 0 rfl ?_
      refine r_aload_n C dX12_rectangle_69 rfl 0 rfl ?_
      refine r_getp (f := 1200) (j := 134) C flX12_9 dX12_rectangle_70 kq_133 (by decide) rfl (fun W => pt_1200 kq_133 W) ?_
      refine r_sipush (v := 189) C dX12_rectangle_73 (by decide) ?_
      refine r_ialdc (n := 192) C 189 dX12_rectangle_76 kq_134 lq_134 (vp_lit (by decide)) (by decide) ?_
      show Jr _ _ _ _ _ _ 77 _
      refine r_bipush (v := 96) C dX12_rectangle_77 (by decide) ?_
      refine r_idiv C dX12_rectangle_79 (by decide) rfl ?_
      refine r_i2l C dX12_rectangle_80 rfl ?_
      refine r_aload_n C dX12_rectangle_81 rfl 0 rfl ?_
      refine r_getp (f := 1200) (j := 134) C flX12_9 dX12_rectangle_82 kq_133 (by decide) rfl (fun W => pt_1200 kq_133 W) ?_
      refine r_sipush (v := 190) C dX12_rectangle_85 (by decide) ?_
      show Jr _ _ _ _ _ _ 88 _
      refine r_ialdc (n := 192) C 190 dX12_rectangle_88 kq_134 lq_134 (vp_lit (by decide)) (by decide) ?_
      refine r_bipush (v := 96) C dX12_rectangle_89 (by decide) ?_
      refine r_idiv C dX12_rectangle_91 (by decide) rfl ?_
      refine r_i2l C dX12_rectangle_92 rfl ?_
      refine r_iload_n C dX12_rectangle_93 rfl 1 rfl ?_
      refine r_i2l C dX12_rectangle_94 rfl ?_
      show Jr _ _ _ _ _ _ 95 _
      refine r_iload_n C dX12_rectangle_95 rfl 2 rfl ?_
      refine r_i2l C dX12_rectangle_96 rfl ?_
      refine r_callVI C M h [.long ((((gA T 134 189) / 96)).toInt64), .long ((((gA T 134 190) / 96)).toInt64), .long ((a1).toInt64), .long ((a2).toInt64)] [] mlX12_317 mcX12_mark (fun q9 e9 => s_X12_mark ((((gA T 134 189) / 96)).toInt64) ((((gA T 134 190) / 96)).toInt64) ((a1).toInt64) ((a2).toInt64)  e9) kq_133 rfl (by decide) (by decide) rfl rfl (Nat.le_of_ble_eq_true rfl) dX12_rectangle_97 (fun v1 T2 h => ?_)
      refine r_if_ne (tgt := 104) C dX12_rectangle_100 (by decide) h (fun h => ?_) (fun h => ?_)
      · refine r_aload_n C dX12_rectangle_104 rfl 0 rfl ?_
        refine r_geti (f := 1251) C flX12_379 dX12_rectangle_105 kq_133 (by decide) (by decide) rfl ?_
        refine r_iconst (v := 5) C dX12_rectangle_108 (by decide) ?_
        refine r_ic_ne (tgt := 119) C dX12_rectangle_109 (by decide) h (fun h => ?_) (fun h => ?_)
        · refine r_aload_n C dX12_rectangle_119 rfl 0 rfl ?_
          refine r_aload_n C dX12_rectangle_120 rfl 0 rfl ?_
          refine r_getp (f := 1248) (j := 163) C flX12_102 dX12_rectangle_121 kq_133 (by decide) rfl (fun W => pt_1248 kq_133 W) ?_
          refine r_iconst (v := 0) C dX12_rectangle_124 (by decide) ?_
          refine r_aload_n C dX12_rectangle_125 rfl 0 rfl ?_
          show Jr _ _ _ _ _ _ 126 _
          refine r_geti (f := 1251) C flX12_379 dX12_rectangle_126 kq_133 (by decide) (by decide) rfl ?_
          refine r_aload_n C dX12_rectangle_129 rfl 0 rfl ?_
          refine r_getp (f := 1200) (j := 134) C flX12_9 dX12_rectangle_130 kq_133 (by decide) rfl (fun W => pt_1200 kq_133 W) ?_
          refine r_sipush (v := 144) C dX12_rectangle_133 (by decide) ?_
          refine r_ialdc (n := 192) C 144 dX12_rectangle_136 kq_134 lq_134 (vp_lit (by decide)) (by decide) ?_
          refine r_callVN C M h [.ref (ad 163), .int 0, .int (gI T2 1251 133), .int (gA T2 134 144)] [] mlX12_449 mcX12_putPattern (fun q9 e9 => s_X12_putPattern 163 0 (gI T2 1251 133) (gA T2 134 144) kq_163 e9) kq_133 rfl (by decide) (by decide) rfl rfl (Nat.le_of_ble_eq_true rfl) dX12_rectangle_137 (fun _ T3 h => ?_)
          exact s_X12_rectangle_140 hn9 C M  a1 a2 T3 h
        · refine r_aload_n C dX12_rectangle_112 rfl 0 rfl ?_
          refine r_callVN C M h [] [] mlX12_321 mcX12_useAtHand (fun q9 e9 => s_X12_useAtHand   e9) kq_133 rfl (by decide) (by decide) rfl rfl (Nat.le_of_ble_eq_true rfl) dX12_rectangle_113 (fun _ T4 h => ?_)
          refine r_goto (tgt := 140) C dX12_rectangle_116 (by decide) ?_
          exact s_X12_rectangle_140 hn9 C M  a1 a2 T4 h
      · exact r_vret C M dX12_rectangle_103 h
noncomputable def f_X12_rectangle (T : Mm) : Option (Unit × Mm) :=
  lb ((gA T 134 140)) fun v1 =>
  lb ((gA T 134 141)) fun v2 =>
  if (gI T 1251 133) < 0 then (some ((), T))
  else (if 5 < (gI T 1251 133) then (some ((), T))
  else (if 5 ≤ (gI T 1251 133) then (f_X12_rectangle_60 v1 v2 T)
  else (bd (f_X12_hasPattern (gI T 1251 133) (gA T 134 144) T) fun v3 T4 =>
  if v3 = 0 then (some ((), T4))
  else (f_X12_rectangle_60 v1 v2 T4))))
set_option maxRecDepth 100000 in
set_option maxHeartbeats 4000000 in
theorem s_X12_rectangle {ad : Nat → Nat} {U T : Mm} {q : Unit × Mm}  (h : f_X12_rectangle  T = some q) : Cr 4 yX12_rectangle cX12_rectangle 7 none [.ref (ad 133)] ad false U T eV q := by
  refine cr_of (by decide) (Nat.le_of_ble_eq_true rfl) fun x S0 hn9 C M => ?_
  have C : CB x RX12 cX12_rectangle := C
  refine Jr.eq (lv' := [(0, .ref (ad 133))]) (st' := []) rfl rfl ?_
  unfold f_X12_rectangle at h
  refine r_aload_n C dX12_rectangle_0 rfl 0 rfl ?_
  refine r_getp (f := 1200) (j := 134) C flX12_9 dX12_rectangle_1 kq_133 (by decide) rfl (fun W => pt_1200 kq_133 W) ?_
  refine r_sipush (v := 140) C dX12_rectangle_4 (by decide) ?_
  refine r_ialdc (n := 192) C 140 dX12_rectangle_7 kq_134 lq_134 (vp_lit (by decide)) (by decide) ?_
  refine r_lbI h (fun v1 h => ?_)
  refine r_istore_n (lv' := [(1, .int v1), (0, .ref (ad 133))]) C dX12_rectangle_8 rfl (by rw [hn9]; decide) rfl ?_
  show Jr _ _ _ _ _ _ 9 _
  refine r_aload_n C dX12_rectangle_9 rfl 1 rfl ?_
  refine r_getp (f := 1200) (j := 134) C flX12_9 dX12_rectangle_10 kq_133 (by decide) rfl (fun W => pt_1200 kq_133 W) ?_
  refine r_sipush (v := 141) C dX12_rectangle_13 (by decide) ?_
  refine r_ialdc (n := 192) C 141 dX12_rectangle_16 kq_134 lq_134 (vp_lit (by decide)) (by decide) ?_
  refine r_lbI h (fun v2 h => ?_)
  refine r_istore_n (lv' := [(2, .int v2), (1, .int v1), (0, .ref (ad 133))]) C dX12_rectangle_17 rfl (by rw [hn9]; decide) rfl ?_
  refine r_aload_n C dX12_rectangle_18 rfl 2 rfl ?_
  show Jr _ _ _ _ _ _ 19 _
  refine r_geti (f := 1251) C flX12_379 dX12_rectangle_19 kq_133 (by decide) (by decide) rfl ?_
  refine r_if_lt (tgt := 103) C dX12_rectangle_22 (by decide) h (fun h => ?_) (fun h => ?_)
  · exact r_vret C M dX12_rectangle_103 h
  · refine r_aload_n C dX12_rectangle_25 rfl 2 rfl ?_
    refine r_geti (f := 1251) C flX12_379 dX12_rectangle_26 kq_133 (by decide) (by decide) rfl ?_
    refine r_iconst (v := 5) C dX12_rectangle_29 (by decide) ?_
    refine r_ic_gt (tgt := 103) C dX12_rectangle_30 (by decide) h (fun h => ?_) (fun h => ?_)
    · exact r_vret C M dX12_rectangle_103 h
    · refine r_aload_n C dX12_rectangle_33 rfl 2 rfl ?_
      refine r_geti (f := 1251) C flX12_379 dX12_rectangle_34 kq_133 (by decide) (by decide) rfl ?_
      refine r_iconst (v := 5) C dX12_rectangle_37 (by decide) ?_
      refine r_ic_ge (tgt := 60) C dX12_rectangle_38 (by decide) h (fun h => ?_) (fun h => ?_)
      · refine Jr.sub [2, 1, 0] (lv' := [(0, .ref (ad 133)), (1, .int v1), (2, .int v2)]) rfl ?_
        exact s_X12_rectangle_60 hn9 C M  v1 v2 T h
      · refine r_aload_n C dX12_rectangle_41 rfl 2 rfl ?_
        refine r_aload_n C dX12_rectangle_42 rfl 2 rfl ?_
        refine r_geti (f := 1251) C flX12_379 dX12_rectangle_43 kq_133 (by decide) (by decide) rfl ?_
        refine r_aload_n C dX12_rectangle_46 rfl 2 rfl ?_
        refine r_getp (f := 1200) (j := 134) C flX12_9 dX12_rectangle_47 kq_133 (by decide) rfl (fun W => pt_1200 kq_133 W) ?_
        show Jr _ _ _ _ _ _ 50 _
        refine r_sipush (v := 144) C dX12_rectangle_50 (by decide) ?_
        refine r_ialdc (n := 192) C 144 dX12_rectangle_53 kq_134 lq_134 (vp_lit (by decide)) (by decide) ?_
        refine r_callVI C M h [.int (gI T 1251 133), .int (gA T 134 144)] [] mlX12_445 mcX12_hasPattern (fun q9 e9 => s_X12_hasPattern (gI T 1251 133) (gA T 134 144)  e9) kq_133 rfl (by decide) (by decide) rfl rfl (Nat.le_of_ble_eq_true rfl) dX12_rectangle_54 (fun v3 T4 h => ?_)
        refine r_if_eq (tgt := 103) C dX12_rectangle_57 (by decide) h (fun h => ?_) (fun h => ?_)
        · exact r_vret C M dX12_rectangle_103 h
        · refine Jr.sub [2, 1, 0] (lv' := [(0, .ref (ad 133)), (1, .int v1), (2, .int v2)]) rfl ?_
          exact s_X12_rectangle_60 hn9 C M  v1 v2 T4 h
theorem dX12_fontAct_0 : decode cX12_fontAct 0 = .ok (.aload_n 0, 1) := by decide +kernel
theorem dX12_fontAct_1 : decode cX12_fontAct 1 = .ok (.getfield 9, 3) := by decide +kernel
theorem dX12_fontAct_4 : decode cX12_fontAct 4 = .ok (.sipush 142, 3) := by decide +kernel
theorem dX12_fontAct_7 : decode cX12_fontAct 7 = .ok (.iaload, 1) := by decide +kernel
theorem dX12_fontAct_8 : decode cX12_fontAct 8 = .ok (.istore_n 1, 1) := by decide +kernel
theorem dX12_fontAct_9 : decode cX12_fontAct 9 = .ok (.aload_n 0, 1) := by decide +kernel
theorem dX12_fontAct_10 : decode cX12_fontAct 10 = .ok (.getfield 379, 3) := by decide +kernel
theorem dX12_fontAct_13 : decode cX12_fontAct 13 = .ok (.ifCond .ne 11, 3) := by decide +kernel
theorem dX12_fontAct_16 : decode cX12_fontAct 16 = .ok (.aload_n 0, 1) := by decide +kernel
theorem dX12_fontAct_17 : decode cX12_fontAct 17 = .ok (.iconst 0, 1) := by decide +kernel
theorem dX12_fontAct_18 : decode cX12_fontAct 18 = .ok (.invokevirtual 244, 3) := by decide +kernel
theorem dX12_fontAct_21 : decode cX12_fontAct 21 = .ok (.goto 112, 3) := by decide +kernel
theorem dX12_fontAct_24 : decode cX12_fontAct 24 = .ok (.aload_n 0, 1) := by decide +kernel
theorem dX12_fontAct_25 : decode cX12_fontAct 25 = .ok (.getfield 379, 3) := by decide +kernel
theorem dX12_fontAct_28 : decode cX12_fontAct 28 = .ok (.iconst 1, 1) := by decide +kernel
theorem dX12_fontAct_29 : decode cX12_fontAct 29 = .ok (.if_icmp .ne 11, 3) := by decide +kernel
theorem dX12_fontAct_32 : decode cX12_fontAct 32 = .ok (.aload_n 0, 1) := by decide +kernel
theorem dX12_fontAct_33 : decode cX12_fontAct 33 = .ok (.iconst 1, 1) := by decide +kernel
theorem dX12_fontAct_34 : decode cX12_fontAct 34 = .ok (.invokevirtual 244, 3) := by decide +kernel
theorem dX12_fontAct_37 : decode cX12_fontAct 37 = .ok (.goto 96, 3) := by decide +kernel
theorem dX12_fontAct_40 : decode cX12_fontAct 40 = .ok (.aload_n 0, 1) := by decide +kernel
theorem dX12_fontAct_41 : decode cX12_fontAct 41 = .ok (.getfield 379, 3) := by decide +kernel
theorem dX12_fontAct_44 : decode cX12_fontAct 44 = .ok (.iconst 2, 1) := by decide +kernel
theorem dX12_fontAct_45 : decode cX12_fontAct 45 = .ok (.if_icmp .ne 20, 3) := by decide +kernel
theorem dX12_fontAct_48 : decode cX12_fontAct 48 = .ok (.aload_n 0, 1) := by decide +kernel
theorem dX12_fontAct_49 : decode cX12_fontAct 49 = .ok (.getfield 16, 3) := by decide +kernel
theorem dX12_fontAct_52 : decode cX12_fontAct 52 = .ok (.iload_n 1, 1) := by decide +kernel
theorem dX12_fontAct_53 : decode cX12_fontAct 53 = .ok (.baload, 1) := by decide +kernel
theorem dX12_fontAct_54 : decode cX12_fontAct 54 = .ok (.ifCond .eq 11, 3) := by decide +kernel
theorem dX12_fontAct_57 : decode cX12_fontAct 57 = .ok (.aload_n 0, 1) := by decide +kernel
theorem dX12_fontAct_58 : decode cX12_fontAct 58 = .ok (.iload_n 1, 1) := by decide +kernel
theorem dX12_fontAct_59 : decode cX12_fontAct 59 = .ok (.invokevirtual 254, 3) := by decide +kernel
theorem dX12_fontAct_62 : decode cX12_fontAct 62 = .ok (.goto 71, 3) := by decide +kernel
theorem dX12_fontAct_65 : decode cX12_fontAct 65 = .ok (.aload_n 0, 1) := by decide +kernel
theorem dX12_fontAct_66 : decode cX12_fontAct 66 = .ok (.getfield 379, 3) := by decide +kernel
theorem dX12_fontAct_69 : decode cX12_fontAct 69 = .ok (.iconst 3, 1) := by decide +kernel
theorem dX12_fontAct_70 : decode cX12_fontAct 70 = .ok (.if_icmp .ne 28, 3) := by decide +kernel
theorem dX12_fontAct_73 : decode cX12_fontAct 73 = .ok (.aload_n 0, 1) := by decide +kernel
theorem dX12_fontAct_74 : decode cX12_fontAct 74 = .ok (.getfield 16, 3) := by decide +kernel
theorem dX12_fontAct_77 : decode cX12_fontAct 77 = .ok (.iload_n 1, 1) := by decide +kernel
theorem dX12_fontAct_78 : decode cX12_fontAct 78 = .ok (.baload, 1) := by decide +kernel
theorem dX12_fontAct_79 : decode cX12_fontAct 79 = .ok (.ifCond .eq 19, 3) := by decide +kernel
theorem dX12_fontAct_82 : decode cX12_fontAct 82 = .ok (.aload_n 0, 1) := by decide +kernel
theorem dX12_fontAct_83 : decode cX12_fontAct 83 = .ok (.iload_n 1, 1) := by decide +kernel
theorem dX12_fontAct_84 : decode cX12_fontAct 84 = .ok (.aload_n 0, 1) := by decide +kernel
theorem dX12_fontAct_85 : decode cX12_fontAct 85 = .ok (.getfield 9, 3) := by decide +kernel
theorem dX12_fontAct_88 : decode cX12_fontAct 88 = .ok (.sipush 143, 3) := by decide +kernel
theorem dX12_fontAct_91 : decode cX12_fontAct 91 = .ok (.iaload, 1) := by decide +kernel
theorem dX12_fontAct_92 : decode cX12_fontAct 92 = .ok (.invokevirtual 257, 3) := by decide +kernel
theorem dX12_fontAct_95 : decode cX12_fontAct 95 = .ok (.goto 38, 3) := by decide +kernel
theorem dX12_fontAct_98 : decode cX12_fontAct 98 = .ok (.aload_n 0, 1) := by decide +kernel
theorem dX12_fontAct_99 : decode cX12_fontAct 99 = .ok (.getfield 379, 3) := by decide +kernel
theorem dX12_fontAct_102 : decode cX12_fontAct 102 = .ok (.iconst 4, 1) := by decide +kernel
theorem dX12_fontAct_103 : decode cX12_fontAct 103 = .ok (.if_icmp .eq 11, 3) := by decide +kernel
theorem dX12_fontAct_106 : decode cX12_fontAct 106 = .ok (.aload_n 0, 1) := by decide +kernel
theorem dX12_fontAct_107 : decode cX12_fontAct 107 = .ok (.getfield 379, 3) := by decide +kernel
theorem dX12_fontAct_110 : decode cX12_fontAct 110 = .ok (.iconst 5, 1) := by decide +kernel
theorem dX12_fontAct_111 : decode cX12_fontAct 111 = .ok (.if_icmp .ne 22, 3) := by decide +kernel
theorem dX12_fontAct_114 : decode cX12_fontAct 114 = .ok (.aload_n 0, 1) := by decide +kernel
theorem dX12_fontAct_115 : decode cX12_fontAct 115 = .ok (.getfield 20, 3) := by decide +kernel
theorem dX12_fontAct_118 : decode cX12_fontAct 118 = .ok (.iload_n 1, 1) := by decide +kernel
theorem dX12_fontAct_119 : decode cX12_fontAct 119 = .ok (.aload_n 0, 1) := by decide +kernel
theorem dX12_fontAct_120 : decode cX12_fontAct 120 = .ok (.getfield 379, 3) := by decide +kernel
theorem dX12_fontAct_123 : decode cX12_fontAct 123 = .ok (.iconst 4, 1) := by decide +kernel
theorem dX12_fontAct_124 : decode cX12_fontAct 124 = .ok (.if_icmp .ne 7, 3) := by decide +kernel
theorem dX12_fontAct_127 : decode cX12_fontAct 127 = .ok (.iconst 1, 1) := by decide +kernel
theorem dX12_fontAct_128 : decode cX12_fontAct 128 = .ok (.goto 4, 3) := by decide +kernel
theorem dX12_fontAct_131 : decode cX12_fontAct 131 = .ok (.iconst 0, 1) := by decide +kernel
theorem dX12_fontAct_132 : decode cX12_fontAct 132 = .ok (.bastore, 1) := by decide +kernel
theorem dX12_fontAct_133 : decode cX12_fontAct 133 = .ok (.return_, 1) := by decide +kernel
noncomputable def f_X12_fontAct_114 (a1 : Int32) (T : Mm) : Option (Unit × Mm) :=
  if (gI T 1251 133) = 4 then (ix a1 17 fun j4 => lb (uA T 137 j4 (1)) fun T6 =>
  some ((), T6))
  else (ix a1 17 fun j1 => lb (uA T 137 j1 (0)) fun T3 =>
  some ((), T3))
set_option maxRecDepth 100000 in
set_option maxHeartbeats 4000000 in
theorem s_X12_fontAct_114 {x : JX} {ad : Nat → Nat} {U : Mm} {S0 : Hp} {q : Unit × Mm}  (hn9 : x_n x = 2) (C : CB x RX12 cX12_fontAct) (M : CMr x 4 none S0 ad false U eV q) (a1 : Int32) (T : Mm) (h : f_X12_fontAct_114  a1 T = some q) : Jr x ad false U T [(0, .ref (ad 133)), (1, .int a1)] 114 [] := by
  unfold f_X12_fontAct_114 at h
  refine r_aload_n C dX12_fontAct_114 rfl 0 rfl ?_
  refine r_getp (f := 1203) (j := 137) C flX12_20 dX12_fontAct_115 kq_133 (by decide) rfl (fun W => pt_1203 kq_133 W) ?_
  refine r_iload_n C dX12_fontAct_118 rfl 1 rfl ?_
  refine r_aload_n C dX12_fontAct_119 rfl 0 rfl ?_
  refine r_geti (f := 1251) C flX12_379 dX12_fontAct_120 kq_133 (by decide) (by decide) rfl ?_
  show Jr _ _ _ _ _ _ 123 _
  refine r_iconst (v := 4) C dX12_fontAct_123 (by decide) ?_
  refine r_ic_ne (tgt := 131) C dX12_fontAct_124 (by decide) h (fun h => ?_) (fun h => ?_)
  · refine r_iconst (v := 0) C dX12_fontAct_131 (by decide) ?_
    refine r_zast (n := 17) C dX12_fontAct_132 kq_137 lq_137 (by decide) h (fun j1 T3 hj2 h => ?_)
    exact r_vret C M dX12_fontAct_133 h
  · refine r_iconst (v := 1) C dX12_fontAct_127 (by decide) ?_
    refine r_goto (tgt := 132) C dX12_fontAct_128 (by decide) ?_
    refine r_zast (n := 17) C dX12_fontAct_132 kq_137 lq_137 (by decide) h (fun j4 T6 hj5 h => ?_)
    exact r_vret C M dX12_fontAct_133 h
noncomputable def f_X12_fontAct_98 (a1 : Int32) (T : Mm) : Option (Unit × Mm) :=
  if (gI T 1251 133) = 4 then (f_X12_fontAct_114 a1 T)
  else (if (gI T 1251 133) = 5 then (f_X12_fontAct_114 a1 T)
  else (some ((), T)))
set_option maxRecDepth 100000 in
set_option maxHeartbeats 4000000 in
theorem s_X12_fontAct_98 {x : JX} {ad : Nat → Nat} {U : Mm} {S0 : Hp} {q : Unit × Mm}  (hn9 : x_n x = 2) (C : CB x RX12 cX12_fontAct) (M : CMr x 4 none S0 ad false U eV q) (a1 : Int32) (T : Mm) (h : f_X12_fontAct_98  a1 T = some q) : Jr x ad false U T [(0, .ref (ad 133)), (1, .int a1)] 98 [] := by
  unfold f_X12_fontAct_98 at h
  refine r_aload_n C dX12_fontAct_98 rfl 0 rfl ?_
  refine r_geti (f := 1251) C flX12_379 dX12_fontAct_99 kq_133 (by decide) (by decide) rfl ?_
  refine r_iconst (v := 4) C dX12_fontAct_102 (by decide) ?_
  refine r_ic_eq (tgt := 114) C dX12_fontAct_103 (by decide) h (fun h => ?_) (fun h => ?_)
  · exact s_X12_fontAct_114 hn9 C M  a1 T h
  · refine r_aload_n C dX12_fontAct_106 rfl 0 rfl ?_
    refine r_geti (f := 1251) C flX12_379 dX12_fontAct_107 kq_133 (by decide) (by decide) rfl ?_
    refine r_iconst (v := 5) C dX12_fontAct_110 (by decide) ?_
    refine r_ic_ne (tgt := 133) C dX12_fontAct_111 (by decide) h (fun h => ?_) (fun h => ?_)
    · exact r_vret C M dX12_fontAct_133 h
    · exact s_X12_fontAct_114 hn9 C M  a1 T h
noncomputable def f_X12_fontAct_65 (a1 : Int32) (T : Mm) : Option (Unit × Mm) :=
  if (gI T 1251 133) = 3 then (ix a1 17 fun j1 =>
  if (gA T 136 j1) = 0 then (f_X12_fontAct_98 a1 T)
  else (bd (f_X12_glyphGoes a1 (gA T 134 143) T) fun _ T3 =>
  some ((), T3)))
  else (f_X12_fontAct_98 a1 T)
set_option maxRecDepth 100000 in
set_option maxHeartbeats 4000000 in
theorem s_X12_fontAct_65 {x : JX} {ad : Nat → Nat} {U : Mm} {S0 : Hp} {q : Unit × Mm}  (hn9 : x_n x = 2) (C : CB x RX12 cX12_fontAct) (M : CMr x 4 none S0 ad false U eV q) (a1 : Int32) (T : Mm) (h : f_X12_fontAct_65  a1 T = some q) : Jr x ad false U T [(0, .ref (ad 133)), (1, .int a1)] 65 [] := by
  unfold f_X12_fontAct_65 at h
  refine r_aload_n C dX12_fontAct_65 rfl 0 rfl ?_
  refine r_geti (f := 1251) C flX12_379 dX12_fontAct_66 kq_133 (by decide) (by decide) rfl ?_
  refine r_iconst (v := 3) C dX12_fontAct_69 (by decide) ?_
  refine r_ic_ne (tgt := 98) C dX12_fontAct_70 (by decide) h (fun h => ?_) (fun h => ?_)
  · exact s_X12_fontAct_98 hn9 C M  a1 T h
  · refine r_aload_n C dX12_fontAct_73 rfl 0 rfl ?_
    refine r_getp (f := 1202) (j := 136) C flX12_16 dX12_fontAct_74 kq_133 (by decide) rfl (fun W => pt_1202 kq_133 W) ?_
    refine r_iload_n C dX12_fontAct_77 rfl 1 rfl ?_
    refine r_zald (n := 17) C dX12_fontAct_78 kq_136 lq_136 h (fun j1 hj2 h => ?_)
    refine r_if_eq (tgt := 98) C dX12_fontAct_79 (by decide) h (fun h => ?_) (fun h => ?_)
    · exact s_X12_fontAct_98 hn9 C M  a1 T h
    · refine r_aload_n C dX12_fontAct_82 rfl 0 rfl ?_
      refine r_iload_n C dX12_fontAct_83 rfl 1 rfl ?_
      refine r_aload_n C dX12_fontAct_84 rfl 0 rfl ?_
      refine r_getp (f := 1200) (j := 134) C flX12_9 dX12_fontAct_85 kq_133 (by decide) rfl (fun W => pt_1200 kq_133 W) ?_
      refine r_sipush (v := 143) C dX12_fontAct_88 (by decide) ?_
      show Jr _ _ _ _ _ _ 91 _
      refine r_ialdc (n := 192) C 143 dX12_fontAct_91 kq_134 lq_134 (vp_lit (by decide)) (by decide) ?_
      refine r_callVN C M h [.int a1, .int (gA T 134 143)] [] mlX12_257 mcX12_glyphGoes (fun q9 e9 => s_X12_glyphGoes a1 (gA T 134 143)  e9) kq_133 rfl (by decide) (by decide) rfl rfl (Nat.le_of_ble_eq_true rfl) dX12_fontAct_92 (fun _ T3 h => ?_)
      refine r_goto (tgt := 133) C dX12_fontAct_95 (by decide) ?_
      exact r_vret C M dX12_fontAct_133 h
noncomputable def f_X12_fontAct (T : Mm) : Option (Unit × Mm) :=
  lb ((gA T 134 142)) fun v1 =>
  if (gI T 1251 133) = 0 then (bd (f_X12_fontsGo 0 T) fun _ T6 =>
  some ((), T6))
  else (if (gI T 1251 133) = 1 then (bd (f_X12_fontsGo 1 T) fun _ T5 =>
  some ((), T5))
  else (if (gI T 1251 133) = 2 then (ix v1 17 fun j2 =>
  if (gA T 136 j2) = 0 then (f_X12_fontAct_65 v1 T)
  else (bd (f_X12_fontGoes v1 T) fun _ T4 =>
  some ((), T4)))
  else (f_X12_fontAct_65 v1 T)))
set_option maxRecDepth 100000 in
set_option maxHeartbeats 4000000 in
theorem s_X12_fontAct {ad : Nat → Nat} {U T : Mm} {q : Unit × Mm}  (h : f_X12_fontAct  T = some q) : Cr 4 yX12_fontAct cX12_fontAct 2 none [.ref (ad 133)] ad false U T eV q := by
  refine cr_of (by decide) (Nat.le_of_ble_eq_true rfl) fun x S0 hn9 C M => ?_
  have C : CB x RX12 cX12_fontAct := C
  refine Jr.eq (lv' := [(0, .ref (ad 133))]) (st' := []) rfl rfl ?_
  unfold f_X12_fontAct at h
  refine r_aload_n C dX12_fontAct_0 rfl 0 rfl ?_
  refine r_getp (f := 1200) (j := 134) C flX12_9 dX12_fontAct_1 kq_133 (by decide) rfl (fun W => pt_1200 kq_133 W) ?_
  refine r_sipush (v := 142) C dX12_fontAct_4 (by decide) ?_
  refine r_ialdc (n := 192) C 142 dX12_fontAct_7 kq_134 lq_134 (vp_lit (by decide)) (by decide) ?_
  refine r_lbI h (fun v1 h => ?_)
  refine r_istore_n (lv' := [(1, .int v1), (0, .ref (ad 133))]) C dX12_fontAct_8 rfl (by rw [hn9]; decide) rfl ?_
  show Jr _ _ _ _ _ _ 9 _
  refine r_aload_n C dX12_fontAct_9 rfl 1 rfl ?_
  refine r_geti (f := 1251) C flX12_379 dX12_fontAct_10 kq_133 (by decide) (by decide) rfl ?_
  refine r_if_ne (tgt := 24) C dX12_fontAct_13 (by decide) h (fun h => ?_) (fun h => ?_)
  · refine r_aload_n C dX12_fontAct_24 rfl 1 rfl ?_
    refine r_geti (f := 1251) C flX12_379 dX12_fontAct_25 kq_133 (by decide) (by decide) rfl ?_
    refine r_iconst (v := 1) C dX12_fontAct_28 (by decide) ?_
    refine r_ic_ne (tgt := 40) C dX12_fontAct_29 (by decide) h (fun h => ?_) (fun h => ?_)
    · refine r_aload_n C dX12_fontAct_40 rfl 1 rfl ?_
      refine r_geti (f := 1251) C flX12_379 dX12_fontAct_41 kq_133 (by decide) (by decide) rfl ?_
      refine r_iconst (v := 2) C dX12_fontAct_44 (by decide) ?_
      refine r_ic_ne (tgt := 65) C dX12_fontAct_45 (by decide) h (fun h => ?_) (fun h => ?_)
      · refine Jr.sub [1, 0] (lv' := [(0, .ref (ad 133)), (1, .int v1)]) rfl ?_
        exact s_X12_fontAct_65 hn9 C M  v1 T h
      · refine r_aload_n C dX12_fontAct_48 rfl 1 rfl ?_
        refine r_getp (f := 1202) (j := 136) C flX12_16 dX12_fontAct_49 kq_133 (by decide) rfl (fun W => pt_1202 kq_133 W) ?_
        refine r_iload_n C dX12_fontAct_52 rfl 0 rfl ?_
        refine r_zald (n := 17) C dX12_fontAct_53 kq_136 lq_136 h (fun j2 hj3 h => ?_)
        refine r_if_eq (tgt := 65) C dX12_fontAct_54 (by decide) h (fun h => ?_) (fun h => ?_)
        · refine Jr.sub [1, 0] (lv' := [(0, .ref (ad 133)), (1, .int v1)]) rfl ?_
          exact s_X12_fontAct_65 hn9 C M  v1 T h
        · refine r_aload_n C dX12_fontAct_57 rfl 1 rfl ?_
          refine r_iload_n C dX12_fontAct_58 rfl 0 rfl ?_
          refine r_callVN C M h [.int v1] [] mlX12_254 mcX12_fontGoes (fun q9 e9 => s_X12_fontGoes v1  e9) kq_133 rfl (by decide) (by decide) rfl rfl (Nat.le_of_ble_eq_true rfl) dX12_fontAct_59 (fun _ T4 h => ?_)
          refine r_goto (tgt := 133) C dX12_fontAct_62 (by decide) ?_
          exact r_vret C M dX12_fontAct_133 h
    · refine r_aload_n C dX12_fontAct_32 rfl 1 rfl ?_
      refine r_iconst (v := 1) C dX12_fontAct_33 (by decide) ?_
      refine r_callVN C M h [.int 1] [] mlX12_244 mcX12_fontsGo (fun q9 e9 => s_X12_fontsGo 1  e9) kq_133 rfl (by decide) (by decide) rfl rfl (Nat.le_of_ble_eq_true rfl) dX12_fontAct_34 (fun _ T5 h => ?_)
      refine r_goto (tgt := 133) C dX12_fontAct_37 (by decide) ?_
      exact r_vret C M dX12_fontAct_133 h
  · refine r_aload_n C dX12_fontAct_16 rfl 1 rfl ?_
    refine r_iconst (v := 0) C dX12_fontAct_17 (by decide) ?_
    refine r_callVN C M h [.int 0] [] mlX12_244 mcX12_fontsGo (fun q9 e9 => s_X12_fontsGo 0  e9) kq_133 rfl (by decide) (by decide) rfl rfl (Nat.le_of_ble_eq_true rfl) dX12_fontAct_18 (fun _ T6 h => ?_)
    refine r_goto (tgt := 133) C dX12_fontAct_21 (by decide) ?_
    exact r_vret C M dX12_fontAct_133 h
theorem dX12_userAct_0 : decode cX12_userAct 0 = .ok (.aload_n 0, 1) := by decide +kernel
theorem dX12_userAct_1 : decode cX12_userAct 1 = .ok (.getfield 9, 3) := by decide +kernel
theorem dX12_userAct_4 : decode cX12_userAct 4 = .ok (.sipush 144, 3) := by decide +kernel
theorem dX12_userAct_7 : decode cX12_userAct 7 = .ok (.iaload, 1) := by decide +kernel
theorem dX12_userAct_8 : decode cX12_userAct 8 = .ok (.istore_n 1, 1) := by decide +kernel
theorem dX12_userAct_9 : decode cX12_userAct 9 = .ok (.iload_n 1, 1) := by decide +kernel
theorem dX12_userAct_10 : decode cX12_userAct 10 = .ok (.ifCond .lt 13, 3) := by decide +kernel
theorem dX12_userAct_13 : decode cX12_userAct 13 = .ok (.iload_n 1, 1) := by decide +kernel
theorem dX12_userAct_14 : decode cX12_userAct 14 = .ok (.bipush 15, 2) := by decide +kernel
theorem dX12_userAct_16 : decode cX12_userAct 16 = .ok (.if_icmp .gt 7, 3) := by decide +kernel
theorem dX12_userAct_19 : decode cX12_userAct 19 = .ok (.iconst 1, 1) := by decide +kernel
theorem dX12_userAct_20 : decode cX12_userAct 20 = .ok (.goto 4, 3) := by decide +kernel
theorem dX12_userAct_23 : decode cX12_userAct 23 = .ok (.iconst 0, 1) := by decide +kernel
theorem dX12_userAct_24 : decode cX12_userAct 24 = .ok (.istore_n 2, 1) := by decide +kernel
theorem dX12_userAct_25 : decode cX12_userAct 25 = .ok (.aload_n 0, 1) := by decide +kernel
theorem dX12_userAct_26 : decode cX12_userAct 26 = .ok (.getfield 379, 3) := by decide +kernel
theorem dX12_userAct_29 : decode cX12_userAct 29 = .ok (.ifCond .ne 11, 3) := by decide +kernel
theorem dX12_userAct_32 : decode cX12_userAct 32 = .ok (.aload_n 0, 1) := by decide +kernel
theorem dX12_userAct_33 : decode cX12_userAct 33 = .ok (.iconst 0, 1) := by decide +kernel
theorem dX12_userAct_34 : decode cX12_userAct 34 = .ok (.invokevirtual 248, 3) := by decide +kernel
theorem dX12_userAct_37 : decode cX12_userAct 37 = .ok (.goto 80, 3) := by decide +kernel
theorem dX12_userAct_40 : decode cX12_userAct 40 = .ok (.aload_n 0, 1) := by decide +kernel
theorem dX12_userAct_41 : decode cX12_userAct 41 = .ok (.getfield 379, 3) := by decide +kernel
theorem dX12_userAct_44 : decode cX12_userAct 44 = .ok (.iconst 1, 1) := by decide +kernel
theorem dX12_userAct_45 : decode cX12_userAct 45 = .ok (.if_icmp .ne 11, 3) := by decide +kernel
theorem dX12_userAct_48 : decode cX12_userAct 48 = .ok (.aload_n 0, 1) := by decide +kernel
theorem dX12_userAct_49 : decode cX12_userAct 49 = .ok (.iconst 1, 1) := by decide +kernel
theorem dX12_userAct_50 : decode cX12_userAct 50 = .ok (.invokevirtual 248, 3) := by decide +kernel
theorem dX12_userAct_53 : decode cX12_userAct 53 = .ok (.goto 64, 3) := by decide +kernel
theorem dX12_userAct_56 : decode cX12_userAct 56 = .ok (.aload_n 0, 1) := by decide +kernel
theorem dX12_userAct_57 : decode cX12_userAct 57 = .ok (.getfield 379, 3) := by decide +kernel
theorem dX12_userAct_60 : decode cX12_userAct 60 = .ok (.iconst 2, 1) := by decide +kernel
theorem dX12_userAct_61 : decode cX12_userAct 61 = .ok (.if_icmp .ne 17, 3) := by decide +kernel
theorem dX12_userAct_64 : decode cX12_userAct 64 = .ok (.iload_n 2, 1) := by decide +kernel
theorem dX12_userAct_65 : decode cX12_userAct 65 = .ok (.ifCond .eq 13, 3) := by decide +kernel
theorem dX12_userAct_68 : decode cX12_userAct 68 = .ok (.aload_n 0, 1) := by decide +kernel
theorem dX12_userAct_69 : decode cX12_userAct 69 = .ok (.getfield 38, 3) := by decide +kernel
theorem dX12_userAct_72 : decode cX12_userAct 72 = .ok (.iload_n 1, 1) := by decide +kernel
theorem dX12_userAct_73 : decode cX12_userAct 73 = .ok (.iconst 0, 1) := by decide +kernel
theorem dX12_userAct_74 : decode cX12_userAct 74 = .ok (.bastore, 1) := by decide +kernel
theorem dX12_userAct_75 : decode cX12_userAct 75 = .ok (.goto 42, 3) := by decide +kernel
theorem dX12_userAct_78 : decode cX12_userAct 78 = .ok (.aload_n 0, 1) := by decide +kernel
theorem dX12_userAct_79 : decode cX12_userAct 79 = .ok (.getfield 379, 3) := by decide +kernel
theorem dX12_userAct_82 : decode cX12_userAct 82 = .ok (.iconst 4, 1) := by decide +kernel
theorem dX12_userAct_83 : decode cX12_userAct 83 = .ok (.if_icmp .eq 11, 3) := by decide +kernel
theorem dX12_userAct_86 : decode cX12_userAct 86 = .ok (.aload_n 0, 1) := by decide +kernel
theorem dX12_userAct_87 : decode cX12_userAct 87 = .ok (.getfield 379, 3) := by decide +kernel
theorem dX12_userAct_90 : decode cX12_userAct 90 = .ok (.iconst 5, 1) := by decide +kernel
theorem dX12_userAct_91 : decode cX12_userAct 91 = .ok (.if_icmp .ne 26, 3) := by decide +kernel
theorem dX12_userAct_94 : decode cX12_userAct 94 = .ok (.iload_n 2, 1) := by decide +kernel
theorem dX12_userAct_95 : decode cX12_userAct 95 = .ok (.ifCond .eq 22, 3) := by decide +kernel
theorem dX12_userAct_98 : decode cX12_userAct 98 = .ok (.aload_n 0, 1) := by decide +kernel
theorem dX12_userAct_99 : decode cX12_userAct 99 = .ok (.getfield 41, 3) := by decide +kernel
theorem dX12_userAct_102 : decode cX12_userAct 102 = .ok (.iload_n 1, 1) := by decide +kernel
theorem dX12_userAct_103 : decode cX12_userAct 103 = .ok (.aload_n 0, 1) := by decide +kernel
theorem dX12_userAct_104 : decode cX12_userAct 104 = .ok (.getfield 379, 3) := by decide +kernel
theorem dX12_userAct_107 : decode cX12_userAct 107 = .ok (.iconst 4, 1) := by decide +kernel
theorem dX12_userAct_108 : decode cX12_userAct 108 = .ok (.if_icmp .ne 7, 3) := by decide +kernel
theorem dX12_userAct_111 : decode cX12_userAct 111 = .ok (.iconst 1, 1) := by decide +kernel
theorem dX12_userAct_112 : decode cX12_userAct 112 = .ok (.goto 4, 3) := by decide +kernel
theorem dX12_userAct_115 : decode cX12_userAct 115 = .ok (.iconst 0, 1) := by decide +kernel
theorem dX12_userAct_116 : decode cX12_userAct 116 = .ok (.bastore, 1) := by decide +kernel
theorem dX12_userAct_117 : decode cX12_userAct 117 = .ok (.return_, 1) := by decide +kernel
noncomputable def f_X12_userAct_94 (a1 : Int32) (a2 : Int32) (T : Mm) : Option (Unit × Mm) :=
  if a2 = 0 then (some ((), T))
  else (if (gI T 1251 133) = 4 then (ix a1 16 fun j4 => lb (uA T 144 j4 (1)) fun T6 =>
  some ((), T6))
  else (ix a1 16 fun j1 => lb (uA T 144 j1 (0)) fun T3 =>
  some ((), T3)))
set_option maxRecDepth 100000 in
set_option maxHeartbeats 4000000 in
theorem s_X12_userAct_94 {x : JX} {ad : Nat → Nat} {U : Mm} {S0 : Hp} {q : Unit × Mm}  (hn9 : x_n x = 3) (C : CB x RX12 cX12_userAct) (M : CMr x 2 none S0 ad false U eV q) (a1 : Int32) (a2 : Int32) (T : Mm) (h : f_X12_userAct_94  a1 a2 T = some q) : Jr x ad false U T [(0, .ref (ad 133)), (1, .int a1), (2, .int a2)] 94 [] := by
  unfold f_X12_userAct_94 at h
  refine r_iload_n C dX12_userAct_94 rfl 2 rfl ?_
  refine r_if_eq (tgt := 117) C dX12_userAct_95 (by decide) h (fun h => ?_) (fun h => ?_)
  · exact r_vret C M dX12_userAct_117 h
  · refine r_aload_n C dX12_userAct_98 rfl 0 rfl ?_
    refine r_getp (f := 1211) (j := 144) C flX12_41 dX12_userAct_99 kq_133 (by decide) rfl (fun W => pt_1211 kq_133 W) ?_
    refine r_iload_n C dX12_userAct_102 rfl 1 rfl ?_
    refine r_aload_n C dX12_userAct_103 rfl 0 rfl ?_
    refine r_geti (f := 1251) C flX12_379 dX12_userAct_104 kq_133 (by decide) (by decide) rfl ?_
    show Jr _ _ _ _ _ _ 107 _
    refine r_iconst (v := 4) C dX12_userAct_107 (by decide) ?_
    refine r_ic_ne (tgt := 115) C dX12_userAct_108 (by decide) h (fun h => ?_) (fun h => ?_)
    · refine r_iconst (v := 0) C dX12_userAct_115 (by decide) ?_
      refine r_zast (n := 16) C dX12_userAct_116 kq_144 lq_144 (by decide) h (fun j1 T3 hj2 h => ?_)
      exact r_vret C M dX12_userAct_117 h
    · refine r_iconst (v := 1) C dX12_userAct_111 (by decide) ?_
      refine r_goto (tgt := 116) C dX12_userAct_112 (by decide) ?_
      refine r_zast (n := 16) C dX12_userAct_116 kq_144 lq_144 (by decide) h (fun j4 T6 hj5 h => ?_)
      exact r_vret C M dX12_userAct_117 h
noncomputable def f_X12_userAct_78 (a1 : Int32) (a2 : Int32) (T : Mm) : Option (Unit × Mm) :=
  if (gI T 1251 133) = 4 then (f_X12_userAct_94 a1 a2 T)
  else (if (gI T 1251 133) = 5 then (f_X12_userAct_94 a1 a2 T)
  else (some ((), T)))
set_option maxRecDepth 100000 in
set_option maxHeartbeats 4000000 in
theorem s_X12_userAct_78 {x : JX} {ad : Nat → Nat} {U : Mm} {S0 : Hp} {q : Unit × Mm}  (hn9 : x_n x = 3) (C : CB x RX12 cX12_userAct) (M : CMr x 2 none S0 ad false U eV q) (a1 : Int32) (a2 : Int32) (T : Mm) (h : f_X12_userAct_78  a1 a2 T = some q) : Jr x ad false U T [(0, .ref (ad 133)), (1, .int a1), (2, .int a2)] 78 [] := by
  unfold f_X12_userAct_78 at h
  refine r_aload_n C dX12_userAct_78 rfl 0 rfl ?_
  refine r_geti (f := 1251) C flX12_379 dX12_userAct_79 kq_133 (by decide) (by decide) rfl ?_
  refine r_iconst (v := 4) C dX12_userAct_82 (by decide) ?_
  refine r_ic_eq (tgt := 94) C dX12_userAct_83 (by decide) h (fun h => ?_) (fun h => ?_)
  · exact s_X12_userAct_94 hn9 C M  a1 a2 T h
  · refine r_aload_n C dX12_userAct_86 rfl 0 rfl ?_
    refine r_geti (f := 1251) C flX12_379 dX12_userAct_87 kq_133 (by decide) (by decide) rfl ?_
    refine r_iconst (v := 5) C dX12_userAct_90 (by decide) ?_
    refine r_ic_ne (tgt := 117) C dX12_userAct_91 (by decide) h (fun h => ?_) (fun h => ?_)
    · exact r_vret C M dX12_userAct_117 h
    · exact s_X12_userAct_94 hn9 C M  a1 a2 T h
noncomputable def f_X12_userAct_24 (a1 : Int32) (b0 : Int32) (T : Mm) : Option (Unit × Mm) :=
  if (gI T 1251 133) = 0 then (bd (f_X12_usersGo 0 T) fun _ T5 =>
  some ((), T5))
  else (if (gI T 1251 133) = 1 then (bd (f_X12_usersGo 1 T) fun _ T4 =>
  some ((), T4))
  else (if (gI T 1251 133) = 2 then (if b0 = 0 then (f_X12_userAct_78 a1 b0 T)
  else (ix a1 16 fun j1 => lb (uA T 143 j1 (0)) fun T3 =>
  some ((), T3)))
  else (f_X12_userAct_78 a1 b0 T)))
set_option maxRecDepth 100000 in
set_option maxHeartbeats 4000000 in
theorem s_X12_userAct_24 {x : JX} {ad : Nat → Nat} {U : Mm} {S0 : Hp} {q : Unit × Mm}  (hn9 : x_n x = 3) (C : CB x RX12 cX12_userAct) (M : CMr x 2 none S0 ad false U eV q) (a1 : Int32) (b0 : Int32) (T : Mm) (h : f_X12_userAct_24  a1 b0 T = some q) : Jr x ad false U T [(0, .ref (ad 133)), (1, .int a1)] 24 [.int b0] := by
  unfold f_X12_userAct_24 at h
  refine r_istore_n (lv' := [(2, .int b0), (0, .ref (ad 133)), (1, .int a1)]) C dX12_userAct_24 rfl (by rw [hn9]; decide) rfl ?_
  refine r_aload_n C dX12_userAct_25 rfl 1 rfl ?_
  refine r_geti (f := 1251) C flX12_379 dX12_userAct_26 kq_133 (by decide) (by decide) rfl ?_
  refine r_if_ne (tgt := 40) C dX12_userAct_29 (by decide) h (fun h => ?_) (fun h => ?_)
  · refine r_aload_n C dX12_userAct_40 rfl 1 rfl ?_
    refine r_geti (f := 1251) C flX12_379 dX12_userAct_41 kq_133 (by decide) (by decide) rfl ?_
    refine r_iconst (v := 1) C dX12_userAct_44 (by decide) ?_
    refine r_ic_ne (tgt := 56) C dX12_userAct_45 (by decide) h (fun h => ?_) (fun h => ?_)
    · refine r_aload_n C dX12_userAct_56 rfl 1 rfl ?_
      refine r_geti (f := 1251) C flX12_379 dX12_userAct_57 kq_133 (by decide) (by decide) rfl ?_
      refine r_iconst (v := 2) C dX12_userAct_60 (by decide) ?_
      refine r_ic_ne (tgt := 78) C dX12_userAct_61 (by decide) h (fun h => ?_) (fun h => ?_)
      · refine Jr.sub [1, 2, 0] (lv' := [(0, .ref (ad 133)), (1, .int a1), (2, .int b0)]) rfl ?_
        exact s_X12_userAct_78 hn9 C M  a1 b0 T h
      · refine r_iload_n C dX12_userAct_64 rfl 0 rfl ?_
        refine r_if_eq (tgt := 78) C dX12_userAct_65 (by decide) h (fun h => ?_) (fun h => ?_)
        · refine Jr.sub [1, 2, 0] (lv' := [(0, .ref (ad 133)), (1, .int a1), (2, .int b0)]) rfl ?_
          exact s_X12_userAct_78 hn9 C M  a1 b0 T h
        · refine r_aload_n C dX12_userAct_68 rfl 1 rfl ?_
          refine r_getp (f := 1210) (j := 143) C flX12_38 dX12_userAct_69 kq_133 (by decide) rfl (fun W => pt_1210 kq_133 W) ?_
          refine r_iload_n C dX12_userAct_72 rfl 2 rfl ?_
          refine r_iconst (v := 0) C dX12_userAct_73 (by decide) ?_
          refine r_zast (n := 16) C dX12_userAct_74 kq_143 lq_143 (by decide) h (fun j1 T3 hj2 h => ?_)
          show Jr _ _ _ _ _ _ 75 _
          refine r_goto (tgt := 117) C dX12_userAct_75 (by decide) ?_
          exact r_vret C M dX12_userAct_117 h
    · refine r_aload_n C dX12_userAct_48 rfl 1 rfl ?_
      refine r_iconst (v := 1) C dX12_userAct_49 (by decide) ?_
      refine r_callVN C M h [.int 1] [] mlX12_248 mcX12_usersGo (fun q9 e9 => s_X12_usersGo 1  e9) kq_133 rfl (by decide) (by decide) rfl rfl (Nat.le_of_ble_eq_true rfl) dX12_userAct_50 (fun _ T4 h => ?_)
      refine r_goto (tgt := 117) C dX12_userAct_53 (by decide) ?_
      exact r_vret C M dX12_userAct_117 h
  · refine r_aload_n C dX12_userAct_32 rfl 1 rfl ?_
    refine r_iconst (v := 0) C dX12_userAct_33 (by decide) ?_
    refine r_callVN C M h [.int 0] [] mlX12_248 mcX12_usersGo (fun q9 e9 => s_X12_usersGo 0  e9) kq_133 rfl (by decide) (by decide) rfl rfl (Nat.le_of_ble_eq_true rfl) dX12_userAct_34 (fun _ T5 h => ?_)
    refine r_goto (tgt := 117) C dX12_userAct_37 (by decide) ?_
    exact r_vret C M dX12_userAct_117 h
noncomputable def f_X12_userAct (T : Mm) : Option (Unit × Mm) :=
  lb ((gA T 134 144)) fun v1 =>
  if v1 < 0 then (f_X12_userAct_24 v1 0 T)
  else (if 15 < v1 then (f_X12_userAct_24 v1 0 T)
  else (f_X12_userAct_24 v1 1 T))
set_option maxRecDepth 100000 in
set_option maxHeartbeats 4000000 in
theorem s_X12_userAct {ad : Nat → Nat} {U T : Mm} {q : Unit × Mm}  (h : f_X12_userAct  T = some q) : Cr 2 yX12_userAct cX12_userAct 3 none [.ref (ad 133)] ad false U T eV q := by
  refine cr_of (by decide) (Nat.le_of_ble_eq_true rfl) fun x S0 hn9 C M => ?_
  have C : CB x RX12 cX12_userAct := C
  refine Jr.eq (lv' := [(0, .ref (ad 133))]) (st' := []) rfl rfl ?_
  unfold f_X12_userAct at h
  refine r_aload_n C dX12_userAct_0 rfl 0 rfl ?_
  refine r_getp (f := 1200) (j := 134) C flX12_9 dX12_userAct_1 kq_133 (by decide) rfl (fun W => pt_1200 kq_133 W) ?_
  refine r_sipush (v := 144) C dX12_userAct_4 (by decide) ?_
  refine r_ialdc (n := 192) C 144 dX12_userAct_7 kq_134 lq_134 (vp_lit (by decide)) (by decide) ?_
  refine r_lbI h (fun v1 h => ?_)
  refine r_istore_n (lv' := [(1, .int v1), (0, .ref (ad 133))]) C dX12_userAct_8 rfl (by rw [hn9]; decide) rfl ?_
  show Jr _ _ _ _ _ _ 9 _
  refine r_iload_n C dX12_userAct_9 rfl 0 rfl ?_
  refine r_if_lt (tgt := 23) C dX12_userAct_10 (by decide) h (fun h => ?_) (fun h => ?_)
  · refine r_iconst (v := 0) C dX12_userAct_23 (by decide) ?_
    refine Jr.sub [1, 0] (lv' := [(0, .ref (ad 133)), (1, .int v1)]) rfl ?_
    exact s_X12_userAct_24 hn9 C M  v1 0 T h
  · refine r_iload_n C dX12_userAct_13 rfl 0 rfl ?_
    refine r_bipush (v := 15) C dX12_userAct_14 (by decide) ?_
    refine r_ic_gt (tgt := 23) C dX12_userAct_16 (by decide) h (fun h => ?_) (fun h => ?_)
    · refine r_iconst (v := 0) C dX12_userAct_23 (by decide) ?_
      refine Jr.sub [1, 0] (lv' := [(0, .ref (ad 133)), (1, .int v1)]) rfl ?_
      exact s_X12_userAct_24 hn9 C M  v1 0 T h
    · refine r_iconst (v := 1) C dX12_userAct_19 (by decide) ?_
      refine r_goto (tgt := 24) C dX12_userAct_20 (by decide) ?_
      refine Jr.sub [1, 0] (lv' := [(0, .ref (ad 133)), (1, .int v1)]) rfl ?_
      exact s_X12_userAct_24 hn9 C M  v1 1 T h
theorem dX12_thingField_0 : decode cX12_thingField 0 = .ok (.iload_n 1, 1) := by decide +kernel
theorem dX12_thingField_1 : decode cX12_thingField 1 = .ok (.bipush 68, 2) := by decide +kernel
theorem dX12_thingField_3 : decode cX12_thingField 3 = .ok (.if_icmp .ne 34, 3) := by decide +kernel
theorem dX12_thingField_6 : decode cX12_thingField 6 = .ok (.aload_n 0, 1) := by decide +kernel
theorem dX12_thingField_7 : decode cX12_thingField 7 = .ok (.getfield 379, 3) := by decide +kernel
theorem dX12_thingField_10 : decode cX12_thingField 10 = .ok (.ifCond .lt 27, 3) := by decide +kernel
theorem dX12_thingField_13 : decode cX12_thingField 13 = .ok (.aload_n 0, 1) := by decide +kernel
theorem dX12_thingField_14 : decode cX12_thingField 14 = .ok (.getfield 379, 3) := by decide +kernel
theorem dX12_thingField_17 : decode cX12_thingField 17 = .ok (.bipush 15, 2) := by decide +kernel
theorem dX12_thingField_19 : decode cX12_thingField 19 = .ok (.if_icmp .gt 18, 3) := by decide +kernel
theorem dX12_thingField_22 : decode cX12_thingField 22 = .ok (.aload_n 0, 1) := by decide +kernel
theorem dX12_thingField_23 : decode cX12_thingField 23 = .ok (.getfield 9, 3) := by decide +kernel
theorem dX12_thingField_26 : decode cX12_thingField 26 = .ok (.sipush 142, 3) := by decide +kernel
theorem dX12_thingField_29 : decode cX12_thingField 29 = .ok (.aload_n 0, 1) := by decide +kernel
theorem dX12_thingField_30 : decode cX12_thingField 30 = .ok (.getfield 379, 3) := by decide +kernel
theorem dX12_thingField_33 : decode cX12_thingField 33 = .ok (.iastore, 1) := by decide +kernel
theorem dX12_thingField_34 : decode cX12_thingField 34 = .ok (.goto 232, 3) := by decide +kernel
theorem dX12_thingField_37 : decode cX12_thingField 37 = .ok (.iload_n 1, 1) := by decide +kernel
theorem dX12_thingField_38 : decode cX12_thingField 38 = .ok (.bipush 69, 2) := by decide +kernel
theorem dX12_thingField_40 : decode cX12_thingField 40 = .ok (.if_icmp .ne 35, 3) := by decide +kernel
theorem dX12_thingField_43 : decode cX12_thingField 43 = .ok (.aload_n 0, 1) := by decide +kernel
theorem dX12_thingField_44 : decode cX12_thingField 44 = .ok (.getfield 379, 3) := by decide +kernel
theorem dX12_thingField_47 : decode cX12_thingField 47 = .ok (.ifCond .lt 28, 3) := by decide +kernel
theorem dX12_thingField_50 : decode cX12_thingField 50 = .ok (.aload_n 0, 1) := by decide +kernel
theorem dX12_thingField_51 : decode cX12_thingField 51 = .ok (.getfield 379, 3) := by decide +kernel
theorem dX12_thingField_54 : decode cX12_thingField 54 = .ok (.sipush 255, 3) := by decide +kernel
theorem dX12_thingField_57 : decode cX12_thingField 57 = .ok (.if_icmp .gt 18, 3) := by decide +kernel
theorem dX12_thingField_60 : decode cX12_thingField 60 = .ok (.aload_n 0, 1) := by decide +kernel
theorem dX12_thingField_61 : decode cX12_thingField 61 = .ok (.getfield 9, 3) := by decide +kernel
theorem dX12_thingField_64 : decode cX12_thingField 64 = .ok (.sipush 143, 3) := by decide +kernel
theorem dX12_thingField_67 : decode cX12_thingField 67 = .ok (.aload_n 0, 1) := by decide +kernel
theorem dX12_thingField_68 : decode cX12_thingField 68 = .ok (.getfield 379, 3) := by decide +kernel
theorem dX12_thingField_71 : decode cX12_thingField 71 = .ok (.iastore, 1) := by decide +kernel
theorem dX12_thingField_72 : decode cX12_thingField 72 = .ok (.goto 194, 3) := by decide +kernel
theorem dX12_thingField_75 : decode cX12_thingField 75 = .ok (.iload_n 1, 1) := by decide +kernel
theorem dX12_thingField_76 : decode cX12_thingField 76 = .ok (.bipush 71, 2) := by decide +kernel
theorem dX12_thingField_78 : decode cX12_thingField 78 = .ok (.if_icmp .ne 18, 3) := by decide +kernel
theorem dX12_thingField_81 : decode cX12_thingField 81 = .ok (.aload_n 0, 1) := by decide +kernel
theorem dX12_thingField_82 : decode cX12_thingField 82 = .ok (.getfield 9, 3) := by decide +kernel
theorem dX12_thingField_85 : decode cX12_thingField 85 = .ok (.sipush 144, 3) := by decide +kernel
theorem dX12_thingField_88 : decode cX12_thingField 88 = .ok (.aload_n 0, 1) := by decide +kernel
theorem dX12_thingField_89 : decode cX12_thingField 89 = .ok (.getfield 379, 3) := by decide +kernel
theorem dX12_thingField_92 : decode cX12_thingField 92 = .ok (.iastore, 1) := by decide +kernel
theorem dX12_thingField_93 : decode cX12_thingField 93 = .ok (.goto 173, 3) := by decide +kernel
theorem dX12_thingField_96 : decode cX12_thingField 96 = .ok (.iload_n 1, 1) := by decide +kernel
theorem dX12_thingField_97 : decode cX12_thingField 97 = .ok (.bipush 65, 2) := by decide +kernel
theorem dX12_thingField_99 : decode cX12_thingField 99 = .ok (.if_icmp .ne 25, 3) := by decide +kernel
theorem dX12_thingField_102 : decode cX12_thingField 102 = .ok (.aload_n 0, 1) := by decide +kernel
theorem dX12_thingField_103 : decode cX12_thingField 103 = .ok (.getfield 379, 3) := by decide +kernel
theorem dX12_thingField_106 : decode cX12_thingField 106 = .ok (.ifCond .lt 18, 3) := by decide +kernel
theorem dX12_thingField_109 : decode cX12_thingField 109 = .ok (.aload_n 0, 1) := by decide +kernel
theorem dX12_thingField_110 : decode cX12_thingField 110 = .ok (.getfield 9, 3) := by decide +kernel
theorem dX12_thingField_113 : decode cX12_thingField 113 = .ok (.sipush 140, 3) := by decide +kernel
theorem dX12_thingField_116 : decode cX12_thingField 116 = .ok (.aload_n 0, 1) := by decide +kernel
theorem dX12_thingField_117 : decode cX12_thingField 117 = .ok (.getfield 379, 3) := by decide +kernel
theorem dX12_thingField_120 : decode cX12_thingField 120 = .ok (.iastore, 1) := by decide +kernel
theorem dX12_thingField_121 : decode cX12_thingField 121 = .ok (.goto 145, 3) := by decide +kernel
theorem dX12_thingField_124 : decode cX12_thingField 124 = .ok (.iload_n 1, 1) := by decide +kernel
theorem dX12_thingField_125 : decode cX12_thingField 125 = .ok (.bipush 66, 2) := by decide +kernel
theorem dX12_thingField_127 : decode cX12_thingField 127 = .ok (.if_icmp .ne 25, 3) := by decide +kernel
theorem dX12_thingField_130 : decode cX12_thingField 130 = .ok (.aload_n 0, 1) := by decide +kernel
theorem dX12_thingField_131 : decode cX12_thingField 131 = .ok (.getfield 379, 3) := by decide +kernel
theorem dX12_thingField_134 : decode cX12_thingField 134 = .ok (.ifCond .lt 18, 3) := by decide +kernel
theorem dX12_thingField_137 : decode cX12_thingField 137 = .ok (.aload_n 0, 1) := by decide +kernel
theorem dX12_thingField_138 : decode cX12_thingField 138 = .ok (.getfield 9, 3) := by decide +kernel
theorem dX12_thingField_141 : decode cX12_thingField 141 = .ok (.sipush 141, 3) := by decide +kernel
theorem dX12_thingField_144 : decode cX12_thingField 144 = .ok (.aload_n 0, 1) := by decide +kernel
theorem dX12_thingField_145 : decode cX12_thingField 145 = .ok (.getfield 379, 3) := by decide +kernel
theorem dX12_thingField_148 : decode cX12_thingField 148 = .ok (.iastore, 1) := by decide +kernel
theorem dX12_thingField_149 : decode cX12_thingField 149 = .ok (.goto 117, 3) := by decide +kernel
theorem dX12_thingField_152 : decode cX12_thingField 152 = .ok (.iload_n 1, 1) := by decide +kernel
theorem dX12_thingField_153 : decode cX12_thingField 153 = .ok (.bipush 72, 2) := by decide +kernel
theorem dX12_thingField_155 : decode cX12_thingField 155 = .ok (.if_icmp .ne 36, 3) := by decide +kernel
theorem dX12_thingField_158 : decode cX12_thingField 158 = .ok (.aload_n 0, 1) := by decide +kernel
theorem dX12_thingField_159 : decode cX12_thingField 159 = .ok (.ldc2_w 433, 3) := by decide +kernel
theorem dX12_thingField_162 : decode cX12_thingField 162 = .ok (.invokevirtual 404, 3) := by decide +kernel
theorem dX12_thingField_165 : decode cX12_thingField 165 = .ok (.lconst 0, 1) := by decide +kernel
theorem dX12_thingField_166 : decode cX12_thingField 166 = .ok (.lcmp, 1) := by decide +kernel
theorem dX12_thingField_167 : decode cX12_thingField 167 = .ok (.ifCond .lt 24, 3) := by decide +kernel
theorem dX12_thingField_170 : decode cX12_thingField 170 = .ok (.aload_n 0, 1) := by decide +kernel
theorem dX12_thingField_171 : decode cX12_thingField 171 = .ok (.getfield 9, 3) := by decide +kernel
theorem dX12_thingField_174 : decode cX12_thingField 174 = .ok (.sipush 140, 3) := by decide +kernel
theorem dX12_thingField_177 : decode cX12_thingField 177 = .ok (.aload_n 0, 1) := by decide +kernel
theorem dX12_thingField_178 : decode cX12_thingField 178 = .ok (.ldc2_w 433, 3) := by decide +kernel
theorem dX12_thingField_181 : decode cX12_thingField 181 = .ok (.invokevirtual 404, 3) := by decide +kernel
theorem dX12_thingField_184 : decode cX12_thingField 184 = .ok (.invokestatic 455, 3) := by decide +kernel
theorem dX12_thingField_187 : decode cX12_thingField 187 = .ok (.iastore, 1) := by decide +kernel
theorem dX12_thingField_188 : decode cX12_thingField 188 = .ok (.goto 78, 3) := by decide +kernel
theorem dX12_thingField_191 : decode cX12_thingField 191 = .ok (.iload_n 1, 1) := by decide +kernel
theorem dX12_thingField_192 : decode cX12_thingField 192 = .ok (.bipush 86, 2) := by decide +kernel
theorem dX12_thingField_194 : decode cX12_thingField 194 = .ok (.if_icmp .ne 36, 3) := by decide +kernel
theorem dX12_thingField_197 : decode cX12_thingField 197 = .ok (.aload_n 0, 1) := by decide +kernel
theorem dX12_thingField_198 : decode cX12_thingField 198 = .ok (.ldc2_w 433, 3) := by decide +kernel
theorem dX12_thingField_201 : decode cX12_thingField 201 = .ok (.invokevirtual 404, 3) := by decide +kernel
theorem dX12_thingField_204 : decode cX12_thingField 204 = .ok (.lconst 0, 1) := by decide +kernel
theorem dX12_thingField_205 : decode cX12_thingField 205 = .ok (.lcmp, 1) := by decide +kernel
theorem dX12_thingField_206 : decode cX12_thingField 206 = .ok (.ifCond .lt 24, 3) := by decide +kernel
theorem dX12_thingField_209 : decode cX12_thingField 209 = .ok (.aload_n 0, 1) := by decide +kernel
theorem dX12_thingField_210 : decode cX12_thingField 210 = .ok (.getfield 9, 3) := by decide +kernel
theorem dX12_thingField_213 : decode cX12_thingField 213 = .ok (.sipush 141, 3) := by decide +kernel
theorem dX12_thingField_216 : decode cX12_thingField 216 = .ok (.aload_n 0, 1) := by decide +kernel
theorem dX12_thingField_217 : decode cX12_thingField 217 = .ok (.ldc2_w 433, 3) := by decide +kernel
theorem dX12_thingField_220 : decode cX12_thingField 220 = .ok (.invokevirtual 404, 3) := by decide +kernel
theorem dX12_thingField_223 : decode cX12_thingField 223 = .ok (.invokestatic 455, 3) := by decide +kernel
theorem dX12_thingField_226 : decode cX12_thingField 226 = .ok (.iastore, 1) := by decide +kernel
theorem dX12_thingField_227 : decode cX12_thingField 227 = .ok (.goto 39, 3) := by decide +kernel
theorem dX12_thingField_230 : decode cX12_thingField 230 = .ok (.iload_n 1, 1) := by decide +kernel
theorem dX12_thingField_231 : decode cX12_thingField 231 = .ok (.bipush 80, 2) := by decide +kernel
theorem dX12_thingField_233 : decode cX12_thingField 233 = .ok (.if_icmp .ne 10, 3) := by decide +kernel
theorem dX12_thingField_236 : decode cX12_thingField 236 = .ok (.aload_n 0, 1) := by decide +kernel
theorem dX12_thingField_237 : decode cX12_thingField 237 = .ok (.invokevirtual 459, 3) := by decide +kernel
theorem dX12_thingField_240 : decode cX12_thingField 240 = .ok (.goto 26, 3) := by decide +kernel
theorem dX12_thingField_243 : decode cX12_thingField 243 = .ok (.iload_n 1, 1) := by decide +kernel
theorem dX12_thingField_244 : decode cX12_thingField 244 = .ok (.bipush 70, 2) := by decide +kernel
theorem dX12_thingField_246 : decode cX12_thingField 246 = .ok (.if_icmp .ne 10, 3) := by decide +kernel
theorem dX12_thingField_249 : decode cX12_thingField 249 = .ok (.aload_n 0, 1) := by decide +kernel
theorem dX12_thingField_250 : decode cX12_thingField 250 = .ok (.invokevirtual 462, 3) := by decide +kernel
theorem dX12_thingField_253 : decode cX12_thingField 253 = .ok (.goto 13, 3) := by decide +kernel
theorem dX12_thingField_256 : decode cX12_thingField 256 = .ok (.iload_n 1, 1) := by decide +kernel
theorem dX12_thingField_257 : decode cX12_thingField 257 = .ok (.bipush 81, 2) := by decide +kernel
theorem dX12_thingField_259 : decode cX12_thingField 259 = .ok (.if_icmp .ne 7, 3) := by decide +kernel
theorem dX12_thingField_262 : decode cX12_thingField 262 = .ok (.aload_n 0, 1) := by decide +kernel
theorem dX12_thingField_263 : decode cX12_thingField 263 = .ok (.invokevirtual 465, 3) := by decide +kernel
theorem dX12_thingField_266 : decode cX12_thingField 266 = .ok (.return_, 1) := by decide +kernel
noncomputable def f_X12_thingField_230 (a1 : Int32) (T : Mm) : Option (Unit × Mm) :=
  if a1 = 80 then (bd (f_X12_rectangle T) fun _ T3 =>
  some ((), T3))
  else (if a1 = 70 then (bd (f_X12_fontAct T) fun _ T2 =>
  some ((), T2))
  else (if a1 = 81 then (bd (f_X12_userAct T) fun _ T1 =>
  some ((), T1))
  else (some ((), T))))
set_option maxRecDepth 100000 in
set_option maxHeartbeats 4000000 in
theorem s_X12_thingField_230 {x : JX} {ad : Nat → Nat} {U : Mm} {S0 : Hp} {q : Unit × Mm}  (hn9 : x_n x = 2) (C : CB x RX12 cX12_thingField) (M : CMr x 5 none S0 ad false U eV q) (a1 : Int32) (T : Mm) (h : f_X12_thingField_230  a1 T = some q) : Jr x ad false U T [(0, .ref (ad 133)), (1, .int a1)] 230 [] := by
  unfold f_X12_thingField_230 at h
  refine r_iload_n C dX12_thingField_230 rfl 1 rfl ?_
  refine r_bipush (v := 80) C dX12_thingField_231 (by decide) ?_
  refine r_ic_ne (tgt := 243) C dX12_thingField_233 (by decide) h (fun h => ?_) (fun h => ?_)
  · refine r_iload_n C dX12_thingField_243 rfl 1 rfl ?_
    refine r_bipush (v := 70) C dX12_thingField_244 (by decide) ?_
    refine r_ic_ne (tgt := 256) C dX12_thingField_246 (by decide) h (fun h => ?_) (fun h => ?_)
    · refine r_iload_n C dX12_thingField_256 rfl 1 rfl ?_
      refine r_bipush (v := 81) C dX12_thingField_257 (by decide) ?_
      refine r_ic_ne (tgt := 266) C dX12_thingField_259 (by decide) h (fun h => ?_) (fun h => ?_)
      · exact r_vret C M dX12_thingField_266 h
      · refine r_aload_n C dX12_thingField_262 rfl 0 rfl ?_
        refine r_callVN C M h [] [] mlX12_465 mcX12_userAct (fun q9 e9 => s_X12_userAct   e9) kq_133 rfl (by decide) (by decide) rfl rfl (Nat.le_of_ble_eq_true rfl) dX12_thingField_263 (fun _ T1 h => ?_)
        exact r_vret C M dX12_thingField_266 h
    · refine r_aload_n C dX12_thingField_249 rfl 0 rfl ?_
      refine r_callVN C M h [] [] mlX12_462 mcX12_fontAct (fun q9 e9 => s_X12_fontAct   e9) kq_133 rfl (by decide) (by decide) rfl rfl (Nat.le_of_ble_eq_true rfl) dX12_thingField_250 (fun _ T2 h => ?_)
      refine r_goto (tgt := 266) C dX12_thingField_253 (by decide) ?_
      exact r_vret C M dX12_thingField_266 h
  · refine r_aload_n C dX12_thingField_236 rfl 0 rfl ?_
    refine r_callVN C M h [] [] mlX12_459 mcX12_rectangle (fun q9 e9 => s_X12_rectangle   e9) kq_133 rfl (by decide) (by decide) rfl rfl (Nat.le_of_ble_eq_true rfl) dX12_thingField_237 (fun _ T3 h => ?_)
    refine r_goto (tgt := 266) C dX12_thingField_240 (by decide) ?_
    exact r_vret C M dX12_thingField_266 h
noncomputable def f_X12_thingField_191 (a1 : Int32) (T : Mm) : Option (Unit × Mm) :=
  if a1 = 86 then (bd (f_X12_units 10 T) fun v1 T2 =>
  if (lg_cmp v1 0) < 0 then (f_X12_thingField_230 a1 T2)
  else (bd (f_X12_units 10 T2) fun v3 T4 =>
  bd (f_X12_dotsUp v3 T4) fun v5 T6 =>
  lb (uA T6 134 141 (v5)) fun T7 =>
  some ((), T7)))
  else (f_X12_thingField_230 a1 T)
set_option maxRecDepth 100000 in
set_option maxHeartbeats 4000000 in
theorem s_X12_thingField_191 {x : JX} {ad : Nat → Nat} {U : Mm} {S0 : Hp} {q : Unit × Mm}  (hn9 : x_n x = 2) (C : CB x RX12 cX12_thingField) (M : CMr x 5 none S0 ad false U eV q) (a1 : Int32) (T : Mm) (h : f_X12_thingField_191  a1 T = some q) : Jr x ad false U T [(0, .ref (ad 133)), (1, .int a1)] 191 [] := by
  unfold f_X12_thingField_191 at h
  refine r_iload_n C dX12_thingField_191 rfl 1 rfl ?_
  refine r_bipush (v := 86) C dX12_thingField_192 (by decide) ?_
  refine r_ic_ne (tgt := 230) C dX12_thingField_194 (by decide) h (fun h => ?_) (fun h => ?_)
  · exact s_X12_thingField_230 hn9 C M  a1 T h
  · refine r_aload_n C dX12_thingField_197 rfl 0 rfl ?_
    refine r_ldc2 (v := 10) C dX12_thingField_198 kcX12_433 ?_
    refine r_callVJ C M h [.long 10] [] mlX12_404 mcX12_units (fun q9 e9 => s_X12_units 10  e9) kq_133 rfl (by decide) (by decide) rfl rfl (Nat.le_of_ble_eq_true rfl) dX12_thingField_201 (fun v1 T2 h => ?_)
    refine r_lconst (v := 0) C dX12_thingField_204 (by decide) ?_
    refine r_lcmp C dX12_thingField_205 ?_
    show Jr _ _ _ _ _ _ 206 _
    refine r_if_lt (tgt := 230) C dX12_thingField_206 (by decide) h (fun h => ?_) (fun h => ?_)
    · exact s_X12_thingField_230 hn9 C M  a1 T2 h
    · refine r_aload_n C dX12_thingField_209 rfl 0 rfl ?_
      refine r_getp (f := 1200) (j := 134) C flX12_9 dX12_thingField_210 kq_133 (by decide) rfl (fun W => pt_1200 kq_133 W) ?_
      refine r_sipush (v := 141) C dX12_thingField_213 (by decide) ?_
      refine r_aload_n C dX12_thingField_216 rfl 0 rfl ?_
      refine r_ldc2 (v := 10) C dX12_thingField_217 kcX12_433 ?_
      show Jr _ _ _ _ _ _ 220 _
      refine r_callVJ C M h [.long 10] [.int 141, .ref (ad 134)] mlX12_404 mcX12_units (fun q9 e9 => s_X12_units 10  e9) kq_133 rfl (by decide) (by decide) rfl rfl (Nat.le_of_ble_eq_true rfl) dX12_thingField_220 (fun v3 T4 h => ?_)
      refine r_callSI C M h [.long v3] [.int 141, .ref (ad 134)] mlX12_455 mcX12_dotsUp (fun q9 e9 => s_X12_dotsUp v3  e9) (by decide) (by decide) rfl rfl (Nat.le_of_ble_eq_true rfl) dX12_thingField_223 (fun v5 T6 h => ?_)
      refine r_iastc (n := 192) C 141 dX12_thingField_226 kq_134 lq_134 (vp_lit (by decide)) (by decide) h (fun T7 h => ?_)
      refine r_goto (tgt := 266) C dX12_thingField_227 (by decide) ?_
      exact r_vret C M dX12_thingField_266 h
noncomputable def f_X12_thingField_152 (a1 : Int32) (T : Mm) : Option (Unit × Mm) :=
  if a1 = 72 then (bd (f_X12_units 10 T) fun v1 T2 =>
  if (lg_cmp v1 0) < 0 then (f_X12_thingField_191 a1 T2)
  else (bd (f_X12_units 10 T2) fun v3 T4 =>
  bd (f_X12_dotsUp v3 T4) fun v5 T6 =>
  lb (uA T6 134 140 (v5)) fun T7 =>
  some ((), T7)))
  else (f_X12_thingField_191 a1 T)
set_option maxRecDepth 100000 in
set_option maxHeartbeats 4000000 in
theorem s_X12_thingField_152 {x : JX} {ad : Nat → Nat} {U : Mm} {S0 : Hp} {q : Unit × Mm}  (hn9 : x_n x = 2) (C : CB x RX12 cX12_thingField) (M : CMr x 5 none S0 ad false U eV q) (a1 : Int32) (T : Mm) (h : f_X12_thingField_152  a1 T = some q) : Jr x ad false U T [(0, .ref (ad 133)), (1, .int a1)] 152 [] := by
  unfold f_X12_thingField_152 at h
  refine r_iload_n C dX12_thingField_152 rfl 1 rfl ?_
  refine r_bipush (v := 72) C dX12_thingField_153 (by decide) ?_
  refine r_ic_ne (tgt := 191) C dX12_thingField_155 (by decide) h (fun h => ?_) (fun h => ?_)
  · exact s_X12_thingField_191 hn9 C M  a1 T h
  · refine r_aload_n C dX12_thingField_158 rfl 0 rfl ?_
    refine r_ldc2 (v := 10) C dX12_thingField_159 kcX12_433 ?_
    refine r_callVJ C M h [.long 10] [] mlX12_404 mcX12_units (fun q9 e9 => s_X12_units 10  e9) kq_133 rfl (by decide) (by decide) rfl rfl (Nat.le_of_ble_eq_true rfl) dX12_thingField_162 (fun v1 T2 h => ?_)
    refine r_lconst (v := 0) C dX12_thingField_165 (by decide) ?_
    refine r_lcmp C dX12_thingField_166 ?_
    show Jr _ _ _ _ _ _ 167 _
    refine r_if_lt (tgt := 191) C dX12_thingField_167 (by decide) h (fun h => ?_) (fun h => ?_)
    · exact s_X12_thingField_191 hn9 C M  a1 T2 h
    · refine r_aload_n C dX12_thingField_170 rfl 0 rfl ?_
      refine r_getp (f := 1200) (j := 134) C flX12_9 dX12_thingField_171 kq_133 (by decide) rfl (fun W => pt_1200 kq_133 W) ?_
      refine r_sipush (v := 140) C dX12_thingField_174 (by decide) ?_
      refine r_aload_n C dX12_thingField_177 rfl 0 rfl ?_
      refine r_ldc2 (v := 10) C dX12_thingField_178 kcX12_433 ?_
      show Jr _ _ _ _ _ _ 181 _
      refine r_callVJ C M h [.long 10] [.int 140, .ref (ad 134)] mlX12_404 mcX12_units (fun q9 e9 => s_X12_units 10  e9) kq_133 rfl (by decide) (by decide) rfl rfl (Nat.le_of_ble_eq_true rfl) dX12_thingField_181 (fun v3 T4 h => ?_)
      refine r_callSI C M h [.long v3] [.int 140, .ref (ad 134)] mlX12_455 mcX12_dotsUp (fun q9 e9 => s_X12_dotsUp v3  e9) (by decide) (by decide) rfl rfl (Nat.le_of_ble_eq_true rfl) dX12_thingField_184 (fun v5 T6 h => ?_)
      refine r_iastc (n := 192) C 140 dX12_thingField_187 kq_134 lq_134 (vp_lit (by decide)) (by decide) h (fun T7 h => ?_)
      refine r_goto (tgt := 266) C dX12_thingField_188 (by decide) ?_
      exact r_vret C M dX12_thingField_266 h
noncomputable def f_X12_thingField_124 (a1 : Int32) (T : Mm) : Option (Unit × Mm) :=
  if a1 = 66 then (if (gI T 1251 133) < 0 then (f_X12_thingField_152 a1 T)
  else (lb (uA T 134 141 ((gI T 1251 133))) fun T1 =>
  some ((), T1)))
  else (f_X12_thingField_152 a1 T)
set_option maxRecDepth 100000 in
set_option maxHeartbeats 4000000 in
theorem s_X12_thingField_124 {x : JX} {ad : Nat → Nat} {U : Mm} {S0 : Hp} {q : Unit × Mm}  (hn9 : x_n x = 2) (C : CB x RX12 cX12_thingField) (M : CMr x 5 none S0 ad false U eV q) (a1 : Int32) (T : Mm) (h : f_X12_thingField_124  a1 T = some q) : Jr x ad false U T [(0, .ref (ad 133)), (1, .int a1)] 124 [] := by
  unfold f_X12_thingField_124 at h
  refine r_iload_n C dX12_thingField_124 rfl 1 rfl ?_
  refine r_bipush (v := 66) C dX12_thingField_125 (by decide) ?_
  refine r_ic_ne (tgt := 152) C dX12_thingField_127 (by decide) h (fun h => ?_) (fun h => ?_)
  · exact s_X12_thingField_152 hn9 C M  a1 T h
  · refine r_aload_n C dX12_thingField_130 rfl 0 rfl ?_
    refine r_geti (f := 1251) C flX12_379 dX12_thingField_131 kq_133 (by decide) (by decide) rfl ?_
    refine r_if_lt (tgt := 152) C dX12_thingField_134 (by decide) h (fun h => ?_) (fun h => ?_)
    · exact s_X12_thingField_152 hn9 C M  a1 T h
    · refine r_aload_n C dX12_thingField_137 rfl 0 rfl ?_
      refine r_getp (f := 1200) (j := 134) C flX12_9 dX12_thingField_138 kq_133 (by decide) rfl (fun W => pt_1200 kq_133 W) ?_
      refine r_sipush (v := 141) C dX12_thingField_141 (by decide) ?_
      refine r_aload_n C dX12_thingField_144 rfl 0 rfl ?_
      refine r_geti (f := 1251) C flX12_379 dX12_thingField_145 kq_133 (by decide) (by decide) rfl ?_
      show Jr _ _ _ _ _ _ 148 _
      refine r_iastc (n := 192) C 141 dX12_thingField_148 kq_134 lq_134 (vp_lit (by decide)) (by decide) h (fun T1 h => ?_)
      refine r_goto (tgt := 266) C dX12_thingField_149 (by decide) ?_
      exact r_vret C M dX12_thingField_266 h
noncomputable def f_X12_thingField_75 (a1 : Int32) (T : Mm) : Option (Unit × Mm) :=
  if a1 = 71 then (lb (uA T 134 144 ((gI T 1251 133))) fun T2 =>
  some ((), T2))
  else (if a1 = 65 then (if (gI T 1251 133) < 0 then (f_X12_thingField_124 a1 T)
  else (lb (uA T 134 140 ((gI T 1251 133))) fun T1 =>
  some ((), T1)))
  else (f_X12_thingField_124 a1 T))
set_option maxRecDepth 100000 in
set_option maxHeartbeats 4000000 in
theorem s_X12_thingField_75 {x : JX} {ad : Nat → Nat} {U : Mm} {S0 : Hp} {q : Unit × Mm}  (hn9 : x_n x = 2) (C : CB x RX12 cX12_thingField) (M : CMr x 5 none S0 ad false U eV q) (a1 : Int32) (T : Mm) (h : f_X12_thingField_75  a1 T = some q) : Jr x ad false U T [(0, .ref (ad 133)), (1, .int a1)] 75 [] := by
  unfold f_X12_thingField_75 at h
  refine r_iload_n C dX12_thingField_75 rfl 1 rfl ?_
  refine r_bipush (v := 71) C dX12_thingField_76 (by decide) ?_
  refine r_ic_ne (tgt := 96) C dX12_thingField_78 (by decide) h (fun h => ?_) (fun h => ?_)
  · refine r_iload_n C dX12_thingField_96 rfl 1 rfl ?_
    refine r_bipush (v := 65) C dX12_thingField_97 (by decide) ?_
    refine r_ic_ne (tgt := 124) C dX12_thingField_99 (by decide) h (fun h => ?_) (fun h => ?_)
    · exact s_X12_thingField_124 hn9 C M  a1 T h
    · refine r_aload_n C dX12_thingField_102 rfl 0 rfl ?_
      refine r_geti (f := 1251) C flX12_379 dX12_thingField_103 kq_133 (by decide) (by decide) rfl ?_
      refine r_if_lt (tgt := 124) C dX12_thingField_106 (by decide) h (fun h => ?_) (fun h => ?_)
      · exact s_X12_thingField_124 hn9 C M  a1 T h
      · refine r_aload_n C dX12_thingField_109 rfl 0 rfl ?_
        refine r_getp (f := 1200) (j := 134) C flX12_9 dX12_thingField_110 kq_133 (by decide) rfl (fun W => pt_1200 kq_133 W) ?_
        refine r_sipush (v := 140) C dX12_thingField_113 (by decide) ?_
        refine r_aload_n C dX12_thingField_116 rfl 0 rfl ?_
        refine r_geti (f := 1251) C flX12_379 dX12_thingField_117 kq_133 (by decide) (by decide) rfl ?_
        show Jr _ _ _ _ _ _ 120 _
        refine r_iastc (n := 192) C 140 dX12_thingField_120 kq_134 lq_134 (vp_lit (by decide)) (by decide) h (fun T1 h => ?_)
        refine r_goto (tgt := 266) C dX12_thingField_121 (by decide) ?_
        exact r_vret C M dX12_thingField_266 h
  · refine r_aload_n C dX12_thingField_81 rfl 0 rfl ?_
    refine r_getp (f := 1200) (j := 134) C flX12_9 dX12_thingField_82 kq_133 (by decide) rfl (fun W => pt_1200 kq_133 W) ?_
    refine r_sipush (v := 144) C dX12_thingField_85 (by decide) ?_
    refine r_aload_n C dX12_thingField_88 rfl 0 rfl ?_
    refine r_geti (f := 1251) C flX12_379 dX12_thingField_89 kq_133 (by decide) (by decide) rfl ?_
    show Jr _ _ _ _ _ _ 92 _
    refine r_iastc (n := 192) C 144 dX12_thingField_92 kq_134 lq_134 (vp_lit (by decide)) (by decide) h (fun T2 h => ?_)
    refine r_goto (tgt := 266) C dX12_thingField_93 (by decide) ?_
    exact r_vret C M dX12_thingField_266 h
noncomputable def f_X12_thingField_37 (a1 : Int32) (T : Mm) : Option (Unit × Mm) :=
  if a1 = 69 then (if (gI T 1251 133) < 0 then (f_X12_thingField_75 a1 T)
  else (if 255 < (gI T 1251 133) then (f_X12_thingField_75 a1 T)
  else (lb (uA T 134 143 ((gI T 1251 133))) fun T1 =>
  some ((), T1))))
  else (f_X12_thingField_75 a1 T)
set_option maxRecDepth 100000 in
set_option maxHeartbeats 4000000 in
theorem s_X12_thingField_37 {x : JX} {ad : Nat → Nat} {U : Mm} {S0 : Hp} {q : Unit × Mm}  (hn9 : x_n x = 2) (C : CB x RX12 cX12_thingField) (M : CMr x 5 none S0 ad false U eV q) (a1 : Int32) (T : Mm) (h : f_X12_thingField_37  a1 T = some q) : Jr x ad false U T [(0, .ref (ad 133)), (1, .int a1)] 37 [] := by
  unfold f_X12_thingField_37 at h
  refine r_iload_n C dX12_thingField_37 rfl 1 rfl ?_
  refine r_bipush (v := 69) C dX12_thingField_38 (by decide) ?_
  refine r_ic_ne (tgt := 75) C dX12_thingField_40 (by decide) h (fun h => ?_) (fun h => ?_)
  · exact s_X12_thingField_75 hn9 C M  a1 T h
  · refine r_aload_n C dX12_thingField_43 rfl 0 rfl ?_
    refine r_geti (f := 1251) C flX12_379 dX12_thingField_44 kq_133 (by decide) (by decide) rfl ?_
    refine r_if_lt (tgt := 75) C dX12_thingField_47 (by decide) h (fun h => ?_) (fun h => ?_)
    · exact s_X12_thingField_75 hn9 C M  a1 T h
    · refine r_aload_n C dX12_thingField_50 rfl 0 rfl ?_
      refine r_geti (f := 1251) C flX12_379 dX12_thingField_51 kq_133 (by decide) (by decide) rfl ?_
      refine r_sipush (v := 255) C dX12_thingField_54 (by decide) ?_
      refine r_ic_gt (tgt := 75) C dX12_thingField_57 (by decide) h (fun h => ?_) (fun h => ?_)
      · exact s_X12_thingField_75 hn9 C M  a1 T h
      · refine r_aload_n C dX12_thingField_60 rfl 0 rfl ?_
        refine r_getp (f := 1200) (j := 134) C flX12_9 dX12_thingField_61 kq_133 (by decide) rfl (fun W => pt_1200 kq_133 W) ?_
        refine r_sipush (v := 143) C dX12_thingField_64 (by decide) ?_
        refine r_aload_n C dX12_thingField_67 rfl 0 rfl ?_
        refine r_geti (f := 1251) C flX12_379 dX12_thingField_68 kq_133 (by decide) (by decide) rfl ?_
        show Jr _ _ _ _ _ _ 71 _
        refine r_iastc (n := 192) C 143 dX12_thingField_71 kq_134 lq_134 (vp_lit (by decide)) (by decide) h (fun T1 h => ?_)
        refine r_goto (tgt := 266) C dX12_thingField_72 (by decide) ?_
        exact r_vret C M dX12_thingField_266 h
noncomputable def f_X12_thingField (p1 : Int32) (T : Mm) : Option (Unit × Mm) :=
  if p1 = 68 then (if (gI T 1251 133) < 0 then (f_X12_thingField_37 p1 T)
  else (if 15 < (gI T 1251 133) then (f_X12_thingField_37 p1 T)
  else (lb (uA T 134 142 ((gI T 1251 133))) fun T1 =>
  some ((), T1))))
  else (f_X12_thingField_37 p1 T)
set_option maxRecDepth 100000 in
set_option maxHeartbeats 4000000 in
theorem s_X12_thingField {ad : Nat → Nat} {U T : Mm} {q : Unit × Mm}  (p1 : Int32) (h : f_X12_thingField p1 T = some q) : Cr 5 yX12_thingField cX12_thingField 2 none [.ref (ad 133), .int p1] ad false U T eV q := by
  refine cr_of (by decide) (Nat.le_of_ble_eq_true rfl) fun x S0 hn9 C M => ?_
  have C : CB x RX12 cX12_thingField := C
  refine Jr.eq (lv' := [(0, .ref (ad 133)), (1, .int p1)]) (st' := []) rfl rfl ?_
  unfold f_X12_thingField at h
  refine r_iload_n C dX12_thingField_0 rfl 1 rfl ?_
  refine r_bipush (v := 68) C dX12_thingField_1 (by decide) ?_
  refine r_ic_ne (tgt := 37) C dX12_thingField_3 (by decide) h (fun h => ?_) (fun h => ?_)
  · exact s_X12_thingField_37 hn9 C M  p1 T h
  · refine r_aload_n C dX12_thingField_6 rfl 0 rfl ?_
    refine r_geti (f := 1251) C flX12_379 dX12_thingField_7 kq_133 (by decide) (by decide) rfl ?_
    refine r_if_lt (tgt := 37) C dX12_thingField_10 (by decide) h (fun h => ?_) (fun h => ?_)
    · exact s_X12_thingField_37 hn9 C M  p1 T h
    · refine r_aload_n C dX12_thingField_13 rfl 0 rfl ?_
      refine r_geti (f := 1251) C flX12_379 dX12_thingField_14 kq_133 (by decide) (by decide) rfl ?_
      refine r_bipush (v := 15) C dX12_thingField_17 (by decide) ?_
      refine r_ic_gt (tgt := 37) C dX12_thingField_19 (by decide) h (fun h => ?_) (fun h => ?_)
      · exact s_X12_thingField_37 hn9 C M  p1 T h
      · refine r_aload_n C dX12_thingField_22 rfl 0 rfl ?_
        refine r_getp (f := 1200) (j := 134) C flX12_9 dX12_thingField_23 kq_133 (by decide) rfl (fun W => pt_1200 kq_133 W) ?_
        refine r_sipush (v := 142) C dX12_thingField_26 (by decide) ?_
        refine r_aload_n C dX12_thingField_29 rfl 0 rfl ?_
        refine r_geti (f := 1251) C flX12_379 dX12_thingField_30 kq_133 (by decide) (by decide) rfl ?_
        show Jr _ _ _ _ _ _ 33 _
        refine r_iastc (n := 192) C 142 dX12_thingField_33 kq_134 lq_134 (vp_lit (by decide)) (by decide) h (fun T1 h => ?_)
        refine r_goto (tgt := 266) C dX12_thingField_34 (by decide) ?_
        exact r_vret C M dX12_thingField_266 h
theorem dX12_rasterField_0 : decode cX12_rasterField 0 = .ok (.iload_n 1, 1) := by decide +kernel
theorem dX12_rasterField_1 : decode cX12_rasterField 1 = .ok (.bipush 65, 2) := by decide +kernel
theorem dX12_rasterField_3 : decode cX12_rasterField 3 = .ok (.if_icmp .ne 37, 3) := by decide +kernel
theorem dX12_rasterField_6 : decode cX12_rasterField 6 = .ok (.aload_n 0, 1) := by decide +kernel
theorem dX12_rasterField_7 : decode cX12_rasterField 7 = .ok (.getfield 379, 3) := by decide +kernel
theorem dX12_rasterField_10 : decode cX12_rasterField 10 = .ok (.ifCond .eq 11, 3) := by decide +kernel
theorem dX12_rasterField_13 : decode cX12_rasterField 13 = .ok (.aload_n 0, 1) := by decide +kernel
theorem dX12_rasterField_14 : decode cX12_rasterField 14 = .ok (.getfield 379, 3) := by decide +kernel
theorem dX12_rasterField_17 : decode cX12_rasterField 17 = .ok (.iconst 1, 1) := by decide +kernel
theorem dX12_rasterField_18 : decode cX12_rasterField 18 = .ok (.if_icmp .ne 22, 3) := by decide +kernel
theorem dX12_rasterField_21 : decode cX12_rasterField 21 = .ok (.aload_n 0, 1) := by decide +kernel
theorem dX12_rasterField_22 : decode cX12_rasterField 22 = .ok (.aload_n 0, 1) := by decide +kernel
theorem dX12_rasterField_23 : decode cX12_rasterField 23 = .ok (.getfield 379, 3) := by decide +kernel
theorem dX12_rasterField_26 : decode cX12_rasterField 26 = .ok (.ifCond .ne 7, 3) := by decide +kernel
theorem dX12_rasterField_29 : decode cX12_rasterField 29 = .ok (.iconst 1, 1) := by decide +kernel
theorem dX12_rasterField_30 : decode cX12_rasterField 30 = .ok (.goto 4, 3) := by decide +kernel
theorem dX12_rasterField_33 : decode cX12_rasterField 33 = .ok (.iconst 0, 1) := by decide +kernel
theorem dX12_rasterField_34 : decode cX12_rasterField 34 = .ok (.invokevirtual 490, 3) := by decide +kernel
theorem dX12_rasterField_37 : decode cX12_rasterField 37 = .ok (.goto 135, 3) := by decide +kernel
theorem dX12_rasterField_40 : decode cX12_rasterField 40 = .ok (.iload_n 1, 1) := by decide +kernel
theorem dX12_rasterField_41 : decode cX12_rasterField 41 = .ok (.bipush 66, 2) := by decide +kernel
theorem dX12_rasterField_43 : decode cX12_rasterField 43 = .ok (.if_icmp .eq 9, 3) := by decide +kernel
theorem dX12_rasterField_46 : decode cX12_rasterField 46 = .ok (.iload_n 1, 1) := by decide +kernel
theorem dX12_rasterField_47 : decode cX12_rasterField 47 = .ok (.bipush 67, 2) := by decide +kernel
theorem dX12_rasterField_49 : decode cX12_rasterField 49 = .ok (.if_icmp .ne 44, 3) := by decide +kernel
theorem dX12_rasterField_52 : decode cX12_rasterField 52 = .ok (.aload_n 0, 1) := by decide +kernel
theorem dX12_rasterField_53 : decode cX12_rasterField 53 = .ok (.getfield 9, 3) := by decide +kernel
theorem dX12_rasterField_56 : decode cX12_rasterField 56 = .ok (.bipush 57, 2) := by decide +kernel
theorem dX12_rasterField_58 : decode cX12_rasterField 58 = .ok (.iconst 0, 1) := by decide +kernel
theorem dX12_rasterField_59 : decode cX12_rasterField 59 = .ok (.iastore, 1) := by decide +kernel
theorem dX12_rasterField_60 : decode cX12_rasterField 60 = .ok (.iload_n 1, 1) := by decide +kernel
theorem dX12_rasterField_61 : decode cX12_rasterField 61 = .ok (.bipush 67, 2) := by decide +kernel
theorem dX12_rasterField_63 : decode cX12_rasterField 63 = .ok (.if_icmp .ne 109, 3) := by decide +kernel
theorem dX12_rasterField_66 : decode cX12_rasterField 66 = .ok (.aload_n 0, 1) := by decide +kernel
theorem dX12_rasterField_67 : decode cX12_rasterField 67 = .ok (.getfield 9, 3) := by decide +kernel
theorem dX12_rasterField_70 : decode cX12_rasterField 70 = .ok (.bipush 54, 2) := by decide +kernel
theorem dX12_rasterField_72 : decode cX12_rasterField 72 = .ok (.iconst 0, 1) := by decide +kernel
theorem dX12_rasterField_73 : decode cX12_rasterField 73 = .ok (.iastore, 1) := by decide +kernel
theorem dX12_rasterField_74 : decode cX12_rasterField 74 = .ok (.aload_n 0, 1) := by decide +kernel
theorem dX12_rasterField_75 : decode cX12_rasterField 75 = .ok (.getfield 9, 3) := by decide +kernel
theorem dX12_rasterField_78 : decode cX12_rasterField 78 = .ok (.bipush 55, 2) := by decide +kernel
theorem dX12_rasterField_80 : decode cX12_rasterField 80 = .ok (.iconst (-1), 1) := by decide +kernel
theorem dX12_rasterField_81 : decode cX12_rasterField 81 = .ok (.iastore, 1) := by decide +kernel
theorem dX12_rasterField_82 : decode cX12_rasterField 82 = .ok (.aload_n 0, 1) := by decide +kernel
theorem dX12_rasterField_83 : decode cX12_rasterField 83 = .ok (.getfield 9, 3) := by decide +kernel
theorem dX12_rasterField_86 : decode cX12_rasterField 86 = .ok (.bipush 56, 2) := by decide +kernel
theorem dX12_rasterField_88 : decode cX12_rasterField 88 = .ok (.iconst (-1), 1) := by decide +kernel
theorem dX12_rasterField_89 : decode cX12_rasterField 89 = .ok (.iastore, 1) := by decide +kernel
theorem dX12_rasterField_90 : decode cX12_rasterField 90 = .ok (.goto 82, 3) := by decide +kernel
theorem dX12_rasterField_93 : decode cX12_rasterField 93 = .ok (.iload_n 1, 1) := by decide +kernel
theorem dX12_rasterField_94 : decode cX12_rasterField 94 = .ok (.bipush 83, 2) := by decide +kernel
theorem dX12_rasterField_96 : decode cX12_rasterField 96 = .ok (.if_icmp .ne 38, 3) := by decide +kernel
theorem dX12_rasterField_99 : decode cX12_rasterField 99 = .ok (.aload_n 0, 1) := by decide +kernel
theorem dX12_rasterField_100 : decode cX12_rasterField 100 = .ok (.getfield 9, 3) := by decide +kernel
theorem dX12_rasterField_103 : decode cX12_rasterField 103 = .ok (.bipush 57, 2) := by decide +kernel
theorem dX12_rasterField_105 : decode cX12_rasterField 105 = .ok (.iaload, 1) := by decide +kernel
theorem dX12_rasterField_106 : decode cX12_rasterField 106 = .ok (.ifCond .ne 28, 3) := by decide +kernel
theorem dX12_rasterField_109 : decode cX12_rasterField 109 = .ok (.aload_n 0, 1) := by decide +kernel
theorem dX12_rasterField_110 : decode cX12_rasterField 110 = .ok (.getfield 9, 3) := by decide +kernel
theorem dX12_rasterField_113 : decode cX12_rasterField 113 = .ok (.bipush 55, 2) := by decide +kernel
theorem dX12_rasterField_115 : decode cX12_rasterField 115 = .ok (.aload_n 0, 1) := by decide +kernel
theorem dX12_rasterField_116 : decode cX12_rasterField 116 = .ok (.getfield 379, 3) := by decide +kernel
theorem dX12_rasterField_119 : decode cX12_rasterField 119 = .ok (.ifCond .le 10, 3) := by decide +kernel
theorem dX12_rasterField_122 : decode cX12_rasterField 122 = .ok (.aload_n 0, 1) := by decide +kernel
theorem dX12_rasterField_123 : decode cX12_rasterField 123 = .ok (.getfield 379, 3) := by decide +kernel
theorem dX12_rasterField_126 : decode cX12_rasterField 126 = .ok (.goto 4, 3) := by decide +kernel
theorem dX12_rasterField_129 : decode cX12_rasterField 129 = .ok (.iconst (-1), 1) := by decide +kernel
theorem dX12_rasterField_130 : decode cX12_rasterField 130 = .ok (.iastore, 1) := by decide +kernel
theorem dX12_rasterField_131 : decode cX12_rasterField 131 = .ok (.goto 41, 3) := by decide +kernel
theorem dX12_rasterField_134 : decode cX12_rasterField 134 = .ok (.iload_n 1, 1) := by decide +kernel
theorem dX12_rasterField_135 : decode cX12_rasterField 135 = .ok (.bipush 84, 2) := by decide +kernel
theorem dX12_rasterField_137 : decode cX12_rasterField 137 = .ok (.if_icmp .ne 35, 3) := by decide +kernel
theorem dX12_rasterField_140 : decode cX12_rasterField 140 = .ok (.aload_n 0, 1) := by decide +kernel
theorem dX12_rasterField_141 : decode cX12_rasterField 141 = .ok (.getfield 9, 3) := by decide +kernel
theorem dX12_rasterField_144 : decode cX12_rasterField 144 = .ok (.bipush 57, 2) := by decide +kernel
theorem dX12_rasterField_146 : decode cX12_rasterField 146 = .ok (.iaload, 1) := by decide +kernel
theorem dX12_rasterField_147 : decode cX12_rasterField 147 = .ok (.ifCond .ne 25, 3) := by decide +kernel
theorem dX12_rasterField_150 : decode cX12_rasterField 150 = .ok (.aload_n 0, 1) := by decide +kernel
theorem dX12_rasterField_151 : decode cX12_rasterField 151 = .ok (.getfield 9, 3) := by decide +kernel
theorem dX12_rasterField_154 : decode cX12_rasterField 154 = .ok (.bipush 56, 2) := by decide +kernel
theorem dX12_rasterField_156 : decode cX12_rasterField 156 = .ok (.aload_n 0, 1) := by decide +kernel
theorem dX12_rasterField_157 : decode cX12_rasterField 157 = .ok (.getfield 379, 3) := by decide +kernel
theorem dX12_rasterField_160 : decode cX12_rasterField 160 = .ok (.ifCond .le 10, 3) := by decide +kernel
theorem dX12_rasterField_163 : decode cX12_rasterField 163 = .ok (.aload_n 0, 1) := by decide +kernel
theorem dX12_rasterField_164 : decode cX12_rasterField 164 = .ok (.getfield 379, 3) := by decide +kernel
theorem dX12_rasterField_167 : decode cX12_rasterField 167 = .ok (.goto 4, 3) := by decide +kernel
theorem dX12_rasterField_170 : decode cX12_rasterField 170 = .ok (.iconst (-1), 1) := by decide +kernel
theorem dX12_rasterField_171 : decode cX12_rasterField 171 = .ok (.iastore, 1) := by decide +kernel
theorem dX12_rasterField_172 : decode cX12_rasterField 172 = .ok (.return_, 1) := by decide +kernel
noncomputable def f_X12_rasterField_52 (a1 : Int32) (T : Mm) : Option (Unit × Mm) :=
  lb (uA T 134 57 (0)) fun T1 =>
  if a1 = 67 then (lb (uA T1 134 54 (0)) fun T2 =>
  lb (uA T2 134 55 ((-1))) fun T3 =>
  lb (uA T3 134 56 ((-1))) fun T4 =>
  some ((), T4))
  else (some ((), T1))
set_option maxRecDepth 100000 in
set_option maxHeartbeats 4000000 in
theorem s_X12_rasterField_52 {x : JX} {ad : Nat → Nat} {U : Mm} {S0 : Hp} {q : Unit × Mm}  (hn9 : x_n x = 2) (C : CB x RX12 cX12_rasterField) (M : CMr x 5 none S0 ad false U eV q) (a1 : Int32) (T : Mm) (h : f_X12_rasterField_52  a1 T = some q) : Jr x ad false U T [(0, .ref (ad 133)), (1, .int a1)] 52 [] := by
  unfold f_X12_rasterField_52 at h
  refine r_aload_n C dX12_rasterField_52 rfl 0 rfl ?_
  refine r_getp (f := 1200) (j := 134) C flX12_9 dX12_rasterField_53 kq_133 (by decide) rfl (fun W => pt_1200 kq_133 W) ?_
  refine r_bipush (v := 57) C dX12_rasterField_56 (by decide) ?_
  refine r_iconst (v := 0) C dX12_rasterField_58 (by decide) ?_
  refine r_iastc (n := 192) C 57 dX12_rasterField_59 kq_134 lq_134 (vp_lit (by decide)) (by decide) h (fun T1 h => ?_)
  show Jr _ _ _ _ _ _ 60 _
  refine r_iload_n C dX12_rasterField_60 rfl 1 rfl ?_
  refine r_bipush (v := 67) C dX12_rasterField_61 (by decide) ?_
  refine r_ic_ne (tgt := 172) C dX12_rasterField_63 (by decide) h (fun h => ?_) (fun h => ?_)
  · exact r_vret C M dX12_rasterField_172 h
  · refine r_aload_n C dX12_rasterField_66 rfl 0 rfl ?_
    refine r_getp (f := 1200) (j := 134) C flX12_9 dX12_rasterField_67 kq_133 (by decide) rfl (fun W => pt_1200 kq_133 W) ?_
    refine r_bipush (v := 54) C dX12_rasterField_70 (by decide) ?_
    refine r_iconst (v := 0) C dX12_rasterField_72 (by decide) ?_
    refine r_iastc (n := 192) C 54 dX12_rasterField_73 kq_134 lq_134 (vp_lit (by decide)) (by decide) h (fun T2 h => ?_)
    show Jr _ _ _ _ _ _ 74 _
    refine r_aload_n C dX12_rasterField_74 rfl 0 rfl ?_
    refine r_getp (f := 1200) (j := 134) C flX12_9 dX12_rasterField_75 kq_133 (by decide) rfl (fun W => pt_1200 kq_133 W) ?_
    refine r_bipush (v := 55) C dX12_rasterField_78 (by decide) ?_
    refine r_iconst (v := (-1)) C dX12_rasterField_80 (by decide) ?_
    refine r_iastc (n := 192) C 55 dX12_rasterField_81 kq_134 lq_134 (vp_lit (by decide)) (by decide) h (fun T3 h => ?_)
    refine r_aload_n C dX12_rasterField_82 rfl 0 rfl ?_
    show Jr _ _ _ _ _ _ 83 _
    refine r_getp (f := 1200) (j := 134) C flX12_9 dX12_rasterField_83 kq_133 (by decide) rfl (fun W => pt_1200 kq_133 W) ?_
    refine r_bipush (v := 56) C dX12_rasterField_86 (by decide) ?_
    refine r_iconst (v := (-1)) C dX12_rasterField_88 (by decide) ?_
    refine r_iastc (n := 192) C 56 dX12_rasterField_89 kq_134 lq_134 (vp_lit (by decide)) (by decide) h (fun T4 h => ?_)
    refine r_goto (tgt := 172) C dX12_rasterField_90 (by decide) ?_
    exact r_vret C M dX12_rasterField_172 h
noncomputable def f_X12_rasterField_134 (a1 : Int32) (T : Mm) : Option (Unit × Mm) :=
  if a1 = 84 then (if (gA T 134 57) = 0 then (if (gI T 1251 133) ≤ 0 then (lb (uA T 134 56 ((-1))) fun T1 =>
  some ((), T1))
  else (lb (uA T 134 56 ((gI T 1251 133))) fun T2 =>
  some ((), T2)))
  else (some ((), T)))
  else (some ((), T))
set_option maxRecDepth 100000 in
set_option maxHeartbeats 4000000 in
theorem s_X12_rasterField_134 {x : JX} {ad : Nat → Nat} {U : Mm} {S0 : Hp} {q : Unit × Mm}  (hn9 : x_n x = 2) (C : CB x RX12 cX12_rasterField) (M : CMr x 5 none S0 ad false U eV q) (a1 : Int32) (T : Mm) (h : f_X12_rasterField_134  a1 T = some q) : Jr x ad false U T [(0, .ref (ad 133)), (1, .int a1)] 134 [] := by
  unfold f_X12_rasterField_134 at h
  refine r_iload_n C dX12_rasterField_134 rfl 1 rfl ?_
  refine r_bipush (v := 84) C dX12_rasterField_135 (by decide) ?_
  refine r_ic_ne (tgt := 172) C dX12_rasterField_137 (by decide) h (fun h => ?_) (fun h => ?_)
  · exact r_vret C M dX12_rasterField_172 h
  · refine r_aload_n C dX12_rasterField_140 rfl 0 rfl ?_
    refine r_getp (f := 1200) (j := 134) C flX12_9 dX12_rasterField_141 kq_133 (by decide) rfl (fun W => pt_1200 kq_133 W) ?_
    refine r_bipush (v := 57) C dX12_rasterField_144 (by decide) ?_
    refine r_ialdc (n := 192) C 57 dX12_rasterField_146 kq_134 lq_134 (vp_lit (by decide)) (by decide) ?_
    refine r_if_ne (tgt := 172) C dX12_rasterField_147 (by decide) h (fun h => ?_) (fun h => ?_)
    · exact r_vret C M dX12_rasterField_172 h
    · refine r_aload_n C dX12_rasterField_150 rfl 0 rfl ?_
      refine r_getp (f := 1200) (j := 134) C flX12_9 dX12_rasterField_151 kq_133 (by decide) rfl (fun W => pt_1200 kq_133 W) ?_
      refine r_bipush (v := 56) C dX12_rasterField_154 (by decide) ?_
      refine r_aload_n C dX12_rasterField_156 rfl 0 rfl ?_
      refine r_geti (f := 1251) C flX12_379 dX12_rasterField_157 kq_133 (by decide) (by decide) rfl ?_
      show Jr _ _ _ _ _ _ 160 _
      refine r_if_le (tgt := 170) C dX12_rasterField_160 (by decide) h (fun h => ?_) (fun h => ?_)
      · refine r_iconst (v := (-1)) C dX12_rasterField_170 (by decide) ?_
        refine r_iastc (n := 192) C 56 dX12_rasterField_171 kq_134 lq_134 (vp_lit (by decide)) (by decide) h (fun T1 h => ?_)
        exact r_vret C M dX12_rasterField_172 h
      · refine r_aload_n C dX12_rasterField_163 rfl 0 rfl ?_
        refine r_geti (f := 1251) C flX12_379 dX12_rasterField_164 kq_133 (by decide) (by decide) rfl ?_
        refine r_goto (tgt := 171) C dX12_rasterField_167 (by decide) ?_
        refine r_iastc (n := 192) C 56 dX12_rasterField_171 kq_134 lq_134 (vp_lit (by decide)) (by decide) h (fun T2 h => ?_)
        exact r_vret C M dX12_rasterField_172 h
noncomputable def f_X12_rasterField_40 (a1 : Int32) (T : Mm) : Option (Unit × Mm) :=
  if a1 = 66 then (f_X12_rasterField_52 a1 T)
  else (if a1 = 67 then (f_X12_rasterField_52 a1 T)
  else (if a1 = 83 then (if (gA T 134 57) = 0 then (if (gI T 1251 133) ≤ 0 then (lb (uA T 134 55 ((-1))) fun T1 =>
  some ((), T1))
  else (lb (uA T 134 55 ((gI T 1251 133))) fun T2 =>
  some ((), T2)))
  else (f_X12_rasterField_134 a1 T))
  else (f_X12_rasterField_134 a1 T)))
set_option maxRecDepth 100000 in
set_option maxHeartbeats 4000000 in
theorem s_X12_rasterField_40 {x : JX} {ad : Nat → Nat} {U : Mm} {S0 : Hp} {q : Unit × Mm}  (hn9 : x_n x = 2) (C : CB x RX12 cX12_rasterField) (M : CMr x 5 none S0 ad false U eV q) (a1 : Int32) (T : Mm) (h : f_X12_rasterField_40  a1 T = some q) : Jr x ad false U T [(0, .ref (ad 133)), (1, .int a1)] 40 [] := by
  unfold f_X12_rasterField_40 at h
  refine r_iload_n C dX12_rasterField_40 rfl 1 rfl ?_
  refine r_bipush (v := 66) C dX12_rasterField_41 (by decide) ?_
  refine r_ic_eq (tgt := 52) C dX12_rasterField_43 (by decide) h (fun h => ?_) (fun h => ?_)
  · exact s_X12_rasterField_52 hn9 C M  a1 T h
  · refine r_iload_n C dX12_rasterField_46 rfl 1 rfl ?_
    refine r_bipush (v := 67) C dX12_rasterField_47 (by decide) ?_
    refine r_ic_ne (tgt := 93) C dX12_rasterField_49 (by decide) h (fun h => ?_) (fun h => ?_)
    · refine r_iload_n C dX12_rasterField_93 rfl 1 rfl ?_
      refine r_bipush (v := 83) C dX12_rasterField_94 (by decide) ?_
      refine r_ic_ne (tgt := 134) C dX12_rasterField_96 (by decide) h (fun h => ?_) (fun h => ?_)
      · exact s_X12_rasterField_134 hn9 C M  a1 T h
      · refine r_aload_n C dX12_rasterField_99 rfl 0 rfl ?_
        refine r_getp (f := 1200) (j := 134) C flX12_9 dX12_rasterField_100 kq_133 (by decide) rfl (fun W => pt_1200 kq_133 W) ?_
        refine r_bipush (v := 57) C dX12_rasterField_103 (by decide) ?_
        refine r_ialdc (n := 192) C 57 dX12_rasterField_105 kq_134 lq_134 (vp_lit (by decide)) (by decide) ?_
        refine r_if_ne (tgt := 134) C dX12_rasterField_106 (by decide) h (fun h => ?_) (fun h => ?_)
        · exact s_X12_rasterField_134 hn9 C M  a1 T h
        · refine r_aload_n C dX12_rasterField_109 rfl 0 rfl ?_
          refine r_getp (f := 1200) (j := 134) C flX12_9 dX12_rasterField_110 kq_133 (by decide) rfl (fun W => pt_1200 kq_133 W) ?_
          refine r_bipush (v := 55) C dX12_rasterField_113 (by decide) ?_
          refine r_aload_n C dX12_rasterField_115 rfl 0 rfl ?_
          refine r_geti (f := 1251) C flX12_379 dX12_rasterField_116 kq_133 (by decide) (by decide) rfl ?_
          show Jr _ _ _ _ _ _ 119 _
          refine r_if_le (tgt := 129) C dX12_rasterField_119 (by decide) h (fun h => ?_) (fun h => ?_)
          · refine r_iconst (v := (-1)) C dX12_rasterField_129 (by decide) ?_
            refine r_iastc (n := 192) C 55 dX12_rasterField_130 kq_134 lq_134 (vp_lit (by decide)) (by decide) h (fun T1 h => ?_)
            refine r_goto (tgt := 172) C dX12_rasterField_131 (by decide) ?_
            exact r_vret C M dX12_rasterField_172 h
          · refine r_aload_n C dX12_rasterField_122 rfl 0 rfl ?_
            refine r_geti (f := 1251) C flX12_379 dX12_rasterField_123 kq_133 (by decide) (by decide) rfl ?_
            refine r_goto (tgt := 130) C dX12_rasterField_126 (by decide) ?_
            refine r_iastc (n := 192) C 55 dX12_rasterField_130 kq_134 lq_134 (vp_lit (by decide)) (by decide) h (fun T2 h => ?_)
            refine r_goto (tgt := 172) C dX12_rasterField_131 (by decide) ?_
            show Jr _ _ _ _ _ _ 172 _
            exact r_vret C M dX12_rasterField_172 h
    · exact s_X12_rasterField_52 hn9 C M  a1 T h
noncomputable def f_X12_rasterField_21 (T : Mm) : Option (Unit × Mm) :=
  if (gI T 1251 133) = 0 then (bd (f_X12_begin 1 T) fun _ T2 =>
  some ((), T2))
  else (bd (f_X12_begin 0 T) fun _ T1 =>
  some ((), T1))
set_option maxRecDepth 100000 in
set_option maxHeartbeats 4000000 in
theorem s_X12_rasterField_21 {x : JX} {ad : Nat → Nat} {U : Mm} {S0 : Hp} {q : Unit × Mm}  (hn9 : x_n x = 2) (C : CB x RX12 cX12_rasterField) (M : CMr x 5 none S0 ad false U eV q) (T : Mm) (h : f_X12_rasterField_21   T = some q) : Jr x ad false U T [(0, .ref (ad 133))] 21 [] := by
  unfold f_X12_rasterField_21 at h
  refine r_aload_n C dX12_rasterField_21 rfl 0 rfl ?_
  refine r_aload_n C dX12_rasterField_22 rfl 0 rfl ?_
  refine r_geti (f := 1251) C flX12_379 dX12_rasterField_23 kq_133 (by decide) (by decide) rfl ?_
  refine r_if_ne (tgt := 33) C dX12_rasterField_26 (by decide) h (fun h => ?_) (fun h => ?_)
  · refine r_iconst (v := 0) C dX12_rasterField_33 (by decide) ?_
    refine r_callVN C M h [.int 0] [] mlX12_490 mcX12_begin (fun q9 e9 => s_X12_begin 0  e9) kq_133 rfl (by decide) (by decide) rfl rfl (Nat.le_of_ble_eq_true rfl) dX12_rasterField_34 (fun _ T1 h => ?_)
    refine r_goto (tgt := 172) C dX12_rasterField_37 (by decide) ?_
    exact r_vret C M dX12_rasterField_172 h
  · refine r_iconst (v := 1) C dX12_rasterField_29 (by decide) ?_
    refine r_goto (tgt := 34) C dX12_rasterField_30 (by decide) ?_
    refine r_callVN C M h [.int 1] [] mlX12_490 mcX12_begin (fun q9 e9 => s_X12_begin 1  e9) kq_133 rfl (by decide) (by decide) rfl rfl (Nat.le_of_ble_eq_true rfl) dX12_rasterField_34 (fun _ T2 h => ?_)
    refine r_goto (tgt := 172) C dX12_rasterField_37 (by decide) ?_
    exact r_vret C M dX12_rasterField_172 h
noncomputable def f_X12_rasterField (p1 : Int32) (T : Mm) : Option (Unit × Mm) :=
  if p1 = 65 then (if (gI T 1251 133) = 0 then (f_X12_rasterField_21 T)
  else (if (gI T 1251 133) = 1 then (f_X12_rasterField_21 T)
  else (f_X12_rasterField_40 p1 T)))
  else (f_X12_rasterField_40 p1 T)
set_option maxRecDepth 100000 in
set_option maxHeartbeats 4000000 in
theorem s_X12_rasterField {ad : Nat → Nat} {U T : Mm} {q : Unit × Mm}  (p1 : Int32) (h : f_X12_rasterField p1 T = some q) : Cr 5 yX12_rasterField cX12_rasterField 2 none [.ref (ad 133), .int p1] ad false U T eV q := by
  refine cr_of (by decide) (Nat.le_of_ble_eq_true rfl) fun x S0 hn9 C M => ?_
  have C : CB x RX12 cX12_rasterField := C
  refine Jr.eq (lv' := [(0, .ref (ad 133)), (1, .int p1)]) (st' := []) rfl rfl ?_
  unfold f_X12_rasterField at h
  refine r_iload_n C dX12_rasterField_0 rfl 1 rfl ?_
  refine r_bipush (v := 65) C dX12_rasterField_1 (by decide) ?_
  refine r_ic_ne (tgt := 40) C dX12_rasterField_3 (by decide) h (fun h => ?_) (fun h => ?_)
  · exact s_X12_rasterField_40 hn9 C M  p1 T h
  · refine r_aload_n C dX12_rasterField_6 rfl 0 rfl ?_
    refine r_geti (f := 1251) C flX12_379 dX12_rasterField_7 kq_133 (by decide) (by decide) rfl ?_
    refine r_if_eq (tgt := 21) C dX12_rasterField_10 (by decide) h (fun h => ?_) (fun h => ?_)
    · refine Jr.sub [0] (lv' := [(0, .ref (ad 133))]) rfl ?_
      exact s_X12_rasterField_21 hn9 C M  T h
    · refine r_aload_n C dX12_rasterField_13 rfl 0 rfl ?_
      refine r_geti (f := 1251) C flX12_379 dX12_rasterField_14 kq_133 (by decide) (by decide) rfl ?_
      refine r_iconst (v := 1) C dX12_rasterField_17 (by decide) ?_
      refine r_ic_ne (tgt := 40) C dX12_rasterField_18 (by decide) h (fun h => ?_) (fun h => ?_)
      · exact s_X12_rasterField_40 hn9 C M  p1 T h
      · refine Jr.sub [0] (lv' := [(0, .ref (ad 133))]) rfl ?_
        exact s_X12_rasterField_21 hn9 C M  T h
theorem dX12_rowField_0 : decode cX12_rowField 0 = .ok (.iload_n 1, 1) := by decide +kernel
theorem dX12_rowField_1 : decode cX12_rowField 1 = .ok (.bipush 77, 2) := by decide +kernel
theorem dX12_rowField_3 : decode cX12_rowField 3 = .ok (.if_icmp .ne 32, 3) := by decide +kernel
theorem dX12_rowField_6 : decode cX12_rowField 6 = .ok (.aload_n 0, 1) := by decide +kernel
theorem dX12_rowField_7 : decode cX12_rowField 7 = .ok (.getfield 379, 3) := by decide +kernel
theorem dX12_rowField_10 : decode cX12_rowField 10 = .ok (.ifCond .lt 25, 3) := by decide +kernel
theorem dX12_rowField_13 : decode cX12_rowField 13 = .ok (.aload_n 0, 1) := by decide +kernel
theorem dX12_rowField_14 : decode cX12_rowField 14 = .ok (.getfield 379, 3) := by decide +kernel
theorem dX12_rowField_17 : decode cX12_rowField 17 = .ok (.iconst 3, 1) := by decide +kernel
theorem dX12_rowField_18 : decode cX12_rowField 18 = .ok (.if_icmp .gt 17, 3) := by decide +kernel
theorem dX12_rowField_21 : decode cX12_rowField 21 = .ok (.aload_n 0, 1) := by decide +kernel
theorem dX12_rowField_22 : decode cX12_rowField 22 = .ok (.getfield 9, 3) := by decide +kernel
theorem dX12_rowField_25 : decode cX12_rowField 25 = .ok (.bipush 54, 2) := by decide +kernel
theorem dX12_rowField_27 : decode cX12_rowField 27 = .ok (.aload_n 0, 1) := by decide +kernel
theorem dX12_rowField_28 : decode cX12_rowField 28 = .ok (.getfield 379, 3) := by decide +kernel
theorem dX12_rowField_31 : decode cX12_rowField 31 = .ok (.iastore, 1) := by decide +kernel
theorem dX12_rowField_32 : decode cX12_rowField 32 = .ok (.goto 142, 3) := by decide +kernel
theorem dX12_rowField_35 : decode cX12_rowField 35 = .ok (.iload_n 1, 1) := by decide +kernel
theorem dX12_rowField_36 : decode cX12_rowField 36 = .ok (.bipush 89, 2) := by decide +kernel
theorem dX12_rowField_38 : decode cX12_rowField 38 = .ok (.if_icmp .ne 136, 3) := by decide +kernel
theorem dX12_rowField_41 : decode cX12_rowField 41 = .ok (.aload_n 0, 1) := by decide +kernel
theorem dX12_rowField_42 : decode cX12_rowField 42 = .ok (.getfield 9, 3) := by decide +kernel
theorem dX12_rowField_45 : decode cX12_rowField 45 = .ok (.bipush 57, 2) := by decide +kernel
theorem dX12_rowField_47 : decode cX12_rowField 47 = .ok (.iaload, 1) := by decide +kernel
theorem dX12_rowField_48 : decode cX12_rowField 48 = .ok (.iconst 1, 1) := by decide +kernel
theorem dX12_rowField_49 : decode cX12_rowField 49 = .ok (.if_icmp .ne 125, 3) := by decide +kernel
theorem dX12_rowField_52 : decode cX12_rowField 52 = .ok (.aload_n 0, 1) := by decide +kernel
theorem dX12_rowField_53 : decode cX12_rowField 53 = .ok (.getfield 379, 3) := by decide +kernel
theorem dX12_rowField_56 : decode cX12_rowField 56 = .ok (.ifCond .le 118, 3) := by decide +kernel
theorem dX12_rowField_59 : decode cX12_rowField 59 = .ok (.aload_n 0, 1) := by decide +kernel
theorem dX12_rowField_60 : decode cX12_rowField 60 = .ok (.getfield 379, 3) := by decide +kernel
theorem dX12_rowField_63 : decode cX12_rowField 63 = .ok (.istore_n 2, 1) := by decide +kernel
theorem dX12_rowField_64 : decode cX12_rowField 64 = .ok (.aload_n 0, 1) := by decide +kernel
theorem dX12_rowField_65 : decode cX12_rowField 65 = .ok (.getfield 9, 3) := by decide +kernel
theorem dX12_rowField_68 : decode cX12_rowField 68 = .ok (.bipush 56, 2) := by decide +kernel
theorem dX12_rowField_70 : decode cX12_rowField 70 = .ok (.iaload, 1) := by decide +kernel
theorem dX12_rowField_71 : decode cX12_rowField 71 = .ok (.iconst (-1), 1) := by decide +kernel
theorem dX12_rowField_72 : decode cX12_rowField 72 = .ok (.if_icmp .eq 38, 3) := by decide +kernel
theorem dX12_rowField_75 : decode cX12_rowField 75 = .ok (.iload_n 2, 1) := by decide +kernel
theorem dX12_rowField_76 : decode cX12_rowField 76 = .ok (.aload_n 0, 1) := by decide +kernel
theorem dX12_rowField_77 : decode cX12_rowField 77 = .ok (.getfield 9, 3) := by decide +kernel
theorem dX12_rowField_80 : decode cX12_rowField 80 = .ok (.bipush 56, 2) := by decide +kernel
theorem dX12_rowField_82 : decode cX12_rowField 82 = .ok (.iaload, 1) := by decide +kernel
theorem dX12_rowField_83 : decode cX12_rowField 83 = .ok (.aload_n 0, 1) := by decide +kernel
theorem dX12_rowField_84 : decode cX12_rowField 84 = .ok (.getfield 9, 3) := by decide +kernel
theorem dX12_rowField_87 : decode cX12_rowField 87 = .ok (.bipush 59, 2) := by decide +kernel
theorem dX12_rowField_89 : decode cX12_rowField 89 = .ok (.iaload, 1) := by decide +kernel
theorem dX12_rowField_90 : decode cX12_rowField 90 = .ok (.isub, 1) := by decide +kernel
theorem dX12_rowField_91 : decode cX12_rowField 91 = .ok (.if_icmp .le 19, 3) := by decide +kernel
theorem dX12_rowField_94 : decode cX12_rowField 94 = .ok (.aload_n 0, 1) := by decide +kernel
theorem dX12_rowField_95 : decode cX12_rowField 95 = .ok (.getfield 9, 3) := by decide +kernel
theorem dX12_rowField_98 : decode cX12_rowField 98 = .ok (.bipush 56, 2) := by decide +kernel
theorem dX12_rowField_100 : decode cX12_rowField 100 = .ok (.iaload, 1) := by decide +kernel
theorem dX12_rowField_101 : decode cX12_rowField 101 = .ok (.aload_n 0, 1) := by decide +kernel
theorem dX12_rowField_102 : decode cX12_rowField 102 = .ok (.getfield 9, 3) := by decide +kernel
theorem dX12_rowField_105 : decode cX12_rowField 105 = .ok (.bipush 59, 2) := by decide +kernel
theorem dX12_rowField_107 : decode cX12_rowField 107 = .ok (.iaload, 1) := by decide +kernel
theorem dX12_rowField_108 : decode cX12_rowField 108 = .ok (.isub, 1) := by decide +kernel
theorem dX12_rowField_109 : decode cX12_rowField 109 = .ok (.istore_n 2, 1) := by decide +kernel
theorem dX12_rowField_110 : decode cX12_rowField 110 = .ok (.iconst 0, 1) := by decide +kernel
theorem dX12_rowField_111 : decode cX12_rowField 111 = .ok (.istore_n 3, 1) := by decide +kernel
theorem dX12_rowField_112 : decode cX12_rowField 112 = .ok (.iload_n 3, 1) := by decide +kernel
theorem dX12_rowField_113 : decode cX12_rowField 113 = .ok (.bipush 80, 2) := by decide +kernel
theorem dX12_rowField_115 : decode cX12_rowField 115 = .ok (.if_icmp .ge 19, 3) := by decide +kernel
theorem dX12_rowField_118 : decode cX12_rowField 118 = .ok (.aload_n 0, 1) := by decide +kernel
theorem dX12_rowField_119 : decode cX12_rowField 119 = .ok (.getfield 9, 3) := by decide +kernel
theorem dX12_rowField_122 : decode cX12_rowField 122 = .ok (.bipush 60, 2) := by decide +kernel
theorem dX12_rowField_124 : decode cX12_rowField 124 = .ok (.iload_n 3, 1) := by decide +kernel
theorem dX12_rowField_125 : decode cX12_rowField 125 = .ok (.iadd, 1) := by decide +kernel
theorem dX12_rowField_126 : decode cX12_rowField 126 = .ok (.iconst 0, 1) := by decide +kernel
theorem dX12_rowField_127 : decode cX12_rowField 127 = .ok (.iastore, 1) := by decide +kernel
theorem dX12_rowField_128 : decode cX12_rowField 128 = .ok (.iinc 3 1, 3) := by decide +kernel
theorem dX12_rowField_131 : decode cX12_rowField 131 = .ok (.goto (-19), 3) := by decide +kernel
theorem dX12_rowField_134 : decode cX12_rowField 134 = .ok (.aload_n 0, 1) := by decide +kernel
theorem dX12_rowField_135 : decode cX12_rowField 135 = .ok (.getfield 9, 3) := by decide +kernel
theorem dX12_rowField_138 : decode cX12_rowField 138 = .ok (.bipush 59, 2) := by decide +kernel
theorem dX12_rowField_140 : decode cX12_rowField 140 = .ok (.dup2, 1) := by decide +kernel
theorem dX12_rowField_141 : decode cX12_rowField 141 = .ok (.iaload, 1) := by decide +kernel
theorem dX12_rowField_142 : decode cX12_rowField 142 = .ok (.iload_n 2, 1) := by decide +kernel
theorem dX12_rowField_143 : decode cX12_rowField 143 = .ok (.iadd, 1) := by decide +kernel
theorem dX12_rowField_144 : decode cX12_rowField 144 = .ok (.iastore, 1) := by decide +kernel
theorem dX12_rowField_145 : decode cX12_rowField 145 = .ok (.aload_n 0, 1) := by decide +kernel
theorem dX12_rowField_146 : decode cX12_rowField 146 = .ok (.aload_n 0, 1) := by decide +kernel
theorem dX12_rowField_147 : decode cX12_rowField 147 = .ok (.getfield 9, 3) := by decide +kernel
theorem dX12_rowField_150 : decode cX12_rowField 150 = .ok (.sipush 190, 3) := by decide +kernel
theorem dX12_rowField_153 : decode cX12_rowField 153 = .ok (.iaload, 1) := by decide +kernel
theorem dX12_rowField_154 : decode cX12_rowField 154 = .ok (.i2l, 1) := by decide +kernel
theorem dX12_rowField_155 : decode cX12_rowField 155 = .ok (.ldc2_w 204, 3) := by decide +kernel
theorem dX12_rowField_158 : decode cX12_rowField 158 = .ok (.aload_n 0, 1) := by decide +kernel
theorem dX12_rowField_159 : decode cX12_rowField 159 = .ok (.getfield 9, 3) := by decide +kernel
theorem dX12_rowField_162 : decode cX12_rowField 162 = .ok (.bipush 53, 2) := by decide +kernel
theorem dX12_rowField_164 : decode cX12_rowField 164 = .ok (.iaload, 1) := by decide +kernel
theorem dX12_rowField_165 : decode cX12_rowField 165 = .ok (.i2l, 1) := by decide +kernel
theorem dX12_rowField_166 : decode cX12_rowField 166 = .ok (.lmul, 1) := by decide +kernel
theorem dX12_rowField_167 : decode cX12_rowField 167 = .ok (.iload_n 2, 1) := by decide +kernel
theorem dX12_rowField_168 : decode cX12_rowField 168 = .ok (.i2l, 1) := by decide +kernel
theorem dX12_rowField_169 : decode cX12_rowField 169 = .ok (.lmul, 1) := by decide +kernel
theorem dX12_rowField_170 : decode cX12_rowField 170 = .ok (.ladd, 1) := by decide +kernel
theorem dX12_rowField_171 : decode cX12_rowField 171 = .ok (.invokevirtual 206, 3) := by decide +kernel
theorem dX12_rowField_174 : decode cX12_rowField 174 = .ok (.return_, 1) := by decide +kernel
noncomputable def f_X12_rowField_b112 (k112 : Int32 → Int32 → Mm → Option (Unit × Mm)) (a2 : Int32) (a3 : Int32) (T : Mm) : Option (Unit × Mm) :=
  if 80 ≤ a3 then (lb (uA T 134 59 (((gA T 134 59) + a2))) fun T1 =>
  bd (f_X12_setY ((((gA T1 134 190)).toInt64) + (((96 : Int64) * (((gA T1 134 53)).toInt64)) * ((a2).toInt64))) T1) fun _ T2 =>
  some ((), T2))
  else (ix ((60 : Int32) + a3) 192 fun j3 => lb (uA T 134 j3 (0)) fun T5 =>
  k112 a2 (a3 + 1) T5)
set_option maxRecDepth 100000 in
set_option maxHeartbeats 4000000 in
theorem s_X12_rowField_b112 {x : JX} {ad : Nat → Nat} {U : Mm} {S0 : Hp} {q : Unit × Mm}  {k112 : Int32 → Int32 → Mm → Option (Unit × Mm)} (hn9 : x_n x = 4) (C : CB x RX12 cX12_rowField) (M : CMr x 4 none S0 ad false U eV q) (hk112 : ∀ (a2 : Int32) (a3 : Int32) (T : Mm), k112 a2 a3 T = some q → Jr x ad false U T [(0, .ref (ad 133)), (2, .int a2), (3, .int a3)] 112 []) (a2 : Int32) (a3 : Int32) (T : Mm) (h : f_X12_rowField_b112 k112 a2 a3 T = some q) : Jr x ad false U T [(0, .ref (ad 133)), (2, .int a2), (3, .int a3)] 112 [] := by
  unfold f_X12_rowField_b112 at h
  refine r_iload_n C dX12_rowField_112 rfl 2 rfl ?_
  refine r_bipush (v := 80) C dX12_rowField_113 (by decide) ?_
  refine r_ic_ge (tgt := 134) C dX12_rowField_115 (by decide) h (fun h => ?_) (fun h => ?_)
  · refine r_aload_n C dX12_rowField_134 rfl 0 rfl ?_
    refine r_getp (f := 1200) (j := 134) C flX12_9 dX12_rowField_135 kq_133 (by decide) rfl (fun W => pt_1200 kq_133 W) ?_
    refine r_bipush (v := 59) C dX12_rowField_138 (by decide) ?_
    refine r_dup2 C dX12_rowField_140 rfl rfl ?_
    refine r_ialdc (n := 192) C 59 dX12_rowField_141 kq_134 lq_134 (vp_lit (by decide)) (by decide) ?_
    show Jr _ _ _ _ _ _ 142 _
    refine r_iload_n C dX12_rowField_142 rfl 1 rfl ?_
    refine r_iadd C dX12_rowField_143 rfl ?_
    refine r_iastc (n := 192) C 59 dX12_rowField_144 kq_134 lq_134 (vp_lit (by decide)) (by decide) h (fun T1 h => ?_)
    refine r_aload_n C dX12_rowField_145 rfl 0 rfl ?_
    refine r_aload_n C dX12_rowField_146 rfl 0 rfl ?_
    refine r_getp (f := 1200) (j := 134) C flX12_9 dX12_rowField_147 kq_133 (by decide) rfl (fun W => pt_1200 kq_133 W) ?_
    show Jr _ _ _ _ _ _ 150 _
    refine r_sipush (v := 190) C dX12_rowField_150 (by decide) ?_
    refine r_ialdc (n := 192) C 190 dX12_rowField_153 kq_134 lq_134 (vp_lit (by decide)) (by decide) ?_
    refine r_i2l C dX12_rowField_154 rfl ?_
    refine r_ldc2 (v := 96) C dX12_rowField_155 kcX12_204 ?_
    refine r_aload_n C dX12_rowField_158 rfl 0 rfl ?_
    refine r_getp (f := 1200) (j := 134) C flX12_9 dX12_rowField_159 kq_133 (by decide) rfl (fun W => pt_1200 kq_133 W) ?_
    show Jr _ _ _ _ _ _ 162 _
    refine r_bipush (v := 53) C dX12_rowField_162 (by decide) ?_
    refine r_ialdc (n := 192) C 53 dX12_rowField_164 kq_134 lq_134 (vp_lit (by decide)) (by decide) ?_
    refine r_i2l C dX12_rowField_165 rfl ?_
    refine r_lmul C dX12_rowField_166 rfl ?_
    refine r_iload_n C dX12_rowField_167 rfl 1 rfl ?_
    refine r_i2l C dX12_rowField_168 rfl ?_
    show Jr _ _ _ _ _ _ 169 _
    refine r_lmul C dX12_rowField_169 rfl ?_
    refine r_ladd C dX12_rowField_170 rfl ?_
    refine r_callVN C M h [.long ((((gA T1 134 190)).toInt64) + (((96 : Int64) * (((gA T1 134 53)).toInt64)) * ((a2).toInt64)))] [] mlX12_206 mcX12_setY (fun q9 e9 => s_X12_setY ((((gA T1 134 190)).toInt64) + (((96 : Int64) * (((gA T1 134 53)).toInt64)) * ((a2).toInt64)))  e9) kq_133 rfl (by decide) (by decide) rfl rfl (Nat.le_of_ble_eq_true rfl) dX12_rowField_171 (fun _ T2 h => ?_)
    exact r_vret C M dX12_rowField_174 h
  · refine r_aload_n C dX12_rowField_118 rfl 0 rfl ?_
    refine r_getp (f := 1200) (j := 134) C flX12_9 dX12_rowField_119 kq_133 (by decide) rfl (fun W => pt_1200 kq_133 W) ?_
    refine r_bipush (v := 60) C dX12_rowField_122 (by decide) ?_
    refine r_iload_n C dX12_rowField_124 rfl 2 rfl ?_
    refine r_iadd C dX12_rowField_125 rfl ?_
    show Jr _ _ _ _ _ _ 126 _
    refine r_iconst (v := 0) C dX12_rowField_126 (by decide) ?_
    refine r_iast (n := 192) C dX12_rowField_127 kq_134 lq_134 h (fun j3 T5 hj4 h => ?_)
    refine r_iinc (q := 2) (v := (a3 + 1)) (lv' := [(3, .int (a3 + 1)), (0, .ref (ad 133)), (2, .int a2)]) C dX12_rowField_128 rfl (by rw [show Int32.ofInt (1) = 1 by decide]) (by rw [hn9]; decide) rfl ?_
    refine r_goto (tgt := 112) C dX12_rowField_131 (by decide) ?_
    refine Jr.sub [1, 2, 0] (lv' := [(0, .ref (ad 133)), (2, .int a2), (3, .int (a3 + 1))]) rfl ?_
    exact hk112 a2 (a3 + 1) T5 h
noncomputable def f_X12_rowField_l112 (n : Nat) : Int32 → Int32 → Mm → Option (Unit × Mm) := Nat.rec (fun _ _ _ => none) (fun _ ih => f_X12_rowField_b112 ih) n
theorem s_X12_rowField_l112 {x : JX} {ad : Nat → Nat} {U : Mm} {S0 : Hp} {q : Unit × Mm}  (hn9 : x_n x = 4) (C : CB x RX12 cX12_rowField) (M : CMr x 4 none S0 ad false U eV q) : ∀ (n : Nat), ∀ (a2 : Int32) (a3 : Int32) (T : Mm), f_X12_rowField_l112  n a2 a3 T = some q → Jr x ad false U T [(0, .ref (ad 133)), (2, .int a2), (3, .int a3)] 112 [] := by
  intro n
  induction n with
  | zero => intro a2 a3 T  h; exact absurd h (by intro h; cases h)
  | succ n ih => exact fun a2 a3 T  h => s_X12_rowField_b112 hn9 C M (ih) a2 a3 T  h
noncomputable def f_X12_rowField_35 (a1 : Int32) (T : Mm) : Option (Unit × Mm) :=
  if a1 = 89 then (if (gA T 134 57) = 1 then (if (gI T 1251 133) ≤ 0 then (some ((), T))
  else (lb ((gI T 1251 133)) fun v1 =>
  if (gA T 134 56) = (-1) then (f_X12_rowField_l112 FU v1 0 T)
  else (if v1 ≤ ((gA T 134 56) - (gA T 134 59)) then (f_X12_rowField_l112 FU v1 0 T)
  else (lb (((gA T 134 56) - (gA T 134 59))) fun v2 =>
  f_X12_rowField_l112 FU v2 0 T))))
  else (some ((), T)))
  else (some ((), T))
set_option maxRecDepth 100000 in
set_option maxHeartbeats 4000000 in
theorem s_X12_rowField_35 {x : JX} {ad : Nat → Nat} {U : Mm} {S0 : Hp} {q : Unit × Mm}  (hn9 : x_n x = 4) (C : CB x RX12 cX12_rowField) (M : CMr x 4 none S0 ad false U eV q) (a1 : Int32) (T : Mm) (h : f_X12_rowField_35  a1 T = some q) : Jr x ad false U T [(0, .ref (ad 133)), (1, .int a1)] 35 [] := by
  unfold f_X12_rowField_35 at h
  refine r_iload_n C dX12_rowField_35 rfl 1 rfl ?_
  refine r_bipush (v := 89) C dX12_rowField_36 (by decide) ?_
  refine r_ic_ne (tgt := 174) C dX12_rowField_38 (by decide) h (fun h => ?_) (fun h => ?_)
  · exact r_vret C M dX12_rowField_174 h
  · refine r_aload_n C dX12_rowField_41 rfl 0 rfl ?_
    refine r_getp (f := 1200) (j := 134) C flX12_9 dX12_rowField_42 kq_133 (by decide) rfl (fun W => pt_1200 kq_133 W) ?_
    refine r_bipush (v := 57) C dX12_rowField_45 (by decide) ?_
    refine r_ialdc (n := 192) C 57 dX12_rowField_47 kq_134 lq_134 (vp_lit (by decide)) (by decide) ?_
    refine r_iconst (v := 1) C dX12_rowField_48 (by decide) ?_
    show Jr _ _ _ _ _ _ 49 _
    refine r_ic_ne (tgt := 174) C dX12_rowField_49 (by decide) h (fun h => ?_) (fun h => ?_)
    · exact r_vret C M dX12_rowField_174 h
    · refine r_aload_n C dX12_rowField_52 rfl 0 rfl ?_
      refine r_geti (f := 1251) C flX12_379 dX12_rowField_53 kq_133 (by decide) (by decide) rfl ?_
      refine r_if_le (tgt := 174) C dX12_rowField_56 (by decide) h (fun h => ?_) (fun h => ?_)
      · exact r_vret C M dX12_rowField_174 h
      · refine r_aload_n C dX12_rowField_59 rfl 0 rfl ?_
        refine r_geti (f := 1251) C flX12_379 dX12_rowField_60 kq_133 (by decide) (by decide) rfl ?_
        refine r_lbI h (fun v1 h => ?_)
        refine r_istore_n (lv' := [(2, .int v1), (0, .ref (ad 133)), (1, .int a1)]) C dX12_rowField_63 rfl (by rw [hn9]; decide) rfl ?_
        refine r_aload_n C dX12_rowField_64 rfl 1 rfl ?_
        refine r_getp (f := 1200) (j := 134) C flX12_9 dX12_rowField_65 kq_133 (by decide) rfl (fun W => pt_1200 kq_133 W) ?_
        show Jr _ _ _ _ _ _ 68 _
        refine r_bipush (v := 56) C dX12_rowField_68 (by decide) ?_
        refine r_ialdc (n := 192) C 56 dX12_rowField_70 kq_134 lq_134 (vp_lit (by decide)) (by decide) ?_
        refine r_iconst (v := (-1)) C dX12_rowField_71 (by decide) ?_
        refine r_ic_eq (tgt := 110) C dX12_rowField_72 (by decide) h (fun h => ?_) (fun h => ?_)
        · refine r_iconst (v := 0) C dX12_rowField_110 (by decide) ?_
          refine r_istore_n (lv' := [(3, .int 0), (2, .int v1), (0, .ref (ad 133)), (1, .int a1)]) C dX12_rowField_111 rfl (by rw [hn9]; decide) rfl ?_
          refine Jr.sub [2, 1, 0] (lv' := [(0, .ref (ad 133)), (2, .int v1), (3, .int 0)]) rfl ?_
          exact s_X12_rowField_l112 hn9 C M  FU v1 0 T h
        · refine r_iload_n C dX12_rowField_75 rfl 0 rfl ?_
          refine r_aload_n C dX12_rowField_76 rfl 1 rfl ?_
          refine r_getp (f := 1200) (j := 134) C flX12_9 dX12_rowField_77 kq_133 (by decide) rfl (fun W => pt_1200 kq_133 W) ?_
          refine r_bipush (v := 56) C dX12_rowField_80 (by decide) ?_
          refine r_ialdc (n := 192) C 56 dX12_rowField_82 kq_134 lq_134 (vp_lit (by decide)) (by decide) ?_
          show Jr _ _ _ _ _ _ 83 _
          refine r_aload_n C dX12_rowField_83 rfl 1 rfl ?_
          refine r_getp (f := 1200) (j := 134) C flX12_9 dX12_rowField_84 kq_133 (by decide) rfl (fun W => pt_1200 kq_133 W) ?_
          refine r_bipush (v := 59) C dX12_rowField_87 (by decide) ?_
          refine r_ialdc (n := 192) C 59 dX12_rowField_89 kq_134 lq_134 (vp_lit (by decide)) (by decide) ?_
          refine r_isub C dX12_rowField_90 rfl ?_
          refine r_ic_le (tgt := 110) C dX12_rowField_91 (by decide) h (fun h => ?_) (fun h => ?_)
          · refine r_iconst (v := 0) C dX12_rowField_110 (by decide) ?_
            refine r_istore_n (lv' := [(3, .int 0), (2, .int v1), (0, .ref (ad 133)), (1, .int a1)]) C dX12_rowField_111 rfl (by rw [hn9]; decide) rfl ?_
            refine Jr.sub [2, 1, 0] (lv' := [(0, .ref (ad 133)), (2, .int v1), (3, .int 0)]) rfl ?_
            exact s_X12_rowField_l112 hn9 C M  FU v1 0 T h
          · refine r_aload_n C dX12_rowField_94 rfl 1 rfl ?_
            refine r_getp (f := 1200) (j := 134) C flX12_9 dX12_rowField_95 kq_133 (by decide) rfl (fun W => pt_1200 kq_133 W) ?_
            refine r_bipush (v := 56) C dX12_rowField_98 (by decide) ?_
            refine r_ialdc (n := 192) C 56 dX12_rowField_100 kq_134 lq_134 (vp_lit (by decide)) (by decide) ?_
            refine r_aload_n C dX12_rowField_101 rfl 1 rfl ?_
            show Jr _ _ _ _ _ _ 102 _
            refine r_getp (f := 1200) (j := 134) C flX12_9 dX12_rowField_102 kq_133 (by decide) rfl (fun W => pt_1200 kq_133 W) ?_
            refine r_bipush (v := 59) C dX12_rowField_105 (by decide) ?_
            refine r_ialdc (n := 192) C 59 dX12_rowField_107 kq_134 lq_134 (vp_lit (by decide)) (by decide) ?_
            refine r_isub C dX12_rowField_108 rfl ?_
            refine r_lbI h (fun v2 h => ?_)
            refine r_istore_n (lv' := [(2, .int v2), (0, .ref (ad 133)), (1, .int a1)]) C dX12_rowField_109 rfl (by rw [hn9]; decide) rfl ?_
            refine r_iconst (v := 0) C dX12_rowField_110 (by decide) ?_
            show Jr _ _ _ _ _ _ 111 _
            refine r_istore_n (lv' := [(3, .int 0), (2, .int v2), (0, .ref (ad 133)), (1, .int a1)]) C dX12_rowField_111 rfl (by rw [hn9]; decide) rfl ?_
            refine Jr.sub [2, 1, 0] (lv' := [(0, .ref (ad 133)), (2, .int v2), (3, .int 0)]) rfl ?_
            exact s_X12_rowField_l112 hn9 C M  FU v2 0 T h
noncomputable def f_X12_rowField (p1 : Int32) (T : Mm) : Option (Unit × Mm) :=
  if p1 = 77 then (if (gI T 1251 133) < 0 then (f_X12_rowField_35 p1 T)
  else (if 3 < (gI T 1251 133) then (f_X12_rowField_35 p1 T)
  else (lb (uA T 134 54 ((gI T 1251 133))) fun T1 =>
  some ((), T1))))
  else (f_X12_rowField_35 p1 T)
set_option maxRecDepth 100000 in
set_option maxHeartbeats 4000000 in
theorem s_X12_rowField {ad : Nat → Nat} {U T : Mm} {q : Unit × Mm}  (p1 : Int32) (h : f_X12_rowField p1 T = some q) : Cr 4 yX12_rowField cX12_rowField 4 none [.ref (ad 133), .int p1] ad false U T eV q := by
  refine cr_of (by decide) (Nat.le_of_ble_eq_true rfl) fun x S0 hn9 C M => ?_
  have C : CB x RX12 cX12_rowField := C
  refine Jr.eq (lv' := [(0, .ref (ad 133)), (1, .int p1)]) (st' := []) rfl rfl ?_
  unfold f_X12_rowField at h
  refine r_iload_n C dX12_rowField_0 rfl 1 rfl ?_
  refine r_bipush (v := 77) C dX12_rowField_1 (by decide) ?_
  refine r_ic_ne (tgt := 35) C dX12_rowField_3 (by decide) h (fun h => ?_) (fun h => ?_)
  · exact s_X12_rowField_35 hn9 C M  p1 T h
  · refine r_aload_n C dX12_rowField_6 rfl 0 rfl ?_
    refine r_geti (f := 1251) C flX12_379 dX12_rowField_7 kq_133 (by decide) (by decide) rfl ?_
    refine r_if_lt (tgt := 35) C dX12_rowField_10 (by decide) h (fun h => ?_) (fun h => ?_)
    · exact s_X12_rowField_35 hn9 C M  p1 T h
    · refine r_aload_n C dX12_rowField_13 rfl 0 rfl ?_
      refine r_geti (f := 1251) C flX12_379 dX12_rowField_14 kq_133 (by decide) (by decide) rfl ?_
      refine r_iconst (v := 3) C dX12_rowField_17 (by decide) ?_
      refine r_ic_gt (tgt := 35) C dX12_rowField_18 (by decide) h (fun h => ?_) (fun h => ?_)
      · exact s_X12_rowField_35 hn9 C M  p1 T h
      · refine r_aload_n C dX12_rowField_21 rfl 0 rfl ?_
        refine r_getp (f := 1200) (j := 134) C flX12_9 dX12_rowField_22 kq_133 (by decide) rfl (fun W => pt_1200 kq_133 W) ?_
        refine r_bipush (v := 54) C dX12_rowField_25 (by decide) ?_
        refine r_aload_n C dX12_rowField_27 rfl 0 rfl ?_
        refine r_geti (f := 1251) C flX12_379 dX12_rowField_28 kq_133 (by decide) (by decide) rfl ?_
        show Jr _ _ _ _ _ _ 31 _
        refine r_iastc (n := 192) C 54 dX12_rowField_31 kq_134 lq_134 (vp_lit (by decide)) (by decide) h (fun T1 h => ?_)
        refine r_goto (tgt := 174) C dX12_rowField_32 (by decide) ?_
        exact r_vret C M dX12_rowField_174 h
theorem dX12_fontField_0 : decode cX12_fontField 0 = .ok (.bipush 12, 2) := by decide +kernel
theorem dX12_fontField_2 : decode cX12_fontField 2 = .ok (.bipush 8, 2) := by decide +kernel
theorem dX12_fontField_4 : decode cX12_fontField 4 = .ok (.iload_n 1, 1) := by decide +kernel
theorem dX12_fontField_5 : decode cX12_fontField 5 = .ok (.imul, 1) := by decide +kernel
theorem dX12_fontField_6 : decode cX12_fontField 6 = .ok (.iadd, 1) := by decide +kernel
theorem dX12_fontField_7 : decode cX12_fontField 7 = .ok (.istore 4, 2) := by decide +kernel
theorem dX12_fontField_9 : decode cX12_fontField 9 = .ok (.iconst 0, 1) := by decide +kernel
theorem dX12_fontField_10 : decode cX12_fontField 10 = .ok (.istore 5, 2) := by decide +kernel
theorem dX12_fontField_12 : decode cX12_fontField 12 = .ok (.iload_n 2, 1) := by decide +kernel
theorem dX12_fontField_13 : decode cX12_fontField 13 = .ok (.ifCond .ne 166, 3) := by decide +kernel
theorem dX12_fontField_16 : decode cX12_fontField 16 = .ok (.iload_n 3, 1) := by decide +kernel
theorem dX12_fontField_17 : decode cX12_fontField 17 = .ok (.bipush 88, 2) := by decide +kernel
theorem dX12_fontField_19 : decode cX12_fontField 19 = .ok (.if_icmp .ne 108, 3) := by decide +kernel
theorem dX12_fontField_22 : decode cX12_fontField 22 = .ok (.aload_n 0, 1) := by decide +kernel
theorem dX12_fontField_23 : decode cX12_fontField 23 = .ok (.getfield 379, 3) := by decide +kernel
theorem dX12_fontField_26 : decode cX12_fontField 26 = .ok (.ifCond .lt 100, 3) := by decide +kernel
theorem dX12_fontField_29 : decode cX12_fontField 29 = .ok (.aload_n 0, 1) := by decide +kernel
theorem dX12_fontField_30 : decode cX12_fontField 30 = .ok (.getfield 379, 3) := by decide +kernel
theorem dX12_fontField_33 : decode cX12_fontField 33 = .ok (.bipush 16, 2) := by decide +kernel
theorem dX12_fontField_35 : decode cX12_fontField 35 = .ok (.if_icmp .gt 91, 3) := by decide +kernel
theorem dX12_fontField_38 : decode cX12_fontField 38 = .ok (.aload_n 0, 1) := by decide +kernel
theorem dX12_fontField_39 : decode cX12_fontField 39 = .ok (.getfield 16, 3) := by decide +kernel
theorem dX12_fontField_42 : decode cX12_fontField 42 = .ok (.aload_n 0, 1) := by decide +kernel
theorem dX12_fontField_43 : decode cX12_fontField 43 = .ok (.getfield 379, 3) := by decide +kernel
theorem dX12_fontField_46 : decode cX12_fontField 46 = .ok (.baload, 1) := by decide +kernel
theorem dX12_fontField_47 : decode cX12_fontField 47 = .ok (.ifCond .eq 79, 3) := by decide +kernel
theorem dX12_fontField_50 : decode cX12_fontField 50 = .ok (.iconst 0, 1) := by decide +kernel
theorem dX12_fontField_51 : decode cX12_fontField 51 = .ok (.istore 6, 2) := by decide +kernel
theorem dX12_fontField_53 : decode cX12_fontField 53 = .ok (.iload 6, 2) := by decide +kernel
theorem dX12_fontField_55 : decode cX12_fontField 55 = .ok (.bipush 7, 2) := by decide +kernel
theorem dX12_fontField_57 : decode cX12_fontField 57 = .ok (.if_icmp .ge 34, 3) := by decide +kernel
theorem dX12_fontField_60 : decode cX12_fontField 60 = .ok (.aload_n 0, 1) := by decide +kernel
theorem dX12_fontField_61 : decode cX12_fontField 61 = .ok (.getfield 9, 3) := by decide +kernel
theorem dX12_fontField_64 : decode cX12_fontField 64 = .ok (.iload 4, 2) := by decide +kernel
theorem dX12_fontField_66 : decode cX12_fontField 66 = .ok (.iload 6, 2) := by decide +kernel
theorem dX12_fontField_68 : decode cX12_fontField 68 = .ok (.iadd, 1) := by decide +kernel
theorem dX12_fontField_69 : decode cX12_fontField 69 = .ok (.aload_n 0, 1) := by decide +kernel
theorem dX12_fontField_70 : decode cX12_fontField 70 = .ok (.getfield 23, 3) := by decide +kernel
theorem dX12_fontField_73 : decode cX12_fontField 73 = .ok (.bipush 7, 2) := by decide +kernel
theorem dX12_fontField_75 : decode cX12_fontField 75 = .ok (.aload_n 0, 1) := by decide +kernel
theorem dX12_fontField_76 : decode cX12_fontField 76 = .ok (.getfield 379, 3) := by decide +kernel
theorem dX12_fontField_79 : decode cX12_fontField 79 = .ok (.imul, 1) := by decide +kernel
theorem dX12_fontField_80 : decode cX12_fontField 80 = .ok (.iload 6, 2) := by decide +kernel
theorem dX12_fontField_82 : decode cX12_fontField 82 = .ok (.iadd, 1) := by decide +kernel
theorem dX12_fontField_83 : decode cX12_fontField 83 = .ok (.iaload, 1) := by decide +kernel
theorem dX12_fontField_84 : decode cX12_fontField 84 = .ok (.iastore, 1) := by decide +kernel
theorem dX12_fontField_85 : decode cX12_fontField 85 = .ok (.iinc 6 1, 3) := by decide +kernel
theorem dX12_fontField_88 : decode cX12_fontField 88 = .ok (.goto (-35), 3) := by decide +kernel
theorem dX12_fontField_91 : decode cX12_fontField 91 = .ok (.aload_n 0, 1) := by decide +kernel
theorem dX12_fontField_92 : decode cX12_fontField 92 = .ok (.getfield 9, 3) := by decide +kernel
theorem dX12_fontField_95 : decode cX12_fontField 95 = .ok (.iload 4, 2) := by decide +kernel
theorem dX12_fontField_97 : decode cX12_fontField 97 = .ok (.bipush 7, 2) := by decide +kernel
theorem dX12_fontField_99 : decode cX12_fontField 99 = .ok (.iadd, 1) := by decide +kernel
theorem dX12_fontField_100 : decode cX12_fontField 100 = .ok (.aload_n 0, 1) := by decide +kernel
theorem dX12_fontField_101 : decode cX12_fontField 101 = .ok (.getfield 379, 3) := by decide +kernel
theorem dX12_fontField_104 : decode cX12_fontField 104 = .ok (.iastore, 1) := by decide +kernel
theorem dX12_fontField_105 : decode cX12_fontField 105 = .ok (.aload_n 0, 1) := by decide +kernel
theorem dX12_fontField_106 : decode cX12_fontField 106 = .ok (.getfield 9, 3) := by decide +kernel
theorem dX12_fontField_109 : decode cX12_fontField 109 = .ok (.bipush 7, 2) := by decide +kernel
theorem dX12_fontField_111 : decode cX12_fontField 111 = .ok (.aload_n 0, 1) := by decide +kernel
theorem dX12_fontField_112 : decode cX12_fontField 112 = .ok (.getfield 23, 3) := by decide +kernel
theorem dX12_fontField_115 : decode cX12_fontField 115 = .ok (.bipush 7, 2) := by decide +kernel
theorem dX12_fontField_117 : decode cX12_fontField 117 = .ok (.aload_n 0, 1) := by decide +kernel
theorem dX12_fontField_118 : decode cX12_fontField 118 = .ok (.invokevirtual 310, 3) := by decide +kernel
theorem dX12_fontField_121 : decode cX12_fontField 121 = .ok (.imul, 1) := by decide +kernel
theorem dX12_fontField_122 : decode cX12_fontField 122 = .ok (.iconst 1, 1) := by decide +kernel
theorem dX12_fontField_123 : decode cX12_fontField 123 = .ok (.iadd, 1) := by decide +kernel
theorem dX12_fontField_124 : decode cX12_fontField 124 = .ok (.iaload, 1) := by decide +kernel
theorem dX12_fontField_125 : decode cX12_fontField 125 = .ok (.iastore, 1) := by decide +kernel
theorem dX12_fontField_126 : decode cX12_fontField 126 = .ok (.return_, 1) := by decide +kernel
theorem dX12_fontField_127 : decode cX12_fontField 127 = .ok (.iload_n 3, 1) := by decide +kernel
theorem dX12_fontField_128 : decode cX12_fontField 128 = .ok (.bipush 65, 2) := by decide +kernel
theorem dX12_fontField_130 : decode cX12_fontField 130 = .ok (.if_icmp .lt 9, 3) := by decide +kernel
theorem dX12_fontField_133 : decode cX12_fontField 133 = .ok (.iload_n 3, 1) := by decide +kernel
theorem dX12_fontField_134 : decode cX12_fontField 134 = .ok (.bipush 86, 2) := by decide +kernel
theorem dX12_fontField_136 : decode cX12_fontField 136 = .ok (.if_icmp .le 15, 3) := by decide +kernel
theorem dX12_fontField_139 : decode cX12_fontField 139 = .ok (.iload_n 3, 1) := by decide +kernel
theorem dX12_fontField_140 : decode cX12_fontField 140 = .ok (.bipush 89, 2) := by decide +kernel
theorem dX12_fontField_142 : decode cX12_fontField 142 = .ok (.if_icmp .eq 9, 3) := by decide +kernel
theorem dX12_fontField_145 : decode cX12_fontField 145 = .ok (.iload_n 3, 1) := by decide +kernel
theorem dX12_fontField_146 : decode cX12_fontField 146 = .ok (.bipush 90, 2) := by decide +kernel
theorem dX12_fontField_148 : decode cX12_fontField 148 = .ok (.if_icmp .ne 245, 3) := by decide +kernel
theorem dX12_fontField_151 : decode cX12_fontField 151 = .ok (.aload_n 0, 1) := by decide +kernel
theorem dX12_fontField_152 : decode cX12_fontField 152 = .ok (.getfield 9, 3) := by decide +kernel
theorem dX12_fontField_155 : decode cX12_fontField 155 = .ok (.iload 4, 2) := by decide +kernel
theorem dX12_fontField_157 : decode cX12_fontField 157 = .ok (.bipush 6, 2) := by decide +kernel
theorem dX12_fontField_159 : decode cX12_fontField 159 = .ok (.iadd, 1) := by decide +kernel
theorem dX12_fontField_160 : decode cX12_fontField 160 = .ok (.bipush 32, 2) := by decide +kernel
theorem dX12_fontField_162 : decode cX12_fontField 162 = .ok (.aload_n 0, 1) := by decide +kernel
theorem dX12_fontField_163 : decode cX12_fontField 163 = .ok (.getfield 379, 3) := by decide +kernel
theorem dX12_fontField_166 : decode cX12_fontField 166 = .ok (.imul, 1) := by decide +kernel
theorem dX12_fontField_167 : decode cX12_fontField 167 = .ok (.iload_n 3, 1) := by decide +kernel
theorem dX12_fontField_168 : decode cX12_fontField 168 = .ok (.iadd, 1) := by decide +kernel
theorem dX12_fontField_169 : decode cX12_fontField 169 = .ok (.bipush 64, 2) := by decide +kernel
theorem dX12_fontField_171 : decode cX12_fontField 171 = .ok (.isub, 1) := by decide +kernel
theorem dX12_fontField_172 : decode cX12_fontField 172 = .ok (.iastore, 1) := by decide +kernel
theorem dX12_fontField_173 : decode cX12_fontField 173 = .ok (.iconst 1, 1) := by decide +kernel
theorem dX12_fontField_174 : decode cX12_fontField 174 = .ok (.istore 5, 2) := by decide +kernel
theorem dX12_fontField_176 : decode cX12_fontField 176 = .ok (.goto 217, 3) := by decide +kernel
theorem dX12_fontField_179 : decode cX12_fontField 179 = .ok (.iload_n 2, 1) := by decide +kernel
theorem dX12_fontField_180 : decode cX12_fontField 180 = .ok (.bipush 115, 2) := by decide +kernel
theorem dX12_fontField_182 : decode cX12_fontField 182 = .ok (.if_icmp .ne 211, 3) := by decide +kernel
theorem dX12_fontField_185 : decode cX12_fontField 185 = .ok (.iload_n 3, 1) := by decide +kernel
theorem dX12_fontField_186 : decode cX12_fontField 186 = .ok (.bipush 80, 2) := by decide +kernel
theorem dX12_fontField_188 : decode cX12_fontField 188 = .ok (.if_icmp .ne 28, 3) := by decide +kernel
theorem dX12_fontField_191 : decode cX12_fontField 191 = .ok (.aload_n 0, 1) := by decide +kernel
theorem dX12_fontField_192 : decode cX12_fontField 192 = .ok (.getfield 9, 3) := by decide +kernel
theorem dX12_fontField_195 : decode cX12_fontField 195 = .ok (.iload 4, 2) := by decide +kernel
theorem dX12_fontField_197 : decode cX12_fontField 197 = .ok (.aload_n 0, 1) := by decide +kernel
theorem dX12_fontField_198 : decode cX12_fontField 198 = .ok (.getfield 379, 3) := by decide +kernel
theorem dX12_fontField_201 : decode cX12_fontField 201 = .ok (.ifCond .ne 7, 3) := by decide +kernel
theorem dX12_fontField_204 : decode cX12_fontField 204 = .ok (.iconst 0, 1) := by decide +kernel
theorem dX12_fontField_205 : decode cX12_fontField 205 = .ok (.goto 4, 3) := by decide +kernel
theorem dX12_fontField_208 : decode cX12_fontField 208 = .ok (.iconst 1, 1) := by decide +kernel
theorem dX12_fontField_209 : decode cX12_fontField 209 = .ok (.iastore, 1) := by decide +kernel
theorem dX12_fontField_210 : decode cX12_fontField 210 = .ok (.iconst 1, 1) := by decide +kernel
theorem dX12_fontField_211 : decode cX12_fontField 211 = .ok (.istore 5, 2) := by decide +kernel
theorem dX12_fontField_213 : decode cX12_fontField 213 = .ok (.goto 180, 3) := by decide +kernel
theorem dX12_fontField_216 : decode cX12_fontField 216 = .ok (.iload_n 3, 1) := by decide +kernel
theorem dX12_fontField_217 : decode cX12_fontField 217 = .ok (.bipush 72, 2) := by decide +kernel
theorem dX12_fontField_219 : decode cX12_fontField 219 = .ok (.if_icmp .ne 60, 3) := by decide +kernel
theorem dX12_fontField_222 : decode cX12_fontField 222 = .ok (.aload_n 0, 1) := by decide +kernel
theorem dX12_fontField_223 : decode cX12_fontField 223 = .ok (.getfield 384, 3) := by decide +kernel
theorem dX12_fontField_226 : decode cX12_fontField 226 = .ok (.lconst 0, 1) := by decide +kernel
theorem dX12_fontField_227 : decode cX12_fontField 227 = .ok (.lcmp, 1) := by decide +kernel
theorem dX12_fontField_228 : decode cX12_fontField 228 = .ok (.ifCond .le 14, 3) := by decide +kernel
theorem dX12_fontField_231 : decode cX12_fontField 231 = .ok (.ldc2_w 468, 3) := by decide +kernel
theorem dX12_fontField_234 : decode cX12_fontField 234 = .ok (.aload_n 0, 1) := by decide +kernel
theorem dX12_fontField_235 : decode cX12_fontField 235 = .ok (.getfield 384, 3) := by decide +kernel
theorem dX12_fontField_238 : decode cX12_fontField 238 = .ok (.ldiv, 1) := by decide +kernel
theorem dX12_fontField_239 : decode cX12_fontField 239 = .ok (.goto 4, 3) := by decide +kernel
theorem dX12_fontField_242 : decode cX12_fontField 242 = .ok (.lconst 0, 1) := by decide +kernel
theorem dX12_fontField_243 : decode cX12_fontField 243 = .ok (.lstore 6, 2) := by decide +kernel
theorem dX12_fontField_245 : decode cX12_fontField 245 = .ok (.lload 6, 2) := by decide +kernel
theorem dX12_fontField_247 : decode cX12_fontField 247 = .ok (.lconst 1, 1) := by decide +kernel
theorem dX12_fontField_248 : decode cX12_fontField 248 = .ok (.lcmp, 1) := by decide +kernel
theorem dX12_fontField_249 : decode cX12_fontField 249 = .ok (.ifCond .lt 27, 3) := by decide +kernel
theorem dX12_fontField_252 : decode cX12_fontField 252 = .ok (.lload 6, 2) := by decide +kernel
theorem dX12_fontField_254 : decode cX12_fontField 254 = .ok (.ldc2_w 470, 3) := by decide +kernel
theorem dX12_fontField_257 : decode cX12_fontField 257 = .ok (.lcmp, 1) := by decide +kernel
theorem dX12_fontField_258 : decode cX12_fontField 258 = .ok (.ifCond .gt 18, 3) := by decide +kernel
theorem dX12_fontField_261 : decode cX12_fontField 261 = .ok (.aload_n 0, 1) := by decide +kernel
theorem dX12_fontField_262 : decode cX12_fontField 262 = .ok (.getfield 9, 3) := by decide +kernel
theorem dX12_fontField_265 : decode cX12_fontField 265 = .ok (.iload 4, 2) := by decide +kernel
theorem dX12_fontField_267 : decode cX12_fontField 267 = .ok (.iconst 1, 1) := by decide +kernel
theorem dX12_fontField_268 : decode cX12_fontField 268 = .ok (.iadd, 1) := by decide +kernel
theorem dX12_fontField_269 : decode cX12_fontField 269 = .ok (.lload 6, 2) := by decide +kernel
theorem dX12_fontField_271 : decode cX12_fontField 271 = .ok (.l2i, 1) := by decide +kernel
theorem dX12_fontField_272 : decode cX12_fontField 272 = .ok (.iastore, 1) := by decide +kernel
theorem dX12_fontField_273 : decode cX12_fontField 273 = .ok (.iconst 1, 1) := by decide +kernel
theorem dX12_fontField_274 : decode cX12_fontField 274 = .ok (.istore 5, 2) := by decide +kernel
theorem dX12_fontField_276 : decode cX12_fontField 276 = .ok (.goto 117, 3) := by decide +kernel
theorem dX12_fontField_279 : decode cX12_fontField 279 = .ok (.iload_n 3, 1) := by decide +kernel
theorem dX12_fontField_280 : decode cX12_fontField 280 = .ok (.bipush 86, 2) := by decide +kernel
theorem dX12_fontField_282 : decode cX12_fontField 282 = .ok (.if_icmp .eq 15, 3) := by decide +kernel
theorem dX12_fontField_285 : decode cX12_fontField 285 = .ok (.iload_n 3, 1) := by decide +kernel
theorem dX12_fontField_286 : decode cX12_fontField 286 = .ok (.bipush 83, 2) := by decide +kernel
theorem dX12_fontField_288 : decode cX12_fontField 288 = .ok (.if_icmp .eq 9, 3) := by decide +kernel
theorem dX12_fontField_291 : decode cX12_fontField 291 = .ok (.iload_n 3, 1) := by decide +kernel
theorem dX12_fontField_292 : decode cX12_fontField 292 = .ok (.bipush 84, 2) := by decide +kernel
theorem dX12_fontField_294 : decode cX12_fontField 294 = .ok (.if_icmp .ne 59, 3) := by decide +kernel
theorem dX12_fontField_297 : decode cX12_fontField 297 = .ok (.aload_n 0, 1) := by decide +kernel
theorem dX12_fontField_298 : decode cX12_fontField 298 = .ok (.getfield 379, 3) := by decide +kernel
theorem dX12_fontField_301 : decode cX12_fontField 301 = .ok (.ifCond .lt 92, 3) := by decide +kernel
theorem dX12_fontField_304 : decode cX12_fontField 304 = .ok (.aload_n 0, 1) := by decide +kernel
theorem dX12_fontField_305 : decode cX12_fontField 305 = .ok (.getfield 379, 3) := by decide +kernel
theorem dX12_fontField_308 : decode cX12_fontField 308 = .ok (.sipush 255, 3) := by decide +kernel
theorem dX12_fontField_311 : decode cX12_fontField 311 = .ok (.if_icmp .gt 82, 3) := by decide +kernel
theorem dX12_fontField_314 : decode cX12_fontField 314 = .ok (.aload_n 0, 1) := by decide +kernel
theorem dX12_fontField_315 : decode cX12_fontField 315 = .ok (.getfield 9, 3) := by decide +kernel
theorem dX12_fontField_318 : decode cX12_fontField 318 = .ok (.iload 4, 2) := by decide +kernel
theorem dX12_fontField_320 : decode cX12_fontField 320 = .ok (.iload_n 3, 1) := by decide +kernel
theorem dX12_fontField_321 : decode cX12_fontField 321 = .ok (.bipush 86, 2) := by decide +kernel
theorem dX12_fontField_323 : decode cX12_fontField 323 = .ok (.if_icmp .ne 7, 3) := by decide +kernel
theorem dX12_fontField_326 : decode cX12_fontField 326 = .ok (.iconst 2, 1) := by decide +kernel
theorem dX12_fontField_327 : decode cX12_fontField 327 = .ok (.goto 14, 3) := by decide +kernel
theorem dX12_fontField_330 : decode cX12_fontField 330 = .ok (.iload_n 3, 1) := by decide +kernel
theorem dX12_fontField_331 : decode cX12_fontField 331 = .ok (.bipush 83, 2) := by decide +kernel
theorem dX12_fontField_333 : decode cX12_fontField 333 = .ok (.if_icmp .ne 7, 3) := by decide +kernel
theorem dX12_fontField_336 : decode cX12_fontField 336 = .ok (.iconst 3, 1) := by decide +kernel
theorem dX12_fontField_337 : decode cX12_fontField 337 = .ok (.goto 4, 3) := by decide +kernel
theorem dX12_fontField_340 : decode cX12_fontField 340 = .ok (.iconst 5, 1) := by decide +kernel
theorem dX12_fontField_341 : decode cX12_fontField 341 = .ok (.iadd, 1) := by decide +kernel
theorem dX12_fontField_342 : decode cX12_fontField 342 = .ok (.aload_n 0, 1) := by decide +kernel
theorem dX12_fontField_343 : decode cX12_fontField 343 = .ok (.getfield 379, 3) := by decide +kernel
theorem dX12_fontField_346 : decode cX12_fontField 346 = .ok (.iastore, 1) := by decide +kernel
theorem dX12_fontField_347 : decode cX12_fontField 347 = .ok (.iconst 1, 1) := by decide +kernel
theorem dX12_fontField_348 : decode cX12_fontField 348 = .ok (.istore 5, 2) := by decide +kernel
theorem dX12_fontField_350 : decode cX12_fontField 350 = .ok (.goto 43, 3) := by decide +kernel
theorem dX12_fontField_353 : decode cX12_fontField 353 = .ok (.iload_n 3, 1) := by decide +kernel
theorem dX12_fontField_354 : decode cX12_fontField 354 = .ok (.bipush 66, 2) := by decide +kernel
theorem dX12_fontField_356 : decode cX12_fontField 356 = .ok (.if_icmp .ne 37, 3) := by decide +kernel
theorem dX12_fontField_359 : decode cX12_fontField 359 = .ok (.aload_n 0, 1) := by decide +kernel
theorem dX12_fontField_360 : decode cX12_fontField 360 = .ok (.getfield 379, 3) := by decide +kernel
theorem dX12_fontField_363 : decode cX12_fontField 363 = .ok (.bipush (-128), 2) := by decide +kernel
theorem dX12_fontField_365 : decode cX12_fontField 365 = .ok (.if_icmp .lt 28, 3) := by decide +kernel
theorem dX12_fontField_368 : decode cX12_fontField 368 = .ok (.aload_n 0, 1) := by decide +kernel
theorem dX12_fontField_369 : decode cX12_fontField 369 = .ok (.getfield 379, 3) := by decide +kernel
theorem dX12_fontField_372 : decode cX12_fontField 372 = .ok (.bipush 127, 2) := by decide +kernel
theorem dX12_fontField_374 : decode cX12_fontField 374 = .ok (.if_icmp .gt 19, 3) := by decide +kernel
theorem dX12_fontField_377 : decode cX12_fontField 377 = .ok (.aload_n 0, 1) := by decide +kernel
theorem dX12_fontField_378 : decode cX12_fontField 378 = .ok (.getfield 9, 3) := by decide +kernel
theorem dX12_fontField_381 : decode cX12_fontField 381 = .ok (.iload 4, 2) := by decide +kernel
theorem dX12_fontField_383 : decode cX12_fontField 383 = .ok (.iconst 4, 1) := by decide +kernel
theorem dX12_fontField_384 : decode cX12_fontField 384 = .ok (.iadd, 1) := by decide +kernel
theorem dX12_fontField_385 : decode cX12_fontField 385 = .ok (.aload_n 0, 1) := by decide +kernel
theorem dX12_fontField_386 : decode cX12_fontField 386 = .ok (.getfield 379, 3) := by decide +kernel
theorem dX12_fontField_389 : decode cX12_fontField 389 = .ok (.iastore, 1) := by decide +kernel
theorem dX12_fontField_390 : decode cX12_fontField 390 = .ok (.iconst 1, 1) := by decide +kernel
theorem dX12_fontField_391 : decode cX12_fontField 391 = .ok (.istore 5, 2) := by decide +kernel
theorem dX12_fontField_393 : decode cX12_fontField 393 = .ok (.iload 5, 2) := by decide +kernel
theorem dX12_fontField_395 : decode cX12_fontField 395 = .ok (.ifCond .eq 35, 3) := by decide +kernel
theorem dX12_fontField_398 : decode cX12_fontField 398 = .ok (.aload_n 0, 1) := by decide +kernel
theorem dX12_fontField_399 : decode cX12_fontField 399 = .ok (.getfield 9, 3) := by decide +kernel
theorem dX12_fontField_402 : decode cX12_fontField 402 = .ok (.iload 4, 2) := by decide +kernel
theorem dX12_fontField_404 : decode cX12_fontField 404 = .ok (.bipush 7, 2) := by decide +kernel
theorem dX12_fontField_406 : decode cX12_fontField 406 = .ok (.iadd, 1) := by decide +kernel
theorem dX12_fontField_407 : decode cX12_fontField 407 = .ok (.iconst (-1), 1) := by decide +kernel
theorem dX12_fontField_408 : decode cX12_fontField 408 = .ok (.iastore, 1) := by decide +kernel
theorem dX12_fontField_409 : decode cX12_fontField 409 = .ok (.aload_n 0, 1) := by decide +kernel
theorem dX12_fontField_410 : decode cX12_fontField 410 = .ok (.getfield 9, 3) := by decide +kernel
theorem dX12_fontField_413 : decode cX12_fontField 413 = .ok (.bipush 7, 2) := by decide +kernel
theorem dX12_fontField_415 : decode cX12_fontField 415 = .ok (.aload_n 0, 1) := by decide +kernel
theorem dX12_fontField_416 : decode cX12_fontField 416 = .ok (.getfield 23, 3) := by decide +kernel
theorem dX12_fontField_419 : decode cX12_fontField 419 = .ok (.bipush 7, 2) := by decide +kernel
theorem dX12_fontField_421 : decode cX12_fontField 421 = .ok (.aload_n 0, 1) := by decide +kernel
theorem dX12_fontField_422 : decode cX12_fontField 422 = .ok (.invokevirtual 310, 3) := by decide +kernel
theorem dX12_fontField_425 : decode cX12_fontField 425 = .ok (.imul, 1) := by decide +kernel
theorem dX12_fontField_426 : decode cX12_fontField 426 = .ok (.iconst 1, 1) := by decide +kernel
theorem dX12_fontField_427 : decode cX12_fontField 427 = .ok (.iadd, 1) := by decide +kernel
theorem dX12_fontField_428 : decode cX12_fontField 428 = .ok (.iaload, 1) := by decide +kernel
theorem dX12_fontField_429 : decode cX12_fontField 429 = .ok (.iastore, 1) := by decide +kernel
theorem dX12_fontField_430 : decode cX12_fontField 430 = .ok (.return_, 1) := by decide +kernel
noncomputable def f_X12_fontField_393 (a4 : Int32) (a5 : Int32) (T : Mm) : Option (Unit × Mm) :=
  if a5 = 0 then (some ((), T))
  else (ix (a4 + 7) 192 fun j1 => lb (uA T 134 j1 ((-1))) fun T3 =>
  bd (f_X12_fontInUse T3) fun v4 T5 =>
  ix (((7 : Int32) * v4) + 1) 119 fun j6 =>
  lb (uA T5 134 7 ((gA T5 138 j6))) fun T8 =>
  some ((), T8))
set_option maxRecDepth 100000 in
set_option maxHeartbeats 4000000 in
theorem s_X12_fontField_393 {x : JX} {ad : Nat → Nat} {U : Mm} {S0 : Hp} {q : Unit × Mm}  (hn9 : x_n x = 8) (C : CB x RX12 cX12_fontField) (M : CMr x 4 none S0 ad false U eV q) (a4 : Int32) (a5 : Int32) (T : Mm) (h : f_X12_fontField_393  a4 a5 T = some q) : Jr x ad false U T [(0, .ref (ad 133)), (4, .int a4), (5, .int a5)] 393 [] := by
  unfold f_X12_fontField_393 at h
  refine r_iload C dX12_fontField_393 2 rfl ?_
  refine r_if_eq (tgt := 430) C dX12_fontField_395 (by decide) h (fun h => ?_) (fun h => ?_)
  · exact r_vret C M dX12_fontField_430 h
  · refine r_aload_n C dX12_fontField_398 rfl 0 rfl ?_
    refine r_getp (f := 1200) (j := 134) C flX12_9 dX12_fontField_399 kq_133 (by decide) rfl (fun W => pt_1200 kq_133 W) ?_
    refine r_iload C dX12_fontField_402 1 rfl ?_
    refine r_bipush (v := 7) C dX12_fontField_404 (by decide) ?_
    refine r_iadd C dX12_fontField_406 rfl ?_
    show Jr _ _ _ _ _ _ 407 _
    refine r_iconst (v := (-1)) C dX12_fontField_407 (by decide) ?_
    refine r_iast (n := 192) C dX12_fontField_408 kq_134 lq_134 h (fun j1 T3 hj2 h => ?_)
    refine r_aload_n C dX12_fontField_409 rfl 0 rfl ?_
    refine r_getp (f := 1200) (j := 134) C flX12_9 dX12_fontField_410 kq_133 (by decide) rfl (fun W => pt_1200 kq_133 W) ?_
    refine r_bipush (v := 7) C dX12_fontField_413 (by decide) ?_
    refine r_aload_n C dX12_fontField_415 rfl 0 rfl ?_
    show Jr _ _ _ _ _ _ 416 _
    refine r_getp (f := 1204) (j := 138) C flX12_23 dX12_fontField_416 kq_133 (by decide) rfl (fun W => pt_1204 kq_133 W) ?_
    refine r_bipush (v := 7) C dX12_fontField_419 (by decide) ?_
    refine r_aload_n C dX12_fontField_421 rfl 0 rfl ?_
    refine r_callVI C M h [] [.int 7, .ref (ad 138), .int 7, .ref (ad 134)] mlX12_310 mcX12_fontInUse (fun q9 e9 => s_X12_fontInUse   e9) kq_133 rfl (by decide) (by decide) rfl rfl (Nat.le_of_ble_eq_true rfl) dX12_fontField_422 (fun v4 T5 h => ?_)
    refine r_imul C dX12_fontField_425 rfl ?_
    refine r_iconst (v := 1) C dX12_fontField_426 (by decide) ?_
    show Jr _ _ _ _ _ _ 427 _
    refine r_iadd C dX12_fontField_427 rfl ?_
    refine r_iald (n := 119) C dX12_fontField_428 kq_138 lq_138 h (fun j6 hj7 h => ?_)
    refine r_iastc (n := 192) C 7 dX12_fontField_429 kq_134 lq_134 (vp_lit (by decide)) (by decide) h (fun T8 h => ?_)
    exact r_vret C M dX12_fontField_430 h
noncomputable def f_X12_fontField_297 (a3 : Int32) (a4 : Int32) (a5 : Int32) (T : Mm) : Option (Unit × Mm) :=
  if (gI T 1251 133) < 0 then (f_X12_fontField_393 a4 a5 T)
  else (if 255 < (gI T 1251 133) then (f_X12_fontField_393 a4 a5 T)
  else (if a3 = 86 then (ix (a4 + 2) 192 fun j7 => lb (uA T 134 j7 ((gI T 1251 133))) fun T9 =>
  f_X12_fontField_393 a4 1 T9)
  else (if a3 = 83 then (ix (a4 + 3) 192 fun j4 => lb (uA T 134 j4 ((gI T 1251 133))) fun T6 =>
  f_X12_fontField_393 a4 1 T6)
  else (ix (a4 + 5) 192 fun j1 => lb (uA T 134 j1 ((gI T 1251 133))) fun T3 =>
  f_X12_fontField_393 a4 1 T3))))
set_option maxRecDepth 100000 in
set_option maxHeartbeats 4000000 in
theorem s_X12_fontField_297 {x : JX} {ad : Nat → Nat} {U : Mm} {S0 : Hp} {q : Unit × Mm}  (hn9 : x_n x = 8) (C : CB x RX12 cX12_fontField) (M : CMr x 4 none S0 ad false U eV q) (a3 : Int32) (a4 : Int32) (a5 : Int32) (T : Mm) (h : f_X12_fontField_297  a3 a4 a5 T = some q) : Jr x ad false U T [(0, .ref (ad 133)), (3, .int a3), (4, .int a4), (5, .int a5)] 297 [] := by
  unfold f_X12_fontField_297 at h
  refine r_aload_n C dX12_fontField_297 rfl 0 rfl ?_
  refine r_geti (f := 1251) C flX12_379 dX12_fontField_298 kq_133 (by decide) (by decide) rfl ?_
  refine r_if_lt (tgt := 393) C dX12_fontField_301 (by decide) h (fun h => ?_) (fun h => ?_)
  · refine Jr.sub [0, 2, 3] (lv' := [(0, .ref (ad 133)), (4, .int a4), (5, .int a5)]) rfl ?_
    exact s_X12_fontField_393 hn9 C M  a4 a5 T h
  · refine r_aload_n C dX12_fontField_304 rfl 0 rfl ?_
    refine r_geti (f := 1251) C flX12_379 dX12_fontField_305 kq_133 (by decide) (by decide) rfl ?_
    refine r_sipush (v := 255) C dX12_fontField_308 (by decide) ?_
    refine r_ic_gt (tgt := 393) C dX12_fontField_311 (by decide) h (fun h => ?_) (fun h => ?_)
    · refine Jr.sub [0, 2, 3] (lv' := [(0, .ref (ad 133)), (4, .int a4), (5, .int a5)]) rfl ?_
      exact s_X12_fontField_393 hn9 C M  a4 a5 T h
    · refine r_aload_n C dX12_fontField_314 rfl 0 rfl ?_
      refine r_getp (f := 1200) (j := 134) C flX12_9 dX12_fontField_315 kq_133 (by decide) rfl (fun W => pt_1200 kq_133 W) ?_
      refine r_iload C dX12_fontField_318 2 rfl ?_
      refine r_iload_n C dX12_fontField_320 rfl 1 rfl ?_
      refine r_bipush (v := 86) C dX12_fontField_321 (by decide) ?_
      show Jr _ _ _ _ _ _ 323 _
      refine r_ic_ne (tgt := 330) C dX12_fontField_323 (by decide) h (fun h => ?_) (fun h => ?_)
      · refine r_iload_n C dX12_fontField_330 rfl 1 rfl ?_
        refine r_bipush (v := 83) C dX12_fontField_331 (by decide) ?_
        refine r_ic_ne (tgt := 340) C dX12_fontField_333 (by decide) h (fun h => ?_) (fun h => ?_)
        · refine r_iconst (v := 5) C dX12_fontField_340 (by decide) ?_
          refine r_iadd C dX12_fontField_341 rfl ?_
          refine r_aload_n C dX12_fontField_342 rfl 0 rfl ?_
          refine r_geti (f := 1251) C flX12_379 dX12_fontField_343 kq_133 (by decide) (by decide) rfl ?_
          refine r_iast (n := 192) C dX12_fontField_346 kq_134 lq_134 h (fun j1 T3 hj2 h => ?_)
          show Jr _ _ _ _ _ _ 347 _
          refine r_iconst (v := 1) C dX12_fontField_347 (by decide) ?_
          refine r_istore (lv' := [(5, .int 1), (0, .ref (ad 133)), (3, .int a3), (4, .int a4)]) C dX12_fontField_348 (by rw [hn9]; decide) rfl ?_
          refine r_goto (tgt := 393) C dX12_fontField_350 (by decide) ?_
          refine Jr.sub [1, 3, 0] (lv' := [(0, .ref (ad 133)), (4, .int a4), (5, .int 1)]) rfl ?_
          exact s_X12_fontField_393 hn9 C M  a4 1 T3 h
        · refine r_iconst (v := 3) C dX12_fontField_336 (by decide) ?_
          refine r_goto (tgt := 341) C dX12_fontField_337 (by decide) ?_
          refine r_iadd C dX12_fontField_341 rfl ?_
          refine r_aload_n C dX12_fontField_342 rfl 0 rfl ?_
          refine r_geti (f := 1251) C flX12_379 dX12_fontField_343 kq_133 (by decide) (by decide) rfl ?_
          show Jr _ _ _ _ _ _ 346 _
          refine r_iast (n := 192) C dX12_fontField_346 kq_134 lq_134 h (fun j4 T6 hj5 h => ?_)
          refine r_iconst (v := 1) C dX12_fontField_347 (by decide) ?_
          refine r_istore (lv' := [(5, .int 1), (0, .ref (ad 133)), (3, .int a3), (4, .int a4)]) C dX12_fontField_348 (by rw [hn9]; decide) rfl ?_
          refine r_goto (tgt := 393) C dX12_fontField_350 (by decide) ?_
          refine Jr.sub [1, 3, 0] (lv' := [(0, .ref (ad 133)), (4, .int a4), (5, .int 1)]) rfl ?_
          exact s_X12_fontField_393 hn9 C M  a4 1 T6 h
      · refine r_iconst (v := 2) C dX12_fontField_326 (by decide) ?_
        refine r_goto (tgt := 341) C dX12_fontField_327 (by decide) ?_
        refine r_iadd C dX12_fontField_341 rfl ?_
        refine r_aload_n C dX12_fontField_342 rfl 0 rfl ?_
        refine r_geti (f := 1251) C flX12_379 dX12_fontField_343 kq_133 (by decide) (by decide) rfl ?_
        show Jr _ _ _ _ _ _ 346 _
        refine r_iast (n := 192) C dX12_fontField_346 kq_134 lq_134 h (fun j7 T9 hj8 h => ?_)
        refine r_iconst (v := 1) C dX12_fontField_347 (by decide) ?_
        refine r_istore (lv' := [(5, .int 1), (0, .ref (ad 133)), (3, .int a3), (4, .int a4)]) C dX12_fontField_348 (by rw [hn9]; decide) rfl ?_
        refine r_goto (tgt := 393) C dX12_fontField_350 (by decide) ?_
        refine Jr.sub [1, 3, 0] (lv' := [(0, .ref (ad 133)), (4, .int a4), (5, .int 1)]) rfl ?_
        exact s_X12_fontField_393 hn9 C M  a4 1 T9 h
noncomputable def f_X12_fontField_243 (a4 : Int32) (a5 : Int32) (b0 : Int64) (T : Mm) : Option (Unit × Mm) :=
  if (lg_cmp b0 1) < 0 then (f_X12_fontField_393 a4 a5 T)
  else (if 0 < (lg_cmp b0 7200) then (f_X12_fontField_393 a4 a5 T)
  else (ix (a4 + 1) 192 fun j1 => lb (uA T 134 j1 (((b0).toInt32))) fun T3 =>
  f_X12_fontField_393 a4 1 T3))
set_option maxRecDepth 100000 in
set_option maxHeartbeats 4000000 in
theorem s_X12_fontField_243 {x : JX} {ad : Nat → Nat} {U : Mm} {S0 : Hp} {q : Unit × Mm}  (hn9 : x_n x = 8) (C : CB x RX12 cX12_fontField) (M : CMr x 4 none S0 ad false U eV q) (a4 : Int32) (a5 : Int32) (b0 : Int64) (T : Mm) (h : f_X12_fontField_243  a4 a5 b0 T = some q) : Jr x ad false U T [(0, .ref (ad 133)), (4, .int a4), (5, .int a5)] 243 [.long b0] := by
  unfold f_X12_fontField_243 at h
  refine r_lstore (lv' := [(6, .long b0), (0, .ref (ad 133)), (4, .int a4), (5, .int a5)]) C dX12_fontField_243 (by rw [hn9]; decide) rfl ?_
  refine r_lload C dX12_fontField_245 0 rfl ?_
  refine r_lconst (v := 1) C dX12_fontField_247 (by decide) ?_
  refine r_lcmp C dX12_fontField_248 ?_
  refine r_if_lt (tgt := 276) C dX12_fontField_249 (by decide) h (fun h => ?_) (fun h => ?_)
  · refine r_goto (tgt := 393) C dX12_fontField_276 (by decide) ?_
    refine Jr.sub [1, 2, 3] (lv' := [(0, .ref (ad 133)), (4, .int a4), (5, .int a5)]) rfl ?_
    exact s_X12_fontField_393 hn9 C M  a4 a5 T h
  · refine r_lload C dX12_fontField_252 0 rfl ?_
    refine r_ldc2 (v := 7200) C dX12_fontField_254 kcX12_470 ?_
    refine r_lcmp C dX12_fontField_257 ?_
    refine r_if_gt (tgt := 276) C dX12_fontField_258 (by decide) h (fun h => ?_) (fun h => ?_)
    · refine r_goto (tgt := 393) C dX12_fontField_276 (by decide) ?_
      refine Jr.sub [1, 2, 3] (lv' := [(0, .ref (ad 133)), (4, .int a4), (5, .int a5)]) rfl ?_
      exact s_X12_fontField_393 hn9 C M  a4 a5 T h
    · refine r_aload_n C dX12_fontField_261 rfl 1 rfl ?_
      refine r_getp (f := 1200) (j := 134) C flX12_9 dX12_fontField_262 kq_133 (by decide) rfl (fun W => pt_1200 kq_133 W) ?_
      refine r_iload C dX12_fontField_265 2 rfl ?_
      refine r_iconst (v := 1) C dX12_fontField_267 (by decide) ?_
      refine r_iadd C dX12_fontField_268 rfl ?_
      show Jr _ _ _ _ _ _ 269 _
      refine r_lload C dX12_fontField_269 0 rfl ?_
      refine r_l2i C dX12_fontField_271 rfl ?_
      refine r_iast (n := 192) C dX12_fontField_272 kq_134 lq_134 h (fun j1 T3 hj2 h => ?_)
      refine r_iconst (v := 1) C dX12_fontField_273 (by decide) ?_
      refine r_istore (lv' := [(5, .int 1), (6, .long b0), (0, .ref (ad 133)), (4, .int a4)]) C dX12_fontField_274 (by rw [hn9]; decide) rfl ?_
      refine r_goto (tgt := 393) C dX12_fontField_276 (by decide) ?_
      refine Jr.sub [2, 3, 0] (lv' := [(0, .ref (ad 133)), (4, .int a4), (5, .int 1)]) rfl ?_
      exact s_X12_fontField_393 hn9 C M  a4 1 T3 h
noncomputable def f_X12_fontField_151 (a3 : Int32) (a4 : Int32) (T : Mm) : Option (Unit × Mm) :=
  ix (a4 + 6) 192 fun j1 => lb (uA T 134 j1 (((((32 : Int32) * (gI T 1251 133)) + a3) - 64))) fun T3 =>
  f_X12_fontField_393 a4 1 T3
set_option maxRecDepth 100000 in
set_option maxHeartbeats 4000000 in
theorem s_X12_fontField_151 {x : JX} {ad : Nat → Nat} {U : Mm} {S0 : Hp} {q : Unit × Mm}  (hn9 : x_n x = 8) (C : CB x RX12 cX12_fontField) (M : CMr x 4 none S0 ad false U eV q) (a3 : Int32) (a4 : Int32) (T : Mm) (h : f_X12_fontField_151  a3 a4 T = some q) : Jr x ad false U T [(0, .ref (ad 133)), (3, .int a3), (4, .int a4)] 151 [] := by
  unfold f_X12_fontField_151 at h
  refine r_aload_n C dX12_fontField_151 rfl 0 rfl ?_
  refine r_getp (f := 1200) (j := 134) C flX12_9 dX12_fontField_152 kq_133 (by decide) rfl (fun W => pt_1200 kq_133 W) ?_
  refine r_iload C dX12_fontField_155 2 rfl ?_
  refine r_bipush (v := 6) C dX12_fontField_157 (by decide) ?_
  refine r_iadd C dX12_fontField_159 rfl ?_
  show Jr _ _ _ _ _ _ 160 _
  refine r_bipush (v := 32) C dX12_fontField_160 (by decide) ?_
  refine r_aload_n C dX12_fontField_162 rfl 0 rfl ?_
  refine r_geti (f := 1251) C flX12_379 dX12_fontField_163 kq_133 (by decide) (by decide) rfl ?_
  refine r_imul C dX12_fontField_166 rfl ?_
  refine r_iload_n C dX12_fontField_167 rfl 1 rfl ?_
  refine r_iadd C dX12_fontField_168 rfl ?_
  show Jr _ _ _ _ _ _ 169 _
  refine r_bipush (v := 64) C dX12_fontField_169 (by decide) ?_
  refine r_isub C dX12_fontField_171 rfl ?_
  refine r_iast (n := 192) C dX12_fontField_172 kq_134 lq_134 h (fun j1 T3 hj2 h => ?_)
  refine r_iconst (v := 1) C dX12_fontField_173 (by decide) ?_
  refine r_istore (lv' := [(5, .int 1), (0, .ref (ad 133)), (3, .int a3), (4, .int a4)]) C dX12_fontField_174 (by rw [hn9]; decide) rfl ?_
  refine r_goto (tgt := 393) C dX12_fontField_176 (by decide) ?_
  refine Jr.sub [1, 3, 0] (lv' := [(0, .ref (ad 133)), (4, .int a4), (5, .int 1)]) rfl ?_
  exact s_X12_fontField_393 hn9 C M  a4 1 T3 h
noncomputable def f_X12_fontField_139 (a3 : Int32) (a4 : Int32) (a5 : Int32) (T : Mm) : Option (Unit × Mm) :=
  if a3 = 89 then (f_X12_fontField_151 a3 a4 T)
  else (if a3 = 90 then (f_X12_fontField_151 a3 a4 T)
  else (f_X12_fontField_393 a4 a5 T))
set_option maxRecDepth 100000 in
set_option maxHeartbeats 4000000 in
theorem s_X12_fontField_139 {x : JX} {ad : Nat → Nat} {U : Mm} {S0 : Hp} {q : Unit × Mm}  (hn9 : x_n x = 8) (C : CB x RX12 cX12_fontField) (M : CMr x 4 none S0 ad false U eV q) (a3 : Int32) (a4 : Int32) (a5 : Int32) (T : Mm) (h : f_X12_fontField_139  a3 a4 a5 T = some q) : Jr x ad false U T [(0, .ref (ad 133)), (3, .int a3), (4, .int a4), (5, .int a5)] 139 [] := by
  unfold f_X12_fontField_139 at h
  refine r_iload_n C dX12_fontField_139 rfl 1 rfl ?_
  refine r_bipush (v := 89) C dX12_fontField_140 (by decide) ?_
  refine r_ic_eq (tgt := 151) C dX12_fontField_142 (by decide) h (fun h => ?_) (fun h => ?_)
  · refine Jr.sub [0, 1, 2] (lv' := [(0, .ref (ad 133)), (3, .int a3), (4, .int a4)]) rfl ?_
    exact s_X12_fontField_151 hn9 C M  a3 a4 T h
  · refine r_iload_n C dX12_fontField_145 rfl 1 rfl ?_
    refine r_bipush (v := 90) C dX12_fontField_146 (by decide) ?_
    refine r_ic_ne (tgt := 393) C dX12_fontField_148 (by decide) h (fun h => ?_) (fun h => ?_)
    · refine Jr.sub [0, 2, 3] (lv' := [(0, .ref (ad 133)), (4, .int a4), (5, .int a5)]) rfl ?_
      exact s_X12_fontField_393 hn9 C M  a4 a5 T h
    · refine Jr.sub [0, 1, 2] (lv' := [(0, .ref (ad 133)), (3, .int a3), (4, .int a4)]) rfl ?_
      exact s_X12_fontField_151 hn9 C M  a3 a4 T h
noncomputable def f_X12_fontField_b53 (k53 : Int32 → Int32 → Mm → Option (Unit × Mm)) (a4 : Int32) (a6 : Int32) (T : Mm) : Option (Unit × Mm) :=
  if 7 ≤ a6 then (ix (a4 + 7) 192 fun j1 => lb (uA T 134 j1 ((gI T 1251 133))) fun T3 =>
  bd (f_X12_fontInUse T3) fun v4 T5 =>
  ix (((7 : Int32) * v4) + 1) 119 fun j6 =>
  lb (uA T5 134 7 ((gA T5 138 j6))) fun T8 =>
  some ((), T8))
  else (ix (((7 : Int32) * (gI T 1251 133)) + a6) 119 fun j9 =>
  ix (a4 + a6) 192 fun j11 => lb (uA T 134 j11 ((gA T 138 j9))) fun T13 =>
  k53 a4 (a6 + 1) T13)
set_option maxRecDepth 100000 in
set_option maxHeartbeats 4000000 in
theorem s_X12_fontField_b53 {x : JX} {ad : Nat → Nat} {U : Mm} {S0 : Hp} {q : Unit × Mm}  {k53 : Int32 → Int32 → Mm → Option (Unit × Mm)} (hn9 : x_n x = 8) (C : CB x RX12 cX12_fontField) (M : CMr x 4 none S0 ad false U eV q) (hk53 : ∀ (a4 : Int32) (a6 : Int32) (T : Mm), k53 a4 a6 T = some q → Jr x ad false U T [(0, .ref (ad 133)), (4, .int a4), (6, .int a6)] 53 []) (a4 : Int32) (a6 : Int32) (T : Mm) (h : f_X12_fontField_b53 k53 a4 a6 T = some q) : Jr x ad false U T [(0, .ref (ad 133)), (4, .int a4), (6, .int a6)] 53 [] := by
  unfold f_X12_fontField_b53 at h
  refine r_iload C dX12_fontField_53 2 rfl ?_
  refine r_bipush (v := 7) C dX12_fontField_55 (by decide) ?_
  refine r_ic_ge (tgt := 91) C dX12_fontField_57 (by decide) h (fun h => ?_) (fun h => ?_)
  · refine r_aload_n C dX12_fontField_91 rfl 0 rfl ?_
    refine r_getp (f := 1200) (j := 134) C flX12_9 dX12_fontField_92 kq_133 (by decide) rfl (fun W => pt_1200 kq_133 W) ?_
    refine r_iload C dX12_fontField_95 1 rfl ?_
    refine r_bipush (v := 7) C dX12_fontField_97 (by decide) ?_
    refine r_iadd C dX12_fontField_99 rfl ?_
    show Jr _ _ _ _ _ _ 100 _
    refine r_aload_n C dX12_fontField_100 rfl 0 rfl ?_
    refine r_geti (f := 1251) C flX12_379 dX12_fontField_101 kq_133 (by decide) (by decide) rfl ?_
    refine r_iast (n := 192) C dX12_fontField_104 kq_134 lq_134 h (fun j1 T3 hj2 h => ?_)
    refine r_aload_n C dX12_fontField_105 rfl 0 rfl ?_
    refine r_getp (f := 1200) (j := 134) C flX12_9 dX12_fontField_106 kq_133 (by decide) rfl (fun W => pt_1200 kq_133 W) ?_
    refine r_bipush (v := 7) C dX12_fontField_109 (by decide) ?_
    show Jr _ _ _ _ _ _ 111 _
    refine r_aload_n C dX12_fontField_111 rfl 0 rfl ?_
    refine r_getp (f := 1204) (j := 138) C flX12_23 dX12_fontField_112 kq_133 (by decide) rfl (fun W => pt_1204 kq_133 W) ?_
    refine r_bipush (v := 7) C dX12_fontField_115 (by decide) ?_
    refine r_aload_n C dX12_fontField_117 rfl 0 rfl ?_
    refine r_callVI C M h [] [.int 7, .ref (ad 138), .int 7, .ref (ad 134)] mlX12_310 mcX12_fontInUse (fun q9 e9 => s_X12_fontInUse   e9) kq_133 rfl (by decide) (by decide) rfl rfl (Nat.le_of_ble_eq_true rfl) dX12_fontField_118 (fun v4 T5 h => ?_)
    refine r_imul C dX12_fontField_121 rfl ?_
    show Jr _ _ _ _ _ _ 122 _
    refine r_iconst (v := 1) C dX12_fontField_122 (by decide) ?_
    refine r_iadd C dX12_fontField_123 rfl ?_
    refine r_iald (n := 119) C dX12_fontField_124 kq_138 lq_138 h (fun j6 hj7 h => ?_)
    refine r_iastc (n := 192) C 7 dX12_fontField_125 kq_134 lq_134 (vp_lit (by decide)) (by decide) h (fun T8 h => ?_)
    exact r_vret C M dX12_fontField_126 h
  · refine r_aload_n C dX12_fontField_60 rfl 0 rfl ?_
    refine r_getp (f := 1200) (j := 134) C flX12_9 dX12_fontField_61 kq_133 (by decide) rfl (fun W => pt_1200 kq_133 W) ?_
    refine r_iload C dX12_fontField_64 1 rfl ?_
    refine r_iload C dX12_fontField_66 2 rfl ?_
    refine r_iadd C dX12_fontField_68 rfl ?_
    show Jr _ _ _ _ _ _ 69 _
    refine r_aload_n C dX12_fontField_69 rfl 0 rfl ?_
    refine r_getp (f := 1204) (j := 138) C flX12_23 dX12_fontField_70 kq_133 (by decide) rfl (fun W => pt_1204 kq_133 W) ?_
    refine r_bipush (v := 7) C dX12_fontField_73 (by decide) ?_
    refine r_aload_n C dX12_fontField_75 rfl 0 rfl ?_
    refine r_geti (f := 1251) C flX12_379 dX12_fontField_76 kq_133 (by decide) (by decide) rfl ?_
    refine r_imul C dX12_fontField_79 rfl ?_
    show Jr _ _ _ _ _ _ 80 _
    refine r_iload C dX12_fontField_80 2 rfl ?_
    refine r_iadd C dX12_fontField_82 rfl ?_
    refine r_iald (n := 119) C dX12_fontField_83 kq_138 lq_138 h (fun j9 hj10 h => ?_)
    refine r_iast (n := 192) C dX12_fontField_84 kq_134 lq_134 h (fun j11 T13 hj12 h => ?_)
    refine r_iinc (q := 2) (v := (a6 + 1)) (lv' := [(6, .int (a6 + 1)), (0, .ref (ad 133)), (4, .int a4)]) C dX12_fontField_85 rfl (by rw [show Int32.ofInt (1) = 1 by decide]) (by rw [hn9]; decide) rfl ?_
    refine r_goto (tgt := 53) C dX12_fontField_88 (by decide) ?_
    refine Jr.sub [1, 2, 0] (lv' := [(0, .ref (ad 133)), (4, .int a4), (6, .int (a6 + 1))]) rfl ?_
    exact hk53 a4 (a6 + 1) T13 h
noncomputable def f_X12_fontField_l53 (n : Nat) : Int32 → Int32 → Mm → Option (Unit × Mm) := Nat.rec (fun _ _ _ => none) (fun _ ih => f_X12_fontField_b53 ih) n
theorem s_X12_fontField_l53 {x : JX} {ad : Nat → Nat} {U : Mm} {S0 : Hp} {q : Unit × Mm}  (hn9 : x_n x = 8) (C : CB x RX12 cX12_fontField) (M : CMr x 4 none S0 ad false U eV q) : ∀ (n : Nat), ∀ (a4 : Int32) (a6 : Int32) (T : Mm), f_X12_fontField_l53  n a4 a6 T = some q → Jr x ad false U T [(0, .ref (ad 133)), (4, .int a4), (6, .int a6)] 53 [] := by
  intro n
  induction n with
  | zero => intro a4 a6 T  h; exact absurd h (by intro h; cases h)
  | succ n ih => exact fun a4 a6 T  h => s_X12_fontField_b53 hn9 C M (ih) a4 a6 T  h
noncomputable def f_X12_fontField (p1 : Int32) (p2 : Int32) (p3 : Int32) (T : Mm) : Option (Unit × Mm) :=
  lb (((12 : Int32) + ((8 : Int32) * p1))) fun v1 =>
  if p2 = 0 then (if p3 = 88 then (if (gI T 1251 133) < 0 then (some ((), T))
  else (if 16 < (gI T 1251 133) then (some ((), T))
  else (ix (gI T 1251 133) 17 fun j12 =>
  if (gA T 136 j12) = 0 then (some ((), T))
  else (f_X12_fontField_l53 FU v1 0 T))))
  else (if p3 < 65 then (f_X12_fontField_139 p3 v1 0 T)
  else (if p3 ≤ 86 then (f_X12_fontField_151 p3 v1 T)
  else (f_X12_fontField_139 p3 v1 0 T))))
  else (if p2 = 115 then (if p3 = 80 then (if (gI T 1251 133) = 0 then (ix v1 192 fun j9 => lb (uA T 134 j9 (0)) fun T11 =>
  f_X12_fontField_393 v1 1 T11)
  else (ix v1 192 fun j6 => lb (uA T 134 j6 (1)) fun T8 =>
  f_X12_fontField_393 v1 1 T8))
  else (if p3 = 72 then (if (lg_cmp (gJ T 1253 133) 0) ≤ 0 then (f_X12_fontField_243 v1 0 0 T)
  else (gd (¬ (gJ T 1253 133) = 0) <|
  f_X12_fontField_243 v1 0 ((72000000 : Int64) / (gJ T 1253 133)) T))
  else (if p3 = 86 then (f_X12_fontField_297 p3 v1 0 T)
  else (if p3 = 83 then (f_X12_fontField_297 p3 v1 0 T)
  else (if p3 = 84 then (f_X12_fontField_297 p3 v1 0 T)
  else (if p3 = 66 then (if (gI T 1251 133) < (-128) then (f_X12_fontField_393 v1 0 T)
  else (if 127 < (gI T 1251 133) then (f_X12_fontField_393 v1 0 T)
  else (ix (v1 + 4) 192 fun j2 => lb (uA T 134 j2 ((gI T 1251 133))) fun T4 =>
  f_X12_fontField_393 v1 1 T4)))
  else (f_X12_fontField_393 v1 0 T)))))))
  else (f_X12_fontField_393 v1 0 T))
set_option maxRecDepth 100000 in
set_option maxHeartbeats 4000000 in
theorem s_X12_fontField {ad : Nat → Nat} {U T : Mm} {q : Unit × Mm}  (p1 : Int32) (p2 : Int32) (p3 : Int32) (h : f_X12_fontField p1 p2 p3 T = some q) : Cr 4 yX12_fontField cX12_fontField 8 none [.ref (ad 133), .int p1, .int p2, .int p3] ad false U T eV q := by
  refine cr_of (by decide) (Nat.le_of_ble_eq_true rfl) fun x S0 hn9 C M => ?_
  have C : CB x RX12 cX12_fontField := C
  refine Jr.eq (lv' := [(0, .ref (ad 133)), (1, .int p1), (2, .int p2), (3, .int p3)]) (st' := []) rfl rfl ?_
  unfold f_X12_fontField at h
  refine r_bipush (v := 12) C dX12_fontField_0 (by decide) ?_
  refine r_bipush (v := 8) C dX12_fontField_2 (by decide) ?_
  refine r_iload_n C dX12_fontField_4 rfl 1 rfl ?_
  refine r_imul C dX12_fontField_5 rfl ?_
  refine r_iadd C dX12_fontField_6 rfl ?_
  show Jr _ _ _ _ _ _ 7 _
  refine r_lbI h (fun v1 h => ?_)
  refine r_istore (lv' := [(4, .int v1), (0, .ref (ad 133)), (1, .int p1), (2, .int p2), (3, .int p3)]) C dX12_fontField_7 (by rw [hn9]; decide) rfl ?_
  refine r_iconst (v := 0) C dX12_fontField_9 (by decide) ?_
  refine r_istore (lv' := [(5, .int 0), (4, .int v1), (0, .ref (ad 133)), (1, .int p1), (2, .int p2), (3, .int p3)]) C dX12_fontField_10 (by rw [hn9]; decide) rfl ?_
  refine r_iload_n C dX12_fontField_12 rfl 4 rfl ?_
  refine r_if_ne (tgt := 179) C dX12_fontField_13 (by decide) h (fun h => ?_) (fun h => ?_)
  · refine r_iload_n C dX12_fontField_179 rfl 4 rfl ?_
    refine r_bipush (v := 115) C dX12_fontField_180 (by decide) ?_
    refine r_ic_ne (tgt := 393) C dX12_fontField_182 (by decide) h (fun h => ?_) (fun h => ?_)
    · refine Jr.sub [2, 1, 0] (lv' := [(0, .ref (ad 133)), (4, .int v1), (5, .int 0)]) rfl ?_
      exact s_X12_fontField_393 hn9 C M  v1 0 T h
    · refine r_iload_n C dX12_fontField_185 rfl 5 rfl ?_
      refine r_bipush (v := 80) C dX12_fontField_186 (by decide) ?_
      refine r_ic_ne (tgt := 216) C dX12_fontField_188 (by decide) h (fun h => ?_) (fun h => ?_)
      · refine r_iload_n C dX12_fontField_216 rfl 5 rfl ?_
        refine r_bipush (v := 72) C dX12_fontField_217 (by decide) ?_
        refine r_ic_ne (tgt := 279) C dX12_fontField_219 (by decide) h (fun h => ?_) (fun h => ?_)
        · refine r_iload_n C dX12_fontField_279 rfl 5 rfl ?_
          refine r_bipush (v := 86) C dX12_fontField_280 (by decide) ?_
          refine r_ic_eq (tgt := 297) C dX12_fontField_282 (by decide) h (fun h => ?_) (fun h => ?_)
          · refine Jr.sub [2, 5, 1, 0] (lv' := [(0, .ref (ad 133)), (3, .int p3), (4, .int v1), (5, .int 0)]) rfl ?_
            exact s_X12_fontField_297 hn9 C M  p3 v1 0 T h
          · refine r_iload_n C dX12_fontField_285 rfl 5 rfl ?_
            refine r_bipush (v := 83) C dX12_fontField_286 (by decide) ?_
            refine r_ic_eq (tgt := 297) C dX12_fontField_288 (by decide) h (fun h => ?_) (fun h => ?_)
            · refine Jr.sub [2, 5, 1, 0] (lv' := [(0, .ref (ad 133)), (3, .int p3), (4, .int v1), (5, .int 0)]) rfl ?_
              exact s_X12_fontField_297 hn9 C M  p3 v1 0 T h
            · refine r_iload_n C dX12_fontField_291 rfl 5 rfl ?_
              refine r_bipush (v := 84) C dX12_fontField_292 (by decide) ?_
              refine r_ic_ne (tgt := 353) C dX12_fontField_294 (by decide) h (fun h => ?_) (fun h => ?_)
              · refine r_iload_n C dX12_fontField_353 rfl 5 rfl ?_
                refine r_bipush (v := 66) C dX12_fontField_354 (by decide) ?_
                refine r_ic_ne (tgt := 393) C dX12_fontField_356 (by decide) h (fun h => ?_) (fun h => ?_)
                · refine Jr.sub [2, 1, 0] (lv' := [(0, .ref (ad 133)), (4, .int v1), (5, .int 0)]) rfl ?_
                  exact s_X12_fontField_393 hn9 C M  v1 0 T h
                · refine r_aload_n C dX12_fontField_359 rfl 2 rfl ?_
                  refine r_geti (f := 1251) C flX12_379 dX12_fontField_360 kq_133 (by decide) (by decide) rfl ?_
                  refine r_bipush (v := (-128)) C dX12_fontField_363 (by decide) ?_
                  refine r_ic_lt (tgt := 393) C dX12_fontField_365 (by decide) h (fun h => ?_) (fun h => ?_)
                  · refine Jr.sub [2, 1, 0] (lv' := [(0, .ref (ad 133)), (4, .int v1), (5, .int 0)]) rfl ?_
                    exact s_X12_fontField_393 hn9 C M  v1 0 T h
                  · refine r_aload_n C dX12_fontField_368 rfl 2 rfl ?_
                    refine r_geti (f := 1251) C flX12_379 dX12_fontField_369 kq_133 (by decide) (by decide) rfl ?_
                    refine r_bipush (v := 127) C dX12_fontField_372 (by decide) ?_
                    refine r_ic_gt (tgt := 393) C dX12_fontField_374 (by decide) h (fun h => ?_) (fun h => ?_)
                    · refine Jr.sub [2, 1, 0] (lv' := [(0, .ref (ad 133)), (4, .int v1), (5, .int 0)]) rfl ?_
                      exact s_X12_fontField_393 hn9 C M  v1 0 T h
                    · refine r_aload_n C dX12_fontField_377 rfl 2 rfl ?_
                      refine r_getp (f := 1200) (j := 134) C flX12_9 dX12_fontField_378 kq_133 (by decide) rfl (fun W => pt_1200 kq_133 W) ?_
                      refine r_iload C dX12_fontField_381 1 rfl ?_
                      refine r_iconst (v := 4) C dX12_fontField_383 (by decide) ?_
                      refine r_iadd C dX12_fontField_384 rfl ?_
                      show Jr _ _ _ _ _ _ 385 _
                      refine r_aload_n C dX12_fontField_385 rfl 2 rfl ?_
                      refine r_geti (f := 1251) C flX12_379 dX12_fontField_386 kq_133 (by decide) (by decide) rfl ?_
                      refine r_iast (n := 192) C dX12_fontField_389 kq_134 lq_134 h (fun j2 T4 hj3 h => ?_)
                      refine r_iconst (v := 1) C dX12_fontField_390 (by decide) ?_
                      refine r_istore (lv' := [(5, .int 1), (4, .int v1), (0, .ref (ad 133)), (1, .int p1), (2, .int p2), (3, .int p3)]) C dX12_fontField_391 (by rw [hn9]; decide) rfl ?_
                      refine Jr.sub [2, 1, 0] (lv' := [(0, .ref (ad 133)), (4, .int v1), (5, .int 1)]) rfl ?_
                      exact s_X12_fontField_393 hn9 C M  v1 1 T4 h
              · refine Jr.sub [2, 5, 1, 0] (lv' := [(0, .ref (ad 133)), (3, .int p3), (4, .int v1), (5, .int 0)]) rfl ?_
                exact s_X12_fontField_297 hn9 C M  p3 v1 0 T h
        · refine r_aload_n C dX12_fontField_222 rfl 2 rfl ?_
          refine r_getl (f := 1253) C flX12_384 dX12_fontField_223 kq_133 (by decide) rfl ?_
          refine r_lconst (v := 0) C dX12_fontField_226 (by decide) ?_
          refine r_lcmp C dX12_fontField_227 ?_
          refine r_if_le (tgt := 242) C dX12_fontField_228 (by decide) h (fun h => ?_) (fun h => ?_)
          · refine r_lconst (v := 0) C dX12_fontField_242 (by decide) ?_
            refine Jr.sub [2, 1, 0] (lv' := [(0, .ref (ad 133)), (4, .int v1), (5, .int 0)]) rfl ?_
            exact s_X12_fontField_243 hn9 C M  v1 0 0 T h
          · refine r_ldc2 (v := 72000000) C dX12_fontField_231 kcX12_468 ?_
            refine r_aload_n C dX12_fontField_234 rfl 2 rfl ?_
            refine r_getl (f := 1253) C flX12_384 dX12_fontField_235 kq_133 (by decide) rfl ?_
            refine r_gd h (fun hz5 h => ?_)
            refine r_ldiv C dX12_fontField_238 hz5 rfl ?_
            refine r_goto (tgt := 243) C dX12_fontField_239 (by decide) ?_
            refine Jr.sub [2, 1, 0] (lv' := [(0, .ref (ad 133)), (4, .int v1), (5, .int 0)]) rfl ?_
            exact s_X12_fontField_243 hn9 C M  v1 0 ((72000000 : Int64) / (gJ T 1253 133)) T h
      · refine r_aload_n C dX12_fontField_191 rfl 2 rfl ?_
        refine r_getp (f := 1200) (j := 134) C flX12_9 dX12_fontField_192 kq_133 (by decide) rfl (fun W => pt_1200 kq_133 W) ?_
        refine r_iload C dX12_fontField_195 1 rfl ?_
        refine r_aload_n C dX12_fontField_197 rfl 2 rfl ?_
        refine r_geti (f := 1251) C flX12_379 dX12_fontField_198 kq_133 (by decide) (by decide) rfl ?_
        show Jr _ _ _ _ _ _ 201 _
        refine r_if_ne (tgt := 208) C dX12_fontField_201 (by decide) h (fun h => ?_) (fun h => ?_)
        · refine r_iconst (v := 1) C dX12_fontField_208 (by decide) ?_
          refine r_iast (n := 192) C dX12_fontField_209 kq_134 lq_134 h (fun j6 T8 hj7 h => ?_)
          refine r_iconst (v := 1) C dX12_fontField_210 (by decide) ?_
          refine r_istore (lv' := [(5, .int 1), (4, .int v1), (0, .ref (ad 133)), (1, .int p1), (2, .int p2), (3, .int p3)]) C dX12_fontField_211 (by rw [hn9]; decide) rfl ?_
          refine r_goto (tgt := 393) C dX12_fontField_213 (by decide) ?_
          refine Jr.sub [2, 1, 0] (lv' := [(0, .ref (ad 133)), (4, .int v1), (5, .int 1)]) rfl ?_
          exact s_X12_fontField_393 hn9 C M  v1 1 T8 h
        · refine r_iconst (v := 0) C dX12_fontField_204 (by decide) ?_
          refine r_goto (tgt := 209) C dX12_fontField_205 (by decide) ?_
          refine r_iast (n := 192) C dX12_fontField_209 kq_134 lq_134 h (fun j9 T11 hj10 h => ?_)
          refine r_iconst (v := 1) C dX12_fontField_210 (by decide) ?_
          refine r_istore (lv' := [(5, .int 1), (4, .int v1), (0, .ref (ad 133)), (1, .int p1), (2, .int p2), (3, .int p3)]) C dX12_fontField_211 (by rw [hn9]; decide) rfl ?_
          show Jr _ _ _ _ _ _ 213 _
          refine r_goto (tgt := 393) C dX12_fontField_213 (by decide) ?_
          refine Jr.sub [2, 1, 0] (lv' := [(0, .ref (ad 133)), (4, .int v1), (5, .int 1)]) rfl ?_
          exact s_X12_fontField_393 hn9 C M  v1 1 T11 h
  · refine r_iload_n C dX12_fontField_16 rfl 5 rfl ?_
    refine r_bipush (v := 88) C dX12_fontField_17 (by decide) ?_
    refine r_ic_ne (tgt := 127) C dX12_fontField_19 (by decide) h (fun h => ?_) (fun h => ?_)
    · refine r_iload_n C dX12_fontField_127 rfl 5 rfl ?_
      refine r_bipush (v := 65) C dX12_fontField_128 (by decide) ?_
      refine r_ic_lt (tgt := 139) C dX12_fontField_130 (by decide) h (fun h => ?_) (fun h => ?_)
      · refine Jr.sub [2, 5, 1, 0] (lv' := [(0, .ref (ad 133)), (3, .int p3), (4, .int v1), (5, .int 0)]) rfl ?_
        exact s_X12_fontField_139 hn9 C M  p3 v1 0 T h
      · refine r_iload_n C dX12_fontField_133 rfl 5 rfl ?_
        refine r_bipush (v := 86) C dX12_fontField_134 (by decide) ?_
        refine r_ic_le (tgt := 151) C dX12_fontField_136 (by decide) h (fun h => ?_) (fun h => ?_)
        · refine Jr.sub [2, 5, 1] (lv' := [(0, .ref (ad 133)), (3, .int p3), (4, .int v1)]) rfl ?_
          exact s_X12_fontField_151 hn9 C M  p3 v1 T h
        · refine Jr.sub [2, 5, 1, 0] (lv' := [(0, .ref (ad 133)), (3, .int p3), (4, .int v1), (5, .int 0)]) rfl ?_
          exact s_X12_fontField_139 hn9 C M  p3 v1 0 T h
    · refine r_aload_n C dX12_fontField_22 rfl 2 rfl ?_
      refine r_geti (f := 1251) C flX12_379 dX12_fontField_23 kq_133 (by decide) (by decide) rfl ?_
      refine r_if_lt (tgt := 126) C dX12_fontField_26 (by decide) h (fun h => ?_) (fun h => ?_)
      · exact r_vret C M dX12_fontField_126 h
      · refine r_aload_n C dX12_fontField_29 rfl 2 rfl ?_
        refine r_geti (f := 1251) C flX12_379 dX12_fontField_30 kq_133 (by decide) (by decide) rfl ?_
        refine r_bipush (v := 16) C dX12_fontField_33 (by decide) ?_
        refine r_ic_gt (tgt := 126) C dX12_fontField_35 (by decide) h (fun h => ?_) (fun h => ?_)
        · exact r_vret C M dX12_fontField_126 h
        · refine r_aload_n C dX12_fontField_38 rfl 2 rfl ?_
          refine r_getp (f := 1202) (j := 136) C flX12_16 dX12_fontField_39 kq_133 (by decide) rfl (fun W => pt_1202 kq_133 W) ?_
          refine r_aload_n C dX12_fontField_42 rfl 2 rfl ?_
          refine r_geti (f := 1251) C flX12_379 dX12_fontField_43 kq_133 (by decide) (by decide) rfl ?_
          refine r_zald (n := 17) C dX12_fontField_46 kq_136 lq_136 h (fun j12 hj13 h => ?_)
          show Jr _ _ _ _ _ _ 47 _
          refine r_if_eq (tgt := 126) C dX12_fontField_47 (by decide) h (fun h => ?_) (fun h => ?_)
          · exact r_vret C M dX12_fontField_126 h
          · refine r_iconst (v := 0) C dX12_fontField_50 (by decide) ?_
            refine r_istore (lv' := [(6, .int 0), (5, .int 0), (4, .int v1), (0, .ref (ad 133)), (1, .int p1), (2, .int p2), (3, .int p3)]) C dX12_fontField_51 (by rw [hn9]; decide) rfl ?_
            refine Jr.sub [3, 2, 0] (lv' := [(0, .ref (ad 133)), (4, .int v1), (6, .int 0)]) rfl ?_
            exact s_X12_fontField_l53 hn9 C M  FU v1 0 T h
theorem dX12_field_0 : decode cX12_field 0 = .ok (.iload_n 1, 1) := by decide +kernel
theorem dX12_field_1 : decode cX12_field 1 = .ok (.bipush 38, 2) := by decide +kernel
theorem dX12_field_3 : decode cX12_field 3 = .ok (.if_icmp .ne 179, 3) := by decide +kernel
theorem dX12_field_6 : decode cX12_field 6 = .ok (.iload_n 2, 1) := by decide +kernel
theorem dX12_field_7 : decode cX12_field 7 = .ok (.bipush 108, 2) := by decide +kernel
theorem dX12_field_9 : decode cX12_field 9 = .ok (.if_icmp .ne 11, 3) := by decide +kernel
theorem dX12_field_12 : decode cX12_field 12 = .ok (.aload_n 0, 1) := by decide +kernel
theorem dX12_field_13 : decode cX12_field 13 = .ok (.iload_n 3, 1) := by decide +kernel
theorem dX12_field_14 : decode cX12_field 14 = .ok (.invokevirtual 396, 3) := by decide +kernel
theorem dX12_field_17 : decode cX12_field 17 = .ok (.goto 361, 3) := by decide +kernel
theorem dX12_field_20 : decode cX12_field 20 = .ok (.iload_n 2, 1) := by decide +kernel
theorem dX12_field_21 : decode cX12_field 21 = .ok (.bipush 97, 2) := by decide +kernel
theorem dX12_field_23 : decode cX12_field 23 = .ok (.if_icmp .ne 11, 3) := by decide +kernel
theorem dX12_field_26 : decode cX12_field 26 = .ok (.aload_n 0, 1) := by decide +kernel
theorem dX12_field_27 : decode cX12_field 27 = .ok (.iload_n 3, 1) := by decide +kernel
theorem dX12_field_28 : decode cX12_field 28 = .ok (.invokevirtual 399, 3) := by decide +kernel
theorem dX12_field_31 : decode cX12_field 31 = .ok (.goto 347, 3) := by decide +kernel
theorem dX12_field_34 : decode cX12_field 34 = .ok (.iload_n 2, 1) := by decide +kernel
theorem dX12_field_35 : decode cX12_field 35 = .ok (.bipush 107, 2) := by decide +kernel
theorem dX12_field_37 : decode cX12_field 37 = .ok (.if_icmp .ne 88, 3) := by decide +kernel
theorem dX12_field_40 : decode cX12_field 40 = .ok (.iload_n 3, 1) := by decide +kernel
theorem dX12_field_41 : decode cX12_field 41 = .ok (.bipush 72, 2) := by decide +kernel
theorem dX12_field_43 : decode cX12_field 43 = .ok (.if_icmp .ne 47, 3) := by decide +kernel
theorem dX12_field_46 : decode cX12_field 46 = .ok (.aload_n 0, 1) := by decide +kernel
theorem dX12_field_47 : decode cX12_field 47 = .ok (.ldc2_w 402, 3) := by decide +kernel
theorem dX12_field_50 : decode cX12_field 50 = .ok (.invokevirtual 404, 3) := by decide +kernel
theorem dX12_field_53 : decode cX12_field 53 = .ok (.lconst 0, 1) := by decide +kernel
theorem dX12_field_54 : decode cX12_field 54 = .ok (.lcmp, 1) := by decide +kernel
theorem dX12_field_55 : decode cX12_field 55 = .ok (.ifCond .lt 35, 3) := by decide +kernel
theorem dX12_field_58 : decode cX12_field 58 = .ok (.aload_n 0, 1) := by decide +kernel
theorem dX12_field_59 : decode cX12_field 59 = .ok (.ldc2_w 402, 3) := by decide +kernel
theorem dX12_field_62 : decode cX12_field 62 = .ok (.invokevirtual 404, 3) := by decide +kernel
theorem dX12_field_65 : decode cX12_field 65 = .ok (.ldc2_w 408, 3) := by decide +kernel
theorem dX12_field_68 : decode cX12_field 68 = .ok (.lcmp, 1) := by decide +kernel
theorem dX12_field_69 : decode cX12_field 69 = .ok (.ifCond .gt 21, 3) := by decide +kernel
theorem dX12_field_72 : decode cX12_field 72 = .ok (.aload_n 0, 1) := by decide +kernel
theorem dX12_field_73 : decode cX12_field 73 = .ok (.getfield 9, 3) := by decide +kernel
theorem dX12_field_76 : decode cX12_field 76 = .ok (.bipush 7, 2) := by decide +kernel
theorem dX12_field_78 : decode cX12_field 78 = .ok (.aload_n 0, 1) := by decide +kernel
theorem dX12_field_79 : decode cX12_field 79 = .ok (.ldc2_w 402, 3) := by decide +kernel
theorem dX12_field_82 : decode cX12_field 82 = .ok (.invokevirtual 404, 3) := by decide +kernel
theorem dX12_field_85 : decode cX12_field 85 = .ok (.l2i, 1) := by decide +kernel
theorem dX12_field_86 : decode cX12_field 86 = .ok (.iastore, 1) := by decide +kernel
theorem dX12_field_87 : decode cX12_field 87 = .ok (.goto 291, 3) := by decide +kernel
theorem dX12_field_90 : decode cX12_field 90 = .ok (.iload_n 3, 1) := by decide +kernel
theorem dX12_field_91 : decode cX12_field 91 = .ok (.bipush 71, 2) := by decide +kernel
theorem dX12_field_93 : decode cX12_field 93 = .ok (.if_icmp .ne 285, 3) := by decide +kernel
theorem dX12_field_96 : decode cX12_field 96 = .ok (.aload_n 0, 1) := by decide +kernel
theorem dX12_field_97 : decode cX12_field 97 = .ok (.getfield 379, 3) := by decide +kernel
theorem dX12_field_100 : decode cX12_field 100 = .ok (.ifCond .lt 278, 3) := by decide +kernel
theorem dX12_field_103 : decode cX12_field 103 = .ok (.aload_n 0, 1) := by decide +kernel
theorem dX12_field_104 : decode cX12_field 104 = .ok (.getfield 379, 3) := by decide +kernel
theorem dX12_field_107 : decode cX12_field 107 = .ok (.iconst 3, 1) := by decide +kernel
theorem dX12_field_108 : decode cX12_field 108 = .ok (.if_icmp .gt 270, 3) := by decide +kernel
theorem dX12_field_111 : decode cX12_field 111 = .ok (.aload_n 0, 1) := by decide +kernel
theorem dX12_field_112 : decode cX12_field 112 = .ok (.getfield 9, 3) := by decide +kernel
theorem dX12_field_115 : decode cX12_field 115 = .ok (.bipush 10, 2) := by decide +kernel
theorem dX12_field_117 : decode cX12_field 117 = .ok (.aload_n 0, 1) := by decide +kernel
theorem dX12_field_118 : decode cX12_field 118 = .ok (.getfield 379, 3) := by decide +kernel
theorem dX12_field_121 : decode cX12_field 121 = .ok (.iastore, 1) := by decide +kernel
theorem dX12_field_122 : decode cX12_field 122 = .ok (.goto 256, 3) := by decide +kernel
theorem dX12_field_125 : decode cX12_field 125 = .ok (.iload_n 2, 1) := by decide +kernel
theorem dX12_field_126 : decode cX12_field 126 = .ok (.bipush 115, 2) := by decide +kernel
theorem dX12_field_128 : decode cX12_field 128 = .ok (.if_icmp .ne 40, 3) := by decide +kernel
theorem dX12_field_131 : decode cX12_field 131 = .ok (.iload_n 3, 1) := by decide +kernel
theorem dX12_field_132 : decode cX12_field 132 = .ok (.bipush 67, 2) := by decide +kernel
theorem dX12_field_134 : decode cX12_field 134 = .ok (.if_icmp .ne 244, 3) := by decide +kernel
theorem dX12_field_137 : decode cX12_field 137 = .ok (.aload_n 0, 1) := by decide +kernel
theorem dX12_field_138 : decode cX12_field 138 = .ok (.getfield 379, 3) := by decide +kernel
theorem dX12_field_141 : decode cX12_field 141 = .ok (.ifCond .eq 11, 3) := by decide +kernel
theorem dX12_field_144 : decode cX12_field 144 = .ok (.aload_n 0, 1) := by decide +kernel
theorem dX12_field_145 : decode cX12_field 145 = .ok (.getfield 379, 3) := by decide +kernel
theorem dX12_field_148 : decode cX12_field 148 = .ok (.iconst 1, 1) := by decide +kernel
theorem dX12_field_149 : decode cX12_field 149 = .ok (.if_icmp .ne 229, 3) := by decide +kernel
theorem dX12_field_152 : decode cX12_field 152 = .ok (.aload_n 0, 1) := by decide +kernel
theorem dX12_field_153 : decode cX12_field 153 = .ok (.getfield 9, 3) := by decide +kernel
theorem dX12_field_156 : decode cX12_field 156 = .ok (.bipush 11, 2) := by decide +kernel
theorem dX12_field_158 : decode cX12_field 158 = .ok (.iconst 1, 1) := by decide +kernel
theorem dX12_field_159 : decode cX12_field 159 = .ok (.aload_n 0, 1) := by decide +kernel
theorem dX12_field_160 : decode cX12_field 160 = .ok (.getfield 379, 3) := by decide +kernel
theorem dX12_field_163 : decode cX12_field 163 = .ok (.isub, 1) := by decide +kernel
theorem dX12_field_164 : decode cX12_field 164 = .ok (.iastore, 1) := by decide +kernel
theorem dX12_field_165 : decode cX12_field 165 = .ok (.goto 213, 3) := by decide +kernel
theorem dX12_field_168 : decode cX12_field 168 = .ok (.iload_n 2, 1) := by decide +kernel
theorem dX12_field_169 : decode cX12_field 169 = .ok (.bipush 102, 2) := by decide +kernel
theorem dX12_field_171 : decode cX12_field 171 = .ok (.if_icmp .ne 207, 3) := by decide +kernel
theorem dX12_field_174 : decode cX12_field 174 = .ok (.aload_n 0, 1) := by decide +kernel
theorem dX12_field_175 : decode cX12_field 175 = .ok (.iload_n 3, 1) := by decide +kernel
theorem dX12_field_176 : decode cX12_field 176 = .ok (.invokevirtual 410, 3) := by decide +kernel
theorem dX12_field_179 : decode cX12_field 179 = .ok (.goto 199, 3) := by decide +kernel
theorem dX12_field_182 : decode cX12_field 182 = .ok (.iload_n 1, 1) := by decide +kernel
theorem dX12_field_183 : decode cX12_field 183 = .ok (.bipush 42, 2) := by decide +kernel
theorem dX12_field_185 : decode cX12_field 185 = .ok (.if_icmp .ne 164, 3) := by decide +kernel
theorem dX12_field_188 : decode cX12_field 188 = .ok (.iload_n 2, 1) := by decide +kernel
theorem dX12_field_189 : decode cX12_field 189 = .ok (.bipush 112, 2) := by decide +kernel
theorem dX12_field_191 : decode cX12_field 191 = .ok (.if_icmp .ne 11, 3) := by decide +kernel
theorem dX12_field_194 : decode cX12_field 194 = .ok (.aload_n 0, 1) := by decide +kernel
theorem dX12_field_195 : decode cX12_field 195 = .ok (.iload_n 3, 1) := by decide +kernel
theorem dX12_field_196 : decode cX12_field 196 = .ok (.invokevirtual 413, 3) := by decide +kernel
theorem dX12_field_199 : decode cX12_field 199 = .ok (.goto 179, 3) := by decide +kernel
theorem dX12_field_202 : decode cX12_field 202 = .ok (.iload_n 2, 1) := by decide +kernel
theorem dX12_field_203 : decode cX12_field 203 = .ok (.bipush 118, 2) := by decide +kernel
theorem dX12_field_205 : decode cX12_field 205 = .ok (.if_icmp .ne 11, 3) := by decide +kernel
theorem dX12_field_208 : decode cX12_field 208 = .ok (.aload_n 0, 1) := by decide +kernel
theorem dX12_field_209 : decode cX12_field 209 = .ok (.iload_n 3, 1) := by decide +kernel
theorem dX12_field_210 : decode cX12_field 210 = .ok (.invokevirtual 416, 3) := by decide +kernel
theorem dX12_field_213 : decode cX12_field 213 = .ok (.goto 165, 3) := by decide +kernel
theorem dX12_field_216 : decode cX12_field 216 = .ok (.iload_n 2, 1) := by decide +kernel
theorem dX12_field_217 : decode cX12_field 217 = .ok (.bipush 99, 2) := by decide +kernel
theorem dX12_field_219 : decode cX12_field 219 = .ok (.if_icmp .ne 11, 3) := by decide +kernel
theorem dX12_field_222 : decode cX12_field 222 = .ok (.aload_n 0, 1) := by decide +kernel
theorem dX12_field_223 : decode cX12_field 223 = .ok (.iload_n 3, 1) := by decide +kernel
theorem dX12_field_224 : decode cX12_field 224 = .ok (.invokevirtual 419, 3) := by decide +kernel
theorem dX12_field_227 : decode cX12_field 227 = .ok (.goto 151, 3) := by decide +kernel
theorem dX12_field_230 : decode cX12_field 230 = .ok (.iload_n 2, 1) := by decide +kernel
theorem dX12_field_231 : decode cX12_field 231 = .ok (.bipush 116, 2) := by decide +kernel
theorem dX12_field_233 : decode cX12_field 233 = .ok (.if_icmp .ne 88, 3) := by decide +kernel
theorem dX12_field_236 : decode cX12_field 236 = .ok (.iload_n 3, 1) := by decide +kernel
theorem dX12_field_237 : decode cX12_field 237 = .ok (.bipush 82, 2) := by decide +kernel
theorem dX12_field_239 : decode cX12_field 239 = .ok (.if_icmp .ne 139, 3) := by decide +kernel
theorem dX12_field_242 : decode cX12_field 242 = .ok (.aload_n 0, 1) := by decide +kernel
theorem dX12_field_243 : decode cX12_field 243 = .ok (.getfield 9, 3) := by decide +kernel
theorem dX12_field_246 : decode cX12_field 246 = .ok (.bipush 57, 2) := by decide +kernel
theorem dX12_field_248 : decode cX12_field 248 = .ok (.iaload, 1) := by decide +kernel
theorem dX12_field_249 : decode cX12_field 249 = .ok (.ifCond .ne 129, 3) := by decide +kernel
theorem dX12_field_252 : decode cX12_field 252 = .ok (.aload_n 0, 1) := by decide +kernel
theorem dX12_field_253 : decode cX12_field 253 = .ok (.getfield 9, 3) := by decide +kernel
theorem dX12_field_256 : decode cX12_field 256 = .ok (.bipush 53, 2) := by decide +kernel
theorem dX12_field_258 : decode cX12_field 258 = .ok (.aload_n 0, 1) := by decide +kernel
theorem dX12_field_259 : decode cX12_field 259 = .ok (.getfield 379, 3) := by decide +kernel
theorem dX12_field_262 : decode cX12_field 262 = .ok (.bipush 75, 2) := by decide +kernel
theorem dX12_field_264 : decode cX12_field 264 = .ok (.if_icmp .ne 7, 3) := by decide +kernel
theorem dX12_field_267 : decode cX12_field 267 = .ok (.iconst 1, 1) := by decide +kernel
theorem dX12_field_268 : decode cX12_field 268 = .ok (.goto 49, 3) := by decide +kernel
theorem dX12_field_271 : decode cX12_field 271 = .ok (.aload_n 0, 1) := by decide +kernel
theorem dX12_field_272 : decode cX12_field 272 = .ok (.getfield 379, 3) := by decide +kernel
theorem dX12_field_275 : decode cX12_field 275 = .ok (.bipush 37, 2) := by decide +kernel
theorem dX12_field_277 : decode cX12_field 277 = .ok (.if_icmp .ne 7, 3) := by decide +kernel
theorem dX12_field_280 : decode cX12_field 280 = .ok (.iconst 2, 1) := by decide +kernel
theorem dX12_field_281 : decode cX12_field 281 = .ok (.goto 36, 3) := by decide +kernel
theorem dX12_field_284 : decode cX12_field 284 = .ok (.aload_n 0, 1) := by decide +kernel
theorem dX12_field_285 : decode cX12_field 285 = .ok (.getfield 379, 3) := by decide +kernel
theorem dX12_field_288 : decode cX12_field 288 = .ok (.bipush 25, 2) := by decide +kernel
theorem dX12_field_290 : decode cX12_field 290 = .ok (.if_icmp .ne 7, 3) := by decide +kernel
theorem dX12_field_293 : decode cX12_field 293 = .ok (.iconst 3, 1) := by decide +kernel
theorem dX12_field_294 : decode cX12_field 294 = .ok (.goto 23, 3) := by decide +kernel
theorem dX12_field_297 : decode cX12_field 297 = .ok (.aload_n 0, 1) := by decide +kernel
theorem dX12_field_298 : decode cX12_field 298 = .ok (.getfield 379, 3) := by decide +kernel
theorem dX12_field_301 : decode cX12_field 301 = .ok (.bipush 18, 2) := by decide +kernel
theorem dX12_field_303 : decode cX12_field 303 = .ok (.if_icmp .ne 7, 3) := by decide +kernel
theorem dX12_field_306 : decode cX12_field 306 = .ok (.iconst 4, 1) := by decide +kernel
theorem dX12_field_307 : decode cX12_field 307 = .ok (.goto 10, 3) := by decide +kernel
theorem dX12_field_310 : decode cX12_field 310 = .ok (.aload_n 0, 1) := by decide +kernel
theorem dX12_field_311 : decode cX12_field 311 = .ok (.getfield 9, 3) := by decide +kernel
theorem dX12_field_314 : decode cX12_field 314 = .ok (.bipush 53, 2) := by decide +kernel
theorem dX12_field_316 : decode cX12_field 316 = .ok (.iaload, 1) := by decide +kernel
theorem dX12_field_317 : decode cX12_field 317 = .ok (.iastore, 1) := by decide +kernel
theorem dX12_field_318 : decode cX12_field 318 = .ok (.goto 60, 3) := by decide +kernel
theorem dX12_field_321 : decode cX12_field 321 = .ok (.iload_n 2, 1) := by decide +kernel
theorem dX12_field_322 : decode cX12_field 322 = .ok (.bipush 114, 2) := by decide +kernel
theorem dX12_field_324 : decode cX12_field 324 = .ok (.if_icmp .ne 11, 3) := by decide +kernel
theorem dX12_field_327 : decode cX12_field 327 = .ok (.aload_n 0, 1) := by decide +kernel
theorem dX12_field_328 : decode cX12_field 328 = .ok (.iload_n 3, 1) := by decide +kernel
theorem dX12_field_329 : decode cX12_field 329 = .ok (.invokevirtual 422, 3) := by decide +kernel
theorem dX12_field_332 : decode cX12_field 332 = .ok (.goto 46, 3) := by decide +kernel
theorem dX12_field_335 : decode cX12_field 335 = .ok (.iload_n 2, 1) := by decide +kernel
theorem dX12_field_336 : decode cX12_field 336 = .ok (.bipush 98, 2) := by decide +kernel
theorem dX12_field_338 : decode cX12_field 338 = .ok (.if_icmp .ne 40, 3) := by decide +kernel
theorem dX12_field_341 : decode cX12_field 341 = .ok (.aload_n 0, 1) := by decide +kernel
theorem dX12_field_342 : decode cX12_field 342 = .ok (.iload_n 3, 1) := by decide +kernel
theorem dX12_field_343 : decode cX12_field 343 = .ok (.invokevirtual 425, 3) := by decide +kernel
theorem dX12_field_346 : decode cX12_field 346 = .ok (.goto 32, 3) := by decide +kernel
theorem dX12_field_349 : decode cX12_field 349 = .ok (.iload_n 1, 1) := by decide +kernel
theorem dX12_field_350 : decode cX12_field 350 = .ok (.bipush 40, 2) := by decide +kernel
theorem dX12_field_352 : decode cX12_field 352 = .ok (.if_icmp .eq 9, 3) := by decide +kernel
theorem dX12_field_355 : decode cX12_field 355 = .ok (.iload_n 1, 1) := by decide +kernel
theorem dX12_field_356 : decode cX12_field 356 = .ok (.bipush 41, 2) := by decide +kernel
theorem dX12_field_358 : decode cX12_field 358 = .ok (.if_icmp .ne 20, 3) := by decide +kernel
theorem dX12_field_361 : decode cX12_field 361 = .ok (.aload_n 0, 1) := by decide +kernel
theorem dX12_field_362 : decode cX12_field 362 = .ok (.iload_n 1, 1) := by decide +kernel
theorem dX12_field_363 : decode cX12_field 363 = .ok (.bipush 41, 2) := by decide +kernel
theorem dX12_field_365 : decode cX12_field 365 = .ok (.if_icmp .ne 7, 3) := by decide +kernel
theorem dX12_field_368 : decode cX12_field 368 = .ok (.iconst 1, 1) := by decide +kernel
theorem dX12_field_369 : decode cX12_field 369 = .ok (.goto 4, 3) := by decide +kernel
theorem dX12_field_372 : decode cX12_field 372 = .ok (.iconst 0, 1) := by decide +kernel
theorem dX12_field_373 : decode cX12_field 373 = .ok (.iload_n 2, 1) := by decide +kernel
theorem dX12_field_374 : decode cX12_field 374 = .ok (.iload_n 3, 1) := by decide +kernel
theorem dX12_field_375 : decode cX12_field 375 = .ok (.invokevirtual 428, 3) := by decide +kernel
theorem dX12_field_378 : decode cX12_field 378 = .ok (.return_, 1) := by decide +kernel
noncomputable def f_X12_field_361 (G : Int32 → Mm → Option (Unit × Mm)) (a1 : Int32) (a2 : Int32) (a3 : Int32) (T : Mm) : Option (Unit × Mm) :=
  if a1 = 41 then (bd (f_X12_fontField 1 a2 a3 T) fun _ T2 =>
  some ((), T2))
  else (bd (f_X12_fontField 0 a2 a3 T) fun _ T1 =>
  some ((), T1))
set_option maxRecDepth 100000 in
set_option maxHeartbeats 4000000 in
theorem s_X12_field_361 {x : JX} {ad : Nat → Nat} {U : Mm} {S0 : Hp} {q : Unit × Mm} {D : Nat} {G : Int32 → Mm → Option (Unit × Mm)}  (hn9 : x_n x = 4) (C : CB x RX12 cX12_field) (M : CMr x (D + 4) none S0 ad false U eV q) (hD : 40 ≤ D) (hG : ∀ (i : Int32) (T : Mm) (q : Unit × Mm), G i T = some q → Cr D yX12_through cX12_through 8 none [.ref (ad 133), .int i] ad false U T eV q) (a1 : Int32) (a2 : Int32) (a3 : Int32) (T : Mm) (h : f_X12_field_361 G  a1 a2 a3 T = some q) : Jr x ad false U T [(0, .ref (ad 133)), (1, .int a1), (2, .int a2), (3, .int a3)] 361 [] := by
  unfold f_X12_field_361 at h
  refine r_aload_n C dX12_field_361 rfl 0 rfl ?_
  refine r_iload_n C dX12_field_362 rfl 1 rfl ?_
  refine r_bipush (v := 41) C dX12_field_363 (by decide) ?_
  refine r_ic_ne (tgt := 372) C dX12_field_365 (by decide) h (fun h => ?_) (fun h => ?_)
  · refine r_iconst (v := 0) C dX12_field_372 (by decide) ?_
    refine r_iload_n C dX12_field_373 rfl 2 rfl ?_
    refine r_iload_n C dX12_field_374 rfl 3 rfl ?_
    refine r_callVN C M h [.int 0, .int a2, .int a3] [] mlX12_428 mcX12_fontField (fun q9 e9 => s_X12_fontField 0 a2 a3  e9) kq_133 rfl (by omega) (by decide) rfl rfl (Nat.le_of_ble_eq_true rfl) dX12_field_375 (fun _ T1 h => ?_)
    exact r_vret C M dX12_field_378 h
  · refine r_iconst (v := 1) C dX12_field_368 (by decide) ?_
    refine r_goto (tgt := 373) C dX12_field_369 (by decide) ?_
    refine r_iload_n C dX12_field_373 rfl 2 rfl ?_
    refine r_iload_n C dX12_field_374 rfl 3 rfl ?_
    refine r_callVN C M h [.int 1, .int a2, .int a3] [] mlX12_428 mcX12_fontField (fun q9 e9 => s_X12_fontField 1 a2 a3  e9) kq_133 rfl (by omega) (by decide) rfl rfl (Nat.le_of_ble_eq_true rfl) dX12_field_375 (fun _ T2 h => ?_)
    show Jr _ _ _ _ _ _ 378 _
    exact r_vret C M dX12_field_378 h
noncomputable def f_X12_field_152 (G : Int32 → Mm → Option (Unit × Mm)) (T : Mm) : Option (Unit × Mm) :=
  lb (uA T 134 11 (((1 : Int32) - (gI T 1251 133)))) fun T1 =>
  some ((), T1)
set_option maxRecDepth 100000 in
set_option maxHeartbeats 4000000 in
theorem s_X12_field_152 {x : JX} {ad : Nat → Nat} {U : Mm} {S0 : Hp} {q : Unit × Mm} {D : Nat} {G : Int32 → Mm → Option (Unit × Mm)}  (hn9 : x_n x = 4) (C : CB x RX12 cX12_field) (M : CMr x (D + 4) none S0 ad false U eV q) (hD : 40 ≤ D) (hG : ∀ (i : Int32) (T : Mm) (q : Unit × Mm), G i T = some q → Cr D yX12_through cX12_through 8 none [.ref (ad 133), .int i] ad false U T eV q) (T : Mm) (h : f_X12_field_152 G   T = some q) : Jr x ad false U T [(0, .ref (ad 133))] 152 [] := by
  unfold f_X12_field_152 at h
  refine r_aload_n C dX12_field_152 rfl 0 rfl ?_
  refine r_getp (f := 1200) (j := 134) C flX12_9 dX12_field_153 kq_133 (by decide) rfl (fun W => pt_1200 kq_133 W) ?_
  refine r_bipush (v := 11) C dX12_field_156 (by decide) ?_
  refine r_iconst (v := 1) C dX12_field_158 (by decide) ?_
  refine r_aload_n C dX12_field_159 rfl 0 rfl ?_
  show Jr _ _ _ _ _ _ 160 _
  refine r_geti (f := 1251) C flX12_379 dX12_field_160 kq_133 (by decide) (by decide) rfl ?_
  refine r_isub C dX12_field_163 rfl ?_
  refine r_iastc (n := 192) C 11 dX12_field_164 kq_134 lq_134 (vp_lit (by decide)) (by decide) h (fun T1 h => ?_)
  refine r_goto (tgt := 378) C dX12_field_165 (by decide) ?_
  exact r_vret C M dX12_field_378 h
noncomputable def f_X12_field_90 (G : Int32 → Mm → Option (Unit × Mm)) (a3 : Int32) (T : Mm) : Option (Unit × Mm) :=
  if a3 = 71 then (if (gI T 1251 133) < 0 then (some ((), T))
  else (if 3 < (gI T 1251 133) then (some ((), T))
  else (lb (uA T 134 10 ((gI T 1251 133))) fun T1 =>
  some ((), T1))))
  else (some ((), T))
set_option maxRecDepth 100000 in
set_option maxHeartbeats 4000000 in
theorem s_X12_field_90 {x : JX} {ad : Nat → Nat} {U : Mm} {S0 : Hp} {q : Unit × Mm} {D : Nat} {G : Int32 → Mm → Option (Unit × Mm)}  (hn9 : x_n x = 4) (C : CB x RX12 cX12_field) (M : CMr x (D + 4) none S0 ad false U eV q) (hD : 40 ≤ D) (hG : ∀ (i : Int32) (T : Mm) (q : Unit × Mm), G i T = some q → Cr D yX12_through cX12_through 8 none [.ref (ad 133), .int i] ad false U T eV q) (a3 : Int32) (T : Mm) (h : f_X12_field_90 G  a3 T = some q) : Jr x ad false U T [(0, .ref (ad 133)), (3, .int a3)] 90 [] := by
  unfold f_X12_field_90 at h
  refine r_iload_n C dX12_field_90 rfl 1 rfl ?_
  refine r_bipush (v := 71) C dX12_field_91 (by decide) ?_
  refine r_ic_ne (tgt := 378) C dX12_field_93 (by decide) h (fun h => ?_) (fun h => ?_)
  · exact r_vret C M dX12_field_378 h
  · refine r_aload_n C dX12_field_96 rfl 0 rfl ?_
    refine r_geti (f := 1251) C flX12_379 dX12_field_97 kq_133 (by decide) (by decide) rfl ?_
    refine r_if_lt (tgt := 378) C dX12_field_100 (by decide) h (fun h => ?_) (fun h => ?_)
    · exact r_vret C M dX12_field_378 h
    · refine r_aload_n C dX12_field_103 rfl 0 rfl ?_
      refine r_geti (f := 1251) C flX12_379 dX12_field_104 kq_133 (by decide) (by decide) rfl ?_
      refine r_iconst (v := 3) C dX12_field_107 (by decide) ?_
      refine r_ic_gt (tgt := 378) C dX12_field_108 (by decide) h (fun h => ?_) (fun h => ?_)
      · exact r_vret C M dX12_field_378 h
      · refine r_aload_n C dX12_field_111 rfl 0 rfl ?_
        refine r_getp (f := 1200) (j := 134) C flX12_9 dX12_field_112 kq_133 (by decide) rfl (fun W => pt_1200 kq_133 W) ?_
        refine r_bipush (v := 10) C dX12_field_115 (by decide) ?_
        refine r_aload_n C dX12_field_117 rfl 0 rfl ?_
        refine r_geti (f := 1251) C flX12_379 dX12_field_118 kq_133 (by decide) (by decide) rfl ?_
        show Jr _ _ _ _ _ _ 121 _
        refine r_iastc (n := 192) C 10 dX12_field_121 kq_134 lq_134 (vp_lit (by decide)) (by decide) h (fun T1 h => ?_)
        refine r_goto (tgt := 378) C dX12_field_122 (by decide) ?_
        exact r_vret C M dX12_field_378 h
noncomputable def f_X12_field (G : Int32 → Mm → Option (Unit × Mm)) (p1 : Int32) (p2 : Int32) (p3 : Int32) (T : Mm) : Option (Unit × Mm) :=
  if p1 = 38 then (if p2 = 108 then (bd (f_X12_pageField G p3 T) fun _ T20 =>
  some ((), T20))
  else (if p2 = 97 then (bd (f_X12_placeField p3 T) fun _ T19 =>
  some ((), T19))
  else (if p2 = 107 then (if p3 = 72 then (bd (f_X12_units 60 T) fun v12 T13 =>
  if (lg_cmp v12 0) < 0 then (f_X12_field_90 G p3 T13)
  else (bd (f_X12_units 60 T13) fun v14 T15 =>
  if 0 < (lg_cmp v14 32000) then (f_X12_field_90 G p3 T15)
  else (bd (f_X12_units 60 T15) fun v16 T17 =>
  lb (uA T17 134 7 (((v16).toInt32))) fun T18 =>
  some ((), T18))))
  else (f_X12_field_90 G p3 T))
  else (if p2 = 115 then (if p3 = 67 then (if (gI T 1251 133) = 0 then (f_X12_field_152 G T)
  else (if (gI T 1251 133) = 1 then (f_X12_field_152 G T)
  else (some ((), T))))
  else (some ((), T)))
  else (if p2 = 102 then (bd (f_X12_macroField G p3 T) fun _ T11 =>
  some ((), T11))
  else (some ((), T)))))))
  else (if p1 = 42 then (if p2 = 112 then (bd (f_X12_dotField p3 T) fun _ T10 =>
  some ((), T10))
  else (if p2 = 118 then (bd (f_X12_modelField p3 T) fun _ T9 =>
  some ((), T9))
  else (if p2 = 99 then (bd (f_X12_thingField p3 T) fun _ T8 =>
  some ((), T8))
  else (if p2 = 116 then (if p3 = 82 then (if (gA T 134 57) = 0 then (if (gI T 1251 133) = 75 then (lb (uA T 134 53 (1)) fun T7 =>
  some ((), T7))
  else (if (gI T 1251 133) = 37 then (lb (uA T 134 53 (2)) fun T6 =>
  some ((), T6))
  else (if (gI T 1251 133) = 25 then (lb (uA T 134 53 (3)) fun T5 =>
  some ((), T5))
  else (if (gI T 1251 133) = 18 then (lb (uA T 134 53 (4)) fun T4 =>
  some ((), T4))
  else (lb (uA T 134 53 ((gA T 134 53))) fun T3 =>
  some ((), T3))))))
  else (some ((), T)))
  else (some ((), T)))
  else (if p2 = 114 then (bd (f_X12_rasterField p3 T) fun _ T2 =>
  some ((), T2))
  else (if p2 = 98 then (bd (f_X12_rowField p3 T) fun _ T1 =>
  some ((), T1))
  else (some ((), T))))))))
  else (if p1 = 40 then (f_X12_field_361 G p1 p2 p3 T)
  else (if p1 = 41 then (f_X12_field_361 G p1 p2 p3 T)
  else (some ((), T)))))
set_option maxRecDepth 100000 in
set_option maxHeartbeats 4000000 in
theorem s_X12_field {ad : Nat → Nat} {U T : Mm} {q : Unit × Mm} {D : Nat} {G : Int32 → Mm → Option (Unit × Mm)}  (hD : 40 ≤ D) (hG : ∀ (i : Int32) (T : Mm) (q : Unit × Mm), G i T = some q → Cr D yX12_through cX12_through 8 none [.ref (ad 133), .int i] ad false U T eV q) (p1 : Int32) (p2 : Int32) (p3 : Int32) (h : f_X12_field G p1 p2 p3 T = some q) : Cr (D + 4) yX12_field cX12_field 4 none [.ref (ad 133), .int p1, .int p2, .int p3] ad false U T eV q := by
  refine cr_of (by decide) (Nat.le_of_ble_eq_true rfl) fun x S0 hn9 C M => ?_
  have C : CB x RX12 cX12_field := C
  refine Jr.eq (lv' := [(0, .ref (ad 133)), (1, .int p1), (2, .int p2), (3, .int p3)]) (st' := []) rfl rfl ?_
  unfold f_X12_field at h
  refine r_iload_n C dX12_field_0 rfl 1 rfl ?_
  refine r_bipush (v := 38) C dX12_field_1 (by decide) ?_
  refine r_ic_ne (tgt := 182) C dX12_field_3 (by decide) h (fun h => ?_) (fun h => ?_)
  · refine r_iload_n C dX12_field_182 rfl 1 rfl ?_
    refine r_bipush (v := 42) C dX12_field_183 (by decide) ?_
    refine r_ic_ne (tgt := 349) C dX12_field_185 (by decide) h (fun h => ?_) (fun h => ?_)
    · refine r_iload_n C dX12_field_349 rfl 1 rfl ?_
      refine r_bipush (v := 40) C dX12_field_350 (by decide) ?_
      refine r_ic_eq (tgt := 361) C dX12_field_352 (by decide) h (fun h => ?_) (fun h => ?_)
      · exact s_X12_field_361 hn9 C M hD hG  p1 p2 p3 T h
      · refine r_iload_n C dX12_field_355 rfl 1 rfl ?_
        refine r_bipush (v := 41) C dX12_field_356 (by decide) ?_
        refine r_ic_ne (tgt := 378) C dX12_field_358 (by decide) h (fun h => ?_) (fun h => ?_)
        · exact r_vret C M dX12_field_378 h
        · exact s_X12_field_361 hn9 C M hD hG  p1 p2 p3 T h
    · refine r_iload_n C dX12_field_188 rfl 2 rfl ?_
      refine r_bipush (v := 112) C dX12_field_189 (by decide) ?_
      refine r_ic_ne (tgt := 202) C dX12_field_191 (by decide) h (fun h => ?_) (fun h => ?_)
      · refine r_iload_n C dX12_field_202 rfl 2 rfl ?_
        refine r_bipush (v := 118) C dX12_field_203 (by decide) ?_
        refine r_ic_ne (tgt := 216) C dX12_field_205 (by decide) h (fun h => ?_) (fun h => ?_)
        · refine r_iload_n C dX12_field_216 rfl 2 rfl ?_
          refine r_bipush (v := 99) C dX12_field_217 (by decide) ?_
          refine r_ic_ne (tgt := 230) C dX12_field_219 (by decide) h (fun h => ?_) (fun h => ?_)
          · refine r_iload_n C dX12_field_230 rfl 2 rfl ?_
            refine r_bipush (v := 116) C dX12_field_231 (by decide) ?_
            refine r_ic_ne (tgt := 321) C dX12_field_233 (by decide) h (fun h => ?_) (fun h => ?_)
            · refine r_iload_n C dX12_field_321 rfl 2 rfl ?_
              refine r_bipush (v := 114) C dX12_field_322 (by decide) ?_
              refine r_ic_ne (tgt := 335) C dX12_field_324 (by decide) h (fun h => ?_) (fun h => ?_)
              · refine r_iload_n C dX12_field_335 rfl 2 rfl ?_
                refine r_bipush (v := 98) C dX12_field_336 (by decide) ?_
                refine r_ic_ne (tgt := 378) C dX12_field_338 (by decide) h (fun h => ?_) (fun h => ?_)
                · exact r_vret C M dX12_field_378 h
                · refine r_aload_n C dX12_field_341 rfl 0 rfl ?_
                  refine r_iload_n C dX12_field_342 rfl 3 rfl ?_
                  refine r_callVN C M h [.int p3] [] mlX12_425 mcX12_rowField (fun q9 e9 => s_X12_rowField p3  e9) kq_133 rfl (by omega) (by decide) rfl rfl (Nat.le_of_ble_eq_true rfl) dX12_field_343 (fun _ T1 h => ?_)
                  refine r_goto (tgt := 378) C dX12_field_346 (by decide) ?_
                  exact r_vret C M dX12_field_378 h
              · refine r_aload_n C dX12_field_327 rfl 0 rfl ?_
                refine r_iload_n C dX12_field_328 rfl 3 rfl ?_
                refine r_callVN C M h [.int p3] [] mlX12_422 mcX12_rasterField (fun q9 e9 => s_X12_rasterField p3  e9) kq_133 rfl (by omega) (by decide) rfl rfl (Nat.le_of_ble_eq_true rfl) dX12_field_329 (fun _ T2 h => ?_)
                refine r_goto (tgt := 378) C dX12_field_332 (by decide) ?_
                exact r_vret C M dX12_field_378 h
            · refine r_iload_n C dX12_field_236 rfl 3 rfl ?_
              refine r_bipush (v := 82) C dX12_field_237 (by decide) ?_
              refine r_ic_ne (tgt := 378) C dX12_field_239 (by decide) h (fun h => ?_) (fun h => ?_)
              · exact r_vret C M dX12_field_378 h
              · refine r_aload_n C dX12_field_242 rfl 0 rfl ?_
                refine r_getp (f := 1200) (j := 134) C flX12_9 dX12_field_243 kq_133 (by decide) rfl (fun W => pt_1200 kq_133 W) ?_
                refine r_bipush (v := 57) C dX12_field_246 (by decide) ?_
                refine r_ialdc (n := 192) C 57 dX12_field_248 kq_134 lq_134 (vp_lit (by decide)) (by decide) ?_
                refine r_if_ne (tgt := 378) C dX12_field_249 (by decide) h (fun h => ?_) (fun h => ?_)
                · exact r_vret C M dX12_field_378 h
                · refine r_aload_n C dX12_field_252 rfl 0 rfl ?_
                  refine r_getp (f := 1200) (j := 134) C flX12_9 dX12_field_253 kq_133 (by decide) rfl (fun W => pt_1200 kq_133 W) ?_
                  refine r_bipush (v := 53) C dX12_field_256 (by decide) ?_
                  refine r_aload_n C dX12_field_258 rfl 0 rfl ?_
                  refine r_geti (f := 1251) C flX12_379 dX12_field_259 kq_133 (by decide) (by decide) rfl ?_
                  show Jr _ _ _ _ _ _ 262 _
                  refine r_bipush (v := 75) C dX12_field_262 (by decide) ?_
                  refine r_ic_ne (tgt := 271) C dX12_field_264 (by decide) h (fun h => ?_) (fun h => ?_)
                  · refine r_aload_n C dX12_field_271 rfl 0 rfl ?_
                    refine r_geti (f := 1251) C flX12_379 dX12_field_272 kq_133 (by decide) (by decide) rfl ?_
                    refine r_bipush (v := 37) C dX12_field_275 (by decide) ?_
                    refine r_ic_ne (tgt := 284) C dX12_field_277 (by decide) h (fun h => ?_) (fun h => ?_)
                    · refine r_aload_n C dX12_field_284 rfl 0 rfl ?_
                      refine r_geti (f := 1251) C flX12_379 dX12_field_285 kq_133 (by decide) (by decide) rfl ?_
                      refine r_bipush (v := 25) C dX12_field_288 (by decide) ?_
                      refine r_ic_ne (tgt := 297) C dX12_field_290 (by decide) h (fun h => ?_) (fun h => ?_)
                      · refine r_aload_n C dX12_field_297 rfl 0 rfl ?_
                        refine r_geti (f := 1251) C flX12_379 dX12_field_298 kq_133 (by decide) (by decide) rfl ?_
                        refine r_bipush (v := 18) C dX12_field_301 (by decide) ?_
                        refine r_ic_ne (tgt := 310) C dX12_field_303 (by decide) h (fun h => ?_) (fun h => ?_)
                        · refine r_aload_n C dX12_field_310 rfl 0 rfl ?_
                          refine r_getp (f := 1200) (j := 134) C flX12_9 dX12_field_311 kq_133 (by decide) rfl (fun W => pt_1200 kq_133 W) ?_
                          refine r_bipush (v := 53) C dX12_field_314 (by decide) ?_
                          refine r_ialdc (n := 192) C 53 dX12_field_316 kq_134 lq_134 (vp_lit (by decide)) (by decide) ?_
                          refine r_iastc (n := 192) C 53 dX12_field_317 kq_134 lq_134 (vp_lit (by decide)) (by decide) h (fun T3 h => ?_)
                          show Jr _ _ _ _ _ _ 318 _
                          refine r_goto (tgt := 378) C dX12_field_318 (by decide) ?_
                          exact r_vret C M dX12_field_378 h
                        · refine r_iconst (v := 4) C dX12_field_306 (by decide) ?_
                          refine r_goto (tgt := 317) C dX12_field_307 (by decide) ?_
                          refine r_iastc (n := 192) C 53 dX12_field_317 kq_134 lq_134 (vp_lit (by decide)) (by decide) h (fun T4 h => ?_)
                          refine r_goto (tgt := 378) C dX12_field_318 (by decide) ?_
                          exact r_vret C M dX12_field_378 h
                      · refine r_iconst (v := 3) C dX12_field_293 (by decide) ?_
                        refine r_goto (tgt := 317) C dX12_field_294 (by decide) ?_
                        refine r_iastc (n := 192) C 53 dX12_field_317 kq_134 lq_134 (vp_lit (by decide)) (by decide) h (fun T5 h => ?_)
                        refine r_goto (tgt := 378) C dX12_field_318 (by decide) ?_
                        exact r_vret C M dX12_field_378 h
                    · refine r_iconst (v := 2) C dX12_field_280 (by decide) ?_
                      refine r_goto (tgt := 317) C dX12_field_281 (by decide) ?_
                      refine r_iastc (n := 192) C 53 dX12_field_317 kq_134 lq_134 (vp_lit (by decide)) (by decide) h (fun T6 h => ?_)
                      refine r_goto (tgt := 378) C dX12_field_318 (by decide) ?_
                      exact r_vret C M dX12_field_378 h
                  · refine r_iconst (v := 1) C dX12_field_267 (by decide) ?_
                    refine r_goto (tgt := 317) C dX12_field_268 (by decide) ?_
                    refine r_iastc (n := 192) C 53 dX12_field_317 kq_134 lq_134 (vp_lit (by decide)) (by decide) h (fun T7 h => ?_)
                    refine r_goto (tgt := 378) C dX12_field_318 (by decide) ?_
                    exact r_vret C M dX12_field_378 h
          · refine r_aload_n C dX12_field_222 rfl 0 rfl ?_
            refine r_iload_n C dX12_field_223 rfl 3 rfl ?_
            refine r_callVN C M h [.int p3] [] mlX12_419 mcX12_thingField (fun q9 e9 => s_X12_thingField p3  e9) kq_133 rfl (by omega) (by decide) rfl rfl (Nat.le_of_ble_eq_true rfl) dX12_field_224 (fun _ T8 h => ?_)
            refine r_goto (tgt := 378) C dX12_field_227 (by decide) ?_
            exact r_vret C M dX12_field_378 h
        · refine r_aload_n C dX12_field_208 rfl 0 rfl ?_
          refine r_iload_n C dX12_field_209 rfl 3 rfl ?_
          refine r_callVN C M h [.int p3] [] mlX12_416 mcX12_modelField (fun q9 e9 => s_X12_modelField p3  e9) kq_133 rfl (by omega) (by decide) rfl rfl (Nat.le_of_ble_eq_true rfl) dX12_field_210 (fun _ T9 h => ?_)
          refine r_goto (tgt := 378) C dX12_field_213 (by decide) ?_
          exact r_vret C M dX12_field_378 h
      · refine r_aload_n C dX12_field_194 rfl 0 rfl ?_
        refine r_iload_n C dX12_field_195 rfl 3 rfl ?_
        refine r_callVN C M h [.int p3] [] mlX12_413 mcX12_dotField (fun q9 e9 => s_X12_dotField p3  e9) kq_133 rfl (by omega) (by decide) rfl rfl (Nat.le_of_ble_eq_true rfl) dX12_field_196 (fun _ T10 h => ?_)
        refine r_goto (tgt := 378) C dX12_field_199 (by decide) ?_
        exact r_vret C M dX12_field_378 h
  · refine r_iload_n C dX12_field_6 rfl 2 rfl ?_
    refine r_bipush (v := 108) C dX12_field_7 (by decide) ?_
    refine r_ic_ne (tgt := 20) C dX12_field_9 (by decide) h (fun h => ?_) (fun h => ?_)
    · refine r_iload_n C dX12_field_20 rfl 2 rfl ?_
      refine r_bipush (v := 97) C dX12_field_21 (by decide) ?_
      refine r_ic_ne (tgt := 34) C dX12_field_23 (by decide) h (fun h => ?_) (fun h => ?_)
      · refine r_iload_n C dX12_field_34 rfl 2 rfl ?_
        refine r_bipush (v := 107) C dX12_field_35 (by decide) ?_
        refine r_ic_ne (tgt := 125) C dX12_field_37 (by decide) h (fun h => ?_) (fun h => ?_)
        · refine r_iload_n C dX12_field_125 rfl 2 rfl ?_
          refine r_bipush (v := 115) C dX12_field_126 (by decide) ?_
          refine r_ic_ne (tgt := 168) C dX12_field_128 (by decide) h (fun h => ?_) (fun h => ?_)
          · refine r_iload_n C dX12_field_168 rfl 2 rfl ?_
            refine r_bipush (v := 102) C dX12_field_169 (by decide) ?_
            refine r_ic_ne (tgt := 378) C dX12_field_171 (by decide) h (fun h => ?_) (fun h => ?_)
            · exact r_vret C M dX12_field_378 h
            · refine r_aload_n C dX12_field_174 rfl 0 rfl ?_
              refine r_iload_n C dX12_field_175 rfl 3 rfl ?_
              refine r_callVN C M h [.int p3] [] mlX12_410 mcX12_macroField (fun q9 e9 => s_X12_macroField hD (fun i9 T9 q9 e9 => hG i9 T9 q9 e9) p3  e9) kq_133 rfl (by omega) (by decide) rfl rfl (Nat.le_of_ble_eq_true rfl) dX12_field_176 (fun _ T11 h => ?_)
              refine r_goto (tgt := 378) C dX12_field_179 (by decide) ?_
              exact r_vret C M dX12_field_378 h
          · refine r_iload_n C dX12_field_131 rfl 3 rfl ?_
            refine r_bipush (v := 67) C dX12_field_132 (by decide) ?_
            refine r_ic_ne (tgt := 378) C dX12_field_134 (by decide) h (fun h => ?_) (fun h => ?_)
            · exact r_vret C M dX12_field_378 h
            · refine r_aload_n C dX12_field_137 rfl 0 rfl ?_
              refine r_geti (f := 1251) C flX12_379 dX12_field_138 kq_133 (by decide) (by decide) rfl ?_
              refine r_if_eq (tgt := 152) C dX12_field_141 (by decide) h (fun h => ?_) (fun h => ?_)
              · refine Jr.sub [0] (lv' := [(0, .ref (ad 133))]) rfl ?_
                exact s_X12_field_152 hn9 C M hD hG  T h
              · refine r_aload_n C dX12_field_144 rfl 0 rfl ?_
                refine r_geti (f := 1251) C flX12_379 dX12_field_145 kq_133 (by decide) (by decide) rfl ?_
                refine r_iconst (v := 1) C dX12_field_148 (by decide) ?_
                refine r_ic_ne (tgt := 378) C dX12_field_149 (by decide) h (fun h => ?_) (fun h => ?_)
                · exact r_vret C M dX12_field_378 h
                · refine Jr.sub [0] (lv' := [(0, .ref (ad 133))]) rfl ?_
                  exact s_X12_field_152 hn9 C M hD hG  T h
        · refine r_iload_n C dX12_field_40 rfl 3 rfl ?_
          refine r_bipush (v := 72) C dX12_field_41 (by decide) ?_
          refine r_ic_ne (tgt := 90) C dX12_field_43 (by decide) h (fun h => ?_) (fun h => ?_)
          · refine Jr.sub [0, 3] (lv' := [(0, .ref (ad 133)), (3, .int p3)]) rfl ?_
            exact s_X12_field_90 hn9 C M hD hG  p3 T h
          · refine r_aload_n C dX12_field_46 rfl 0 rfl ?_
            refine r_ldc2 (v := 60) C dX12_field_47 kcX12_402 ?_
            refine r_callVJ C M h [.long 60] [] mlX12_404 mcX12_units (fun q9 e9 => s_X12_units 60  e9) kq_133 rfl (by omega) (by decide) rfl rfl (Nat.le_of_ble_eq_true rfl) dX12_field_50 (fun v12 T13 h => ?_)
            refine r_lconst (v := 0) C dX12_field_53 (by decide) ?_
            refine r_lcmp C dX12_field_54 ?_
            show Jr _ _ _ _ _ _ 55 _
            refine r_if_lt (tgt := 90) C dX12_field_55 (by decide) h (fun h => ?_) (fun h => ?_)
            · refine Jr.sub [0, 3] (lv' := [(0, .ref (ad 133)), (3, .int p3)]) rfl ?_
              exact s_X12_field_90 hn9 C M hD hG  p3 T13 h
            · refine r_aload_n C dX12_field_58 rfl 0 rfl ?_
              refine r_ldc2 (v := 60) C dX12_field_59 kcX12_402 ?_
              refine r_callVJ C M h [.long 60] [] mlX12_404 mcX12_units (fun q9 e9 => s_X12_units 60  e9) kq_133 rfl (by omega) (by decide) rfl rfl (Nat.le_of_ble_eq_true rfl) dX12_field_62 (fun v14 T15 h => ?_)
              refine r_ldc2 (v := 32000) C dX12_field_65 kcX12_408 ?_
              refine r_lcmp C dX12_field_68 ?_
              show Jr _ _ _ _ _ _ 69 _
              refine r_if_gt (tgt := 90) C dX12_field_69 (by decide) h (fun h => ?_) (fun h => ?_)
              · refine Jr.sub [0, 3] (lv' := [(0, .ref (ad 133)), (3, .int p3)]) rfl ?_
                exact s_X12_field_90 hn9 C M hD hG  p3 T15 h
              · refine r_aload_n C dX12_field_72 rfl 0 rfl ?_
                refine r_getp (f := 1200) (j := 134) C flX12_9 dX12_field_73 kq_133 (by decide) rfl (fun W => pt_1200 kq_133 W) ?_
                refine r_bipush (v := 7) C dX12_field_76 (by decide) ?_
                refine r_aload_n C dX12_field_78 rfl 0 rfl ?_
                refine r_ldc2 (v := 60) C dX12_field_79 kcX12_402 ?_
                show Jr _ _ _ _ _ _ 82 _
                refine r_callVJ C M h [.long 60] [.int 7, .ref (ad 134)] mlX12_404 mcX12_units (fun q9 e9 => s_X12_units 60  e9) kq_133 rfl (by omega) (by decide) rfl rfl (Nat.le_of_ble_eq_true rfl) dX12_field_82 (fun v16 T17 h => ?_)
                refine r_l2i C dX12_field_85 rfl ?_
                refine r_iastc (n := 192) C 7 dX12_field_86 kq_134 lq_134 (vp_lit (by decide)) (by decide) h (fun T18 h => ?_)
                refine r_goto (tgt := 378) C dX12_field_87 (by decide) ?_
                exact r_vret C M dX12_field_378 h
      · refine r_aload_n C dX12_field_26 rfl 0 rfl ?_
        refine r_iload_n C dX12_field_27 rfl 3 rfl ?_
        refine r_callVN C M h [.int p3] [] mlX12_399 mcX12_placeField (fun q9 e9 => s_X12_placeField p3  e9) kq_133 rfl (by omega) (by decide) rfl rfl (Nat.le_of_ble_eq_true rfl) dX12_field_28 (fun _ T19 h => ?_)
        refine r_goto (tgt := 378) C dX12_field_31 (by decide) ?_
        exact r_vret C M dX12_field_378 h
    · refine r_aload_n C dX12_field_12 rfl 0 rfl ?_
      refine r_iload_n C dX12_field_13 rfl 3 rfl ?_
      refine r_callVN C M h [.int p3] [] mlX12_396 mcX12_pageField (fun q9 e9 => s_X12_pageField hD (fun i9 T9 q9 e9 => hG i9 T9 q9 e9) p3  e9) kq_133 rfl (by omega) (by decide) rfl rfl (Nat.le_of_ble_eq_true rfl) dX12_field_14 (fun _ T20 h => ?_)
      refine r_goto (tgt := 378) C dX12_field_17 (by decide) ?_
      exact r_vret C M dX12_field_378 h
theorem dX12_escape_0 : decode cX12_escape 0 = .ok (.aload_n 0, 1) := by decide +kernel
theorem dX12_escape_1 : decode cX12_escape 1 = .ok (.invokevirtual 358, 3) := by decide +kernel
theorem dX12_escape_4 : decode cX12_escape 4 = .ok (.istore_n 1, 1) := by decide +kernel
theorem dX12_escape_5 : decode cX12_escape 5 = .ok (.iload_n 1, 1) := by decide +kernel
theorem dX12_escape_6 : decode cX12_escape 6 = .ok (.bipush 48, 2) := by decide +kernel
theorem dX12_escape_8 : decode cX12_escape 8 = .ok (.if_icmp .lt 27, 3) := by decide +kernel
theorem dX12_escape_11 : decode cX12_escape 11 = .ok (.iload_n 1, 1) := by decide +kernel
theorem dX12_escape_12 : decode cX12_escape 12 = .ok (.bipush 126, 2) := by decide +kernel
theorem dX12_escape_14 : decode cX12_escape 14 = .ok (.if_icmp .gt 21, 3) := by decide +kernel
theorem dX12_escape_17 : decode cX12_escape 17 = .ok (.aload_n 0, 1) := by decide +kernel
theorem dX12_escape_18 : decode cX12_escape 18 = .ok (.invokevirtual 289, 3) := by decide +kernel
theorem dX12_escape_21 : decode cX12_escape 21 = .ok (.istore_n 2, 1) := by decide +kernel
theorem dX12_escape_22 : decode cX12_escape 22 = .ok (.aload_n 0, 1) := by decide +kernel
theorem dX12_escape_23 : decode cX12_escape 23 = .ok (.getfield 191, 3) := by decide +kernel
theorem dX12_escape_26 : decode cX12_escape 26 = .ok (.ifCond .ne 8, 3) := by decide +kernel
theorem dX12_escape_29 : decode cX12_escape 29 = .ok (.aload_n 0, 1) := by decide +kernel
theorem dX12_escape_30 : decode cX12_escape 30 = .ok (.iload_n 2, 1) := by decide +kernel
theorem dX12_escape_31 : decode cX12_escape 31 = .ok (.invokevirtual 361, 3) := by decide +kernel
theorem dX12_escape_34 : decode cX12_escape 34 = .ok (.return_, 1) := by decide +kernel
theorem dX12_escape_35 : decode cX12_escape 35 = .ok (.iload_n 1, 1) := by decide +kernel
theorem dX12_escape_36 : decode cX12_escape 36 = .ok (.bipush 33, 2) := by decide +kernel
theorem dX12_escape_38 : decode cX12_escape 38 = .ok (.if_icmp .lt 9, 3) := by decide +kernel
theorem dX12_escape_41 : decode cX12_escape 41 = .ok (.iload_n 1, 1) := by decide +kernel
theorem dX12_escape_42 : decode cX12_escape 42 = .ok (.bipush 47, 2) := by decide +kernel
theorem dX12_escape_44 : decode cX12_escape 44 = .ok (.if_icmp .le 4, 3) := by decide +kernel
theorem dX12_escape_47 : decode cX12_escape 47 = .ok (.return_, 1) := by decide +kernel
theorem dX12_escape_48 : decode cX12_escape 48 = .ok (.aload_n 0, 1) := by decide +kernel
theorem dX12_escape_49 : decode cX12_escape 49 = .ok (.invokevirtual 289, 3) := by decide +kernel
theorem dX12_escape_52 : decode cX12_escape 52 = .ok (.istore_n 2, 1) := by decide +kernel
theorem dX12_escape_53 : decode cX12_escape 53 = .ok (.iconst 0, 1) := by decide +kernel
theorem dX12_escape_54 : decode cX12_escape 54 = .ok (.istore_n 3, 1) := by decide +kernel
theorem dX12_escape_55 : decode cX12_escape 55 = .ok (.aload_n 0, 1) := by decide +kernel
theorem dX12_escape_56 : decode cX12_escape 56 = .ok (.invokevirtual 358, 3) := by decide +kernel
theorem dX12_escape_59 : decode cX12_escape 59 = .ok (.bipush 96, 2) := by decide +kernel
theorem dX12_escape_61 : decode cX12_escape 61 = .ok (.if_icmp .lt 24, 3) := by decide +kernel
theorem dX12_escape_64 : decode cX12_escape 64 = .ok (.aload_n 0, 1) := by decide +kernel
theorem dX12_escape_65 : decode cX12_escape 65 = .ok (.invokevirtual 358, 3) := by decide +kernel
theorem dX12_escape_68 : decode cX12_escape 68 = .ok (.bipush 126, 2) := by decide +kernel
theorem dX12_escape_70 : decode cX12_escape 70 = .ok (.if_icmp .gt 15, 3) := by decide +kernel
theorem dX12_escape_73 : decode cX12_escape 73 = .ok (.aload_n 0, 1) := by decide +kernel
theorem dX12_escape_74 : decode cX12_escape 74 = .ok (.getfield 191, 3) := by decide +kernel
theorem dX12_escape_77 : decode cX12_escape 77 = .ok (.ifCond .ne 8, 3) := by decide +kernel
theorem dX12_escape_80 : decode cX12_escape 80 = .ok (.aload_n 0, 1) := by decide +kernel
theorem dX12_escape_81 : decode cX12_escape 81 = .ok (.invokevirtual 289, 3) := by decide +kernel
theorem dX12_escape_84 : decode cX12_escape 84 = .ok (.istore_n 3, 1) := by decide +kernel
theorem dX12_escape_85 : decode cX12_escape 85 = .ok (.aload_n 0, 1) := by decide +kernel
theorem dX12_escape_86 : decode cX12_escape 86 = .ok (.getfield 191, 3) := by decide +kernel
theorem dX12_escape_89 : decode cX12_escape 89 = .ok (.ifCond .ne 7, 3) := by decide +kernel
theorem dX12_escape_92 : decode cX12_escape 92 = .ok (.iconst 1, 1) := by decide +kernel
theorem dX12_escape_93 : decode cX12_escape 93 = .ok (.goto 4, 3) := by decide +kernel
theorem dX12_escape_96 : decode cX12_escape 96 = .ok (.iconst 0, 1) := by decide +kernel
theorem dX12_escape_97 : decode cX12_escape 97 = .ok (.istore 4, 2) := by decide +kernel
theorem dX12_escape_99 : decode cX12_escape 99 = .ok (.iload 4, 2) := by decide +kernel
theorem dX12_escape_101 : decode cX12_escape 101 = .ok (.ifCond .eq 183, 3) := by decide +kernel
theorem dX12_escape_104 : decode cX12_escape 104 = .ok (.aload_n 0, 1) := by decide +kernel
theorem dX12_escape_105 : decode cX12_escape 105 = .ok (.invokevirtual 364, 3) := by decide +kernel
theorem dX12_escape_108 : decode cX12_escape 108 = .ok (.aload_n 0, 1) := by decide +kernel
theorem dX12_escape_109 : decode cX12_escape 109 = .ok (.invokevirtual 358, 3) := by decide +kernel
theorem dX12_escape_112 : decode cX12_escape 112 = .ok (.istore 5, 2) := by decide +kernel
theorem dX12_escape_114 : decode cX12_escape 114 = .ok (.aload_n 0, 1) := by decide +kernel
theorem dX12_escape_115 : decode cX12_escape 115 = .ok (.getfield 191, 3) := by decide +kernel
theorem dX12_escape_118 : decode cX12_escape 118 = .ok (.ifCond .ne 24, 3) := by decide +kernel
theorem dX12_escape_121 : decode cX12_escape 121 = .ok (.iload 5, 2) := by decide +kernel
theorem dX12_escape_123 : decode cX12_escape 123 = .ok (.bipush 64, 2) := by decide +kernel
theorem dX12_escape_125 : decode cX12_escape 125 = .ok (.if_icmp .lt 17, 3) := by decide +kernel
theorem dX12_escape_128 : decode cX12_escape 128 = .ok (.iload 5, 2) := by decide +kernel
theorem dX12_escape_130 : decode cX12_escape 130 = .ok (.bipush 95, 2) := by decide +kernel
theorem dX12_escape_132 : decode cX12_escape 132 = .ok (.if_icmp .eq 10, 3) := by decide +kernel
theorem dX12_escape_135 : decode cX12_escape 135 = .ok (.iload 5, 2) := by decide +kernel
theorem dX12_escape_137 : decode cX12_escape 137 = .ok (.bipush 126, 2) := by decide +kernel
theorem dX12_escape_139 : decode cX12_escape 139 = .ok (.if_icmp .le 4, 3) := by decide +kernel
theorem dX12_escape_142 : decode cX12_escape 142 = .ok (.return_, 1) := by decide +kernel
theorem dX12_escape_143 : decode cX12_escape 143 = .ok (.aload_n 0, 1) := by decide +kernel
theorem dX12_escape_144 : decode cX12_escape 144 = .ok (.invokevirtual 289, 3) := by decide +kernel
theorem dX12_escape_147 : decode cX12_escape 147 = .ok (.istore 5, 2) := by decide +kernel
theorem dX12_escape_149 : decode cX12_escape 149 = .ok (.aload_n 0, 1) := by decide +kernel
theorem dX12_escape_150 : decode cX12_escape 150 = .ok (.getfield 191, 3) := by decide +kernel
theorem dX12_escape_153 : decode cX12_escape 153 = .ok (.ifCond .eq 4, 3) := by decide +kernel
theorem dX12_escape_156 : decode cX12_escape 156 = .ok (.return_, 1) := by decide +kernel
theorem dX12_escape_157 : decode cX12_escape 157 = .ok (.iload 5, 2) := by decide +kernel
theorem dX12_escape_159 : decode cX12_escape 159 = .ok (.bipush 96, 2) := by decide +kernel
theorem dX12_escape_161 : decode cX12_escape 161 = .ok (.if_icmp .lt 7, 3) := by decide +kernel
theorem dX12_escape_164 : decode cX12_escape 164 = .ok (.iconst 1, 1) := by decide +kernel
theorem dX12_escape_165 : decode cX12_escape 165 = .ok (.goto 4, 3) := by decide +kernel
theorem dX12_escape_168 : decode cX12_escape 168 = .ok (.iconst 0, 1) := by decide +kernel
theorem dX12_escape_169 : decode cX12_escape 169 = .ok (.istore 4, 2) := by decide +kernel
theorem dX12_escape_171 : decode cX12_escape 171 = .ok (.iload 5, 2) := by decide +kernel
theorem dX12_escape_173 : decode cX12_escape 173 = .ok (.bipush 96, 2) := by decide +kernel
theorem dX12_escape_175 : decode cX12_escape 175 = .ok (.if_icmp .lt 11, 3) := by decide +kernel
theorem dX12_escape_178 : decode cX12_escape 178 = .ok (.iload 5, 2) := by decide +kernel
theorem dX12_escape_180 : decode cX12_escape 180 = .ok (.bipush 32, 2) := by decide +kernel
theorem dX12_escape_182 : decode cX12_escape 182 = .ok (.isub, 1) := by decide +kernel
theorem dX12_escape_183 : decode cX12_escape 183 = .ok (.goto 5, 3) := by decide +kernel
theorem dX12_escape_186 : decode cX12_escape 186 = .ok (.iload 5, 2) := by decide +kernel
theorem dX12_escape_188 : decode cX12_escape 188 = .ok (.istore 5, 2) := by decide +kernel
theorem dX12_escape_190 : decode cX12_escape 190 = .ok (.iload 5, 2) := by decide +kernel
theorem dX12_escape_192 : decode cX12_escape 192 = .ok (.bipush 87, 2) := by decide +kernel
theorem dX12_escape_194 : decode cX12_escape 194 = .ok (.if_icmp .eq 22, 3) := by decide +kernel
theorem dX12_escape_197 : decode cX12_escape 197 = .ok (.iload 5, 2) := by decide +kernel
theorem dX12_escape_199 : decode cX12_escape 199 = .ok (.bipush 88, 2) := by decide +kernel
theorem dX12_escape_201 : decode cX12_escape 201 = .ok (.if_icmp .ne 19, 3) := by decide +kernel
theorem dX12_escape_204 : decode cX12_escape 204 = .ok (.iload_n 2, 1) := by decide +kernel
theorem dX12_escape_205 : decode cX12_escape 205 = .ok (.bipush 38, 2) := by decide +kernel
theorem dX12_escape_207 : decode cX12_escape 207 = .ok (.if_icmp .ne 13, 3) := by decide +kernel
theorem dX12_escape_210 : decode cX12_escape 210 = .ok (.iload_n 3, 1) := by decide +kernel
theorem dX12_escape_211 : decode cX12_escape 211 = .ok (.bipush 112, 2) := by decide +kernel
theorem dX12_escape_213 : decode cX12_escape 213 = .ok (.if_icmp .ne 7, 3) := by decide +kernel
theorem dX12_escape_216 : decode cX12_escape 216 = .ok (.iconst 1, 1) := by decide +kernel
theorem dX12_escape_217 : decode cX12_escape 217 = .ok (.goto 4, 3) := by decide +kernel
theorem dX12_escape_220 : decode cX12_escape 220 = .ok (.iconst 0, 1) := by decide +kernel
theorem dX12_escape_221 : decode cX12_escape 221 = .ok (.istore 6, 2) := by decide +kernel
theorem dX12_escape_223 : decode cX12_escape 223 = .ok (.iload 6, 2) := by decide +kernel
theorem dX12_escape_225 : decode cX12_escape 225 = .ok (.ifCond .eq 17, 3) := by decide +kernel
theorem dX12_escape_228 : decode cX12_escape 228 = .ok (.iconst 0, 1) := by decide +kernel
theorem dX12_escape_229 : decode cX12_escape 229 = .ok (.istore 4, 2) := by decide +kernel
theorem dX12_escape_231 : decode cX12_escape 231 = .ok (.aload_n 0, 1) := by decide +kernel
theorem dX12_escape_232 : decode cX12_escape 232 = .ok (.iload_n 2, 1) := by decide +kernel
theorem dX12_escape_233 : decode cX12_escape 233 = .ok (.iload_n 3, 1) := by decide +kernel
theorem dX12_escape_234 : decode cX12_escape 234 = .ok (.iload 5, 2) := by decide +kernel
theorem dX12_escape_236 : decode cX12_escape 236 = .ok (.invokevirtual 367, 3) := by decide +kernel
theorem dX12_escape_239 : decode cX12_escape 239 = .ok (.goto 42, 3) := by decide +kernel
theorem dX12_escape_242 : decode cX12_escape 242 = .ok (.aload_n 0, 1) := by decide +kernel
theorem dX12_escape_243 : decode cX12_escape 243 = .ok (.iconst 0, 1) := by decide +kernel
theorem dX12_escape_244 : decode cX12_escape 244 = .ok (.putfield 370, 3) := by decide +kernel
theorem dX12_escape_247 : decode cX12_escape 247 = .ok (.aload_n 0, 1) := by decide +kernel
theorem dX12_escape_248 : decode cX12_escape 248 = .ok (.iload_n 2, 1) := by decide +kernel
theorem dX12_escape_249 : decode cX12_escape 249 = .ok (.iload_n 3, 1) := by decide +kernel
theorem dX12_escape_250 : decode cX12_escape 250 = .ok (.iload 5, 2) := by decide +kernel
theorem dX12_escape_252 : decode cX12_escape 252 = .ok (.invokevirtual 373, 3) := by decide +kernel
theorem dX12_escape_255 : decode cX12_escape 255 = .ok (.iload 4, 2) := by decide +kernel
theorem dX12_escape_257 : decode cX12_escape 257 = .ok (.ifCond .eq 21, 3) := by decide +kernel
theorem dX12_escape_260 : decode cX12_escape 260 = .ok (.aload_n 0, 1) := by decide +kernel
theorem dX12_escape_261 : decode cX12_escape 261 = .ok (.getfield 191, 3) := by decide +kernel
theorem dX12_escape_264 : decode cX12_escape 264 = .ok (.ifCond .ne 14, 3) := by decide +kernel
theorem dX12_escape_267 : decode cX12_escape 267 = .ok (.aload_n 0, 1) := by decide +kernel
theorem dX12_escape_268 : decode cX12_escape 268 = .ok (.getfield 370, 3) := by decide +kernel
theorem dX12_escape_271 : decode cX12_escape 271 = .ok (.ifCond .ne 7, 3) := by decide +kernel
theorem dX12_escape_274 : decode cX12_escape 274 = .ok (.iconst 1, 1) := by decide +kernel
theorem dX12_escape_275 : decode cX12_escape 275 = .ok (.goto 4, 3) := by decide +kernel
theorem dX12_escape_278 : decode cX12_escape 278 = .ok (.iconst 0, 1) := by decide +kernel
theorem dX12_escape_279 : decode cX12_escape 279 = .ok (.istore 4, 2) := by decide +kernel
theorem dX12_escape_281 : decode cX12_escape 281 = .ok (.goto (-182), 3) := by decide +kernel
theorem dX12_escape_284 : decode cX12_escape 284 = .ok (.return_, 1) := by decide +kernel
noncomputable def f_X12_escape_221 (G : Int32 → Mm → Option (Unit × Mm)) (k99 : Int32 → Int32 → Int32 → Mm → Option (Unit × Mm)) (a2 : Int32) (a3 : Int32) (a4 : Int32) (a5 : Int32) (b0 : Int32) (T : Mm) : Option (Unit × Mm) :=
  if b0 = 0 then (lb (uI T 1252 133 0) fun T1 =>
  bd (f_X12_field G a2 a3 a5 T1) fun _ T2 =>
  if a4 = 0 then (k99 a2 a3 0 T2)
  else (if (gI T2 1233 133) = 0 then (if (gI T2 1252 133) = 0 then (k99 a2 a3 1 T2)
  else (k99 a2 a3 0 T2))
  else (k99 a2 a3 0 T2)))
  else (bd (f_X12_withData G a2 a3 a5 T) fun _ T3 =>
  k99 a2 a3 0 T3)
set_option maxRecDepth 100000 in
set_option maxHeartbeats 4000000 in
theorem s_X12_escape_221 {x : JX} {ad : Nat → Nat} {U : Mm} {S0 : Hp} {q : Unit × Mm} {D : Nat} {G : Int32 → Mm → Option (Unit × Mm)}  {k99 : Int32 → Int32 → Int32 → Mm → Option (Unit × Mm)} (hn9 : x_n x = 7) (C : CB x RX12 cX12_escape) (M : CMr x (D + 7) none S0 ad false U eV q) (hD : 40 ≤ D) (hG : ∀ (i : Int32) (T : Mm) (q : Unit × Mm), G i T = some q → Cr D yX12_through cX12_through 8 none [.ref (ad 133), .int i] ad false U T eV q) (hk99 : ∀ (a2 : Int32) (a3 : Int32) (a4 : Int32) (T : Mm), k99 a2 a3 a4 T = some q → Jr x ad false U T [(0, .ref (ad 133)), (2, .int a2), (3, .int a3), (4, .int a4)] 99 []) (a2 : Int32) (a3 : Int32) (a4 : Int32) (a5 : Int32) (b0 : Int32) (T : Mm) (h : f_X12_escape_221 G k99 a2 a3 a4 a5 b0 T = some q) : Jr x ad false U T [(0, .ref (ad 133)), (2, .int a2), (3, .int a3), (4, .int a4), (5, .int a5)] 221 [.int b0] := by
  unfold f_X12_escape_221 at h
  refine r_istore (lv' := [(6, .int b0), (0, .ref (ad 133)), (2, .int a2), (3, .int a3), (4, .int a4), (5, .int a5)]) C dX12_escape_221 (by rw [hn9]; decide) rfl ?_
  refine r_iload C dX12_escape_223 0 rfl ?_
  refine r_if_eq (tgt := 242) C dX12_escape_225 (by decide) h (fun h => ?_) (fun h => ?_)
  · refine r_aload_n C dX12_escape_242 rfl 1 rfl ?_
    refine r_iconst (v := 0) C dX12_escape_243 (by decide) ?_
    refine r_putz (f := 1252) C flX12_370 (by decide) rfl rfl (by decide) dX12_escape_244 kq_133 rfl h (fun T1 h => ?_)
    refine r_aload_n C dX12_escape_247 rfl 1 rfl ?_
    refine r_iload_n C dX12_escape_248 rfl 2 rfl ?_
    show Jr _ _ _ _ _ _ 249 _
    refine r_iload_n C dX12_escape_249 rfl 3 rfl ?_
    refine r_iload C dX12_escape_250 5 rfl ?_
    refine r_callVN C M h [.int a2, .int a3, .int a5] [] mlX12_373 mcX12_field (fun q9 e9 => s_X12_field hD (fun i9 T9 q9 e9 => hG i9 T9 q9 e9) a2 a3 a5  e9) kq_133 rfl (by omega) (by decide) rfl rfl (Nat.le_of_ble_eq_true rfl) dX12_escape_252 (fun _ T2 h => ?_)
    refine r_iload C dX12_escape_255 4 rfl ?_
    refine r_if_eq (tgt := 278) C dX12_escape_257 (by decide) h (fun h => ?_) (fun h => ?_)
    · refine r_iconst (v := 0) C dX12_escape_278 (by decide) ?_
      refine r_istore (lv' := [(4, .int 0), (6, .int b0), (0, .ref (ad 133)), (2, .int a2), (3, .int a3), (5, .int a5)]) C dX12_escape_279 (by rw [hn9]; decide) rfl ?_
      refine r_goto (tgt := 99) C dX12_escape_281 (by decide) ?_
      refine Jr.sub [2, 3, 4, 0] (lv' := [(0, .ref (ad 133)), (2, .int a2), (3, .int a3), (4, .int 0)]) rfl ?_
      exact hk99 a2 a3 0 T2 h
    · refine r_aload_n C dX12_escape_260 rfl 1 rfl ?_
      refine r_geti (f := 1233) C flX12_191 dX12_escape_261 kq_133 (by decide) (by decide) rfl ?_
      refine r_if_ne (tgt := 278) C dX12_escape_264 (by decide) h (fun h => ?_) (fun h => ?_)
      · refine r_iconst (v := 0) C dX12_escape_278 (by decide) ?_
        refine r_istore (lv' := [(4, .int 0), (6, .int b0), (0, .ref (ad 133)), (2, .int a2), (3, .int a3), (5, .int a5)]) C dX12_escape_279 (by rw [hn9]; decide) rfl ?_
        refine r_goto (tgt := 99) C dX12_escape_281 (by decide) ?_
        refine Jr.sub [2, 3, 4, 0] (lv' := [(0, .ref (ad 133)), (2, .int a2), (3, .int a3), (4, .int 0)]) rfl ?_
        exact hk99 a2 a3 0 T2 h
      · refine r_aload_n C dX12_escape_267 rfl 1 rfl ?_
        refine r_geti (f := 1252) C flX12_370 dX12_escape_268 kq_133 (by decide) (by decide) rfl ?_
        refine r_if_ne (tgt := 278) C dX12_escape_271 (by decide) h (fun h => ?_) (fun h => ?_)
        · refine r_iconst (v := 0) C dX12_escape_278 (by decide) ?_
          refine r_istore (lv' := [(4, .int 0), (6, .int b0), (0, .ref (ad 133)), (2, .int a2), (3, .int a3), (5, .int a5)]) C dX12_escape_279 (by rw [hn9]; decide) rfl ?_
          refine r_goto (tgt := 99) C dX12_escape_281 (by decide) ?_
          refine Jr.sub [2, 3, 4, 0] (lv' := [(0, .ref (ad 133)), (2, .int a2), (3, .int a3), (4, .int 0)]) rfl ?_
          exact hk99 a2 a3 0 T2 h
        · refine r_iconst (v := 1) C dX12_escape_274 (by decide) ?_
          refine r_goto (tgt := 279) C dX12_escape_275 (by decide) ?_
          refine r_istore (lv' := [(4, .int 1), (6, .int b0), (0, .ref (ad 133)), (2, .int a2), (3, .int a3), (5, .int a5)]) C dX12_escape_279 (by rw [hn9]; decide) rfl ?_
          refine r_goto (tgt := 99) C dX12_escape_281 (by decide) ?_
          refine Jr.sub [2, 3, 4, 0] (lv' := [(0, .ref (ad 133)), (2, .int a2), (3, .int a3), (4, .int 1)]) rfl ?_
          exact hk99 a2 a3 1 T2 h
  · refine r_iconst (v := 0) C dX12_escape_228 (by decide) ?_
    refine r_istore (lv' := [(4, .int 0), (6, .int b0), (0, .ref (ad 133)), (2, .int a2), (3, .int a3), (5, .int a5)]) C dX12_escape_229 (by rw [hn9]; decide) rfl ?_
    refine r_aload_n C dX12_escape_231 rfl 2 rfl ?_
    refine r_iload_n C dX12_escape_232 rfl 3 rfl ?_
    refine r_iload_n C dX12_escape_233 rfl 4 rfl ?_
    show Jr _ _ _ _ _ _ 234 _
    refine r_iload C dX12_escape_234 5 rfl ?_
    refine r_callVN C M h [.int a2, .int a3, .int a5] [] mlX12_367 mcX12_withData (fun q9 e9 => s_X12_withData hD (fun i9 T9 q9 e9 => hG i9 T9 q9 e9) a2 a3 a5  e9) kq_133 rfl (by omega) (by decide) rfl rfl (Nat.le_of_ble_eq_true rfl) dX12_escape_236 (fun _ T3 h => ?_)
    refine r_goto (tgt := 281) C dX12_escape_239 (by decide) ?_
    refine r_goto (tgt := 99) C dX12_escape_281 (by decide) ?_
    refine Jr.sub [2, 3, 4, 0] (lv' := [(0, .ref (ad 133)), (2, .int a2), (3, .int a3), (4, .int 0)]) rfl ?_
    exact hk99 a2 a3 0 T3 h
noncomputable def f_X12_escape_188 (G : Int32 → Mm → Option (Unit × Mm)) (k99 : Int32 → Int32 → Int32 → Mm → Option (Unit × Mm)) (a2 : Int32) (a3 : Int32) (a4 : Int32) (b0 : Int32) (T : Mm) : Option (Unit × Mm) :=
  if b0 = 87 then (f_X12_escape_221 G k99 a2 a3 a4 b0 1 T)
  else (if b0 = 88 then (if a2 = 38 then (if a3 = 112 then (f_X12_escape_221 G k99 a2 a3 a4 b0 1 T)
  else (f_X12_escape_221 G k99 a2 a3 a4 b0 0 T))
  else (f_X12_escape_221 G k99 a2 a3 a4 b0 0 T))
  else (f_X12_escape_221 G k99 a2 a3 a4 b0 0 T))
set_option maxRecDepth 100000 in
set_option maxHeartbeats 4000000 in
theorem s_X12_escape_188 {x : JX} {ad : Nat → Nat} {U : Mm} {S0 : Hp} {q : Unit × Mm} {D : Nat} {G : Int32 → Mm → Option (Unit × Mm)}  {k99 : Int32 → Int32 → Int32 → Mm → Option (Unit × Mm)} (hn9 : x_n x = 7) (C : CB x RX12 cX12_escape) (M : CMr x (D + 7) none S0 ad false U eV q) (hD : 40 ≤ D) (hG : ∀ (i : Int32) (T : Mm) (q : Unit × Mm), G i T = some q → Cr D yX12_through cX12_through 8 none [.ref (ad 133), .int i] ad false U T eV q) (hk99 : ∀ (a2 : Int32) (a3 : Int32) (a4 : Int32) (T : Mm), k99 a2 a3 a4 T = some q → Jr x ad false U T [(0, .ref (ad 133)), (2, .int a2), (3, .int a3), (4, .int a4)] 99 []) (a2 : Int32) (a3 : Int32) (a4 : Int32) (b0 : Int32) (T : Mm) (h : f_X12_escape_188 G k99 a2 a3 a4 b0 T = some q) : Jr x ad false U T [(0, .ref (ad 133)), (2, .int a2), (3, .int a3), (4, .int a4)] 188 [.int b0] := by
  unfold f_X12_escape_188 at h
  refine r_istore (lv' := [(5, .int b0), (0, .ref (ad 133)), (2, .int a2), (3, .int a3), (4, .int a4)]) C dX12_escape_188 (by rw [hn9]; decide) rfl ?_
  refine r_iload C dX12_escape_190 0 rfl ?_
  refine r_bipush (v := 87) C dX12_escape_192 (by decide) ?_
  refine r_ic_eq (tgt := 216) C dX12_escape_194 (by decide) h (fun h => ?_) (fun h => ?_)
  · refine r_iconst (v := 1) C dX12_escape_216 (by decide) ?_
    refine r_goto (tgt := 221) C dX12_escape_217 (by decide) ?_
    refine Jr.sub [1, 2, 3, 4, 0] (lv' := [(0, .ref (ad 133)), (2, .int a2), (3, .int a3), (4, .int a4), (5, .int b0)]) rfl ?_
    exact s_X12_escape_221 hn9 C M hD hG hk99 a2 a3 a4 b0 1 T h
  · refine r_iload C dX12_escape_197 0 rfl ?_
    refine r_bipush (v := 88) C dX12_escape_199 (by decide) ?_
    refine r_ic_ne (tgt := 220) C dX12_escape_201 (by decide) h (fun h => ?_) (fun h => ?_)
    · refine r_iconst (v := 0) C dX12_escape_220 (by decide) ?_
      refine Jr.sub [1, 2, 3, 4, 0] (lv' := [(0, .ref (ad 133)), (2, .int a2), (3, .int a3), (4, .int a4), (5, .int b0)]) rfl ?_
      exact s_X12_escape_221 hn9 C M hD hG hk99 a2 a3 a4 b0 0 T h
    · refine r_iload_n C dX12_escape_204 rfl 2 rfl ?_
      refine r_bipush (v := 38) C dX12_escape_205 (by decide) ?_
      refine r_ic_ne (tgt := 220) C dX12_escape_207 (by decide) h (fun h => ?_) (fun h => ?_)
      · refine r_iconst (v := 0) C dX12_escape_220 (by decide) ?_
        refine Jr.sub [1, 2, 3, 4, 0] (lv' := [(0, .ref (ad 133)), (2, .int a2), (3, .int a3), (4, .int a4), (5, .int b0)]) rfl ?_
        exact s_X12_escape_221 hn9 C M hD hG hk99 a2 a3 a4 b0 0 T h
      · refine r_iload_n C dX12_escape_210 rfl 3 rfl ?_
        refine r_bipush (v := 112) C dX12_escape_211 (by decide) ?_
        refine r_ic_ne (tgt := 220) C dX12_escape_213 (by decide) h (fun h => ?_) (fun h => ?_)
        · refine r_iconst (v := 0) C dX12_escape_220 (by decide) ?_
          refine Jr.sub [1, 2, 3, 4, 0] (lv' := [(0, .ref (ad 133)), (2, .int a2), (3, .int a3), (4, .int a4), (5, .int b0)]) rfl ?_
          exact s_X12_escape_221 hn9 C M hD hG hk99 a2 a3 a4 b0 0 T h
        · refine r_iconst (v := 1) C dX12_escape_216 (by decide) ?_
          refine r_goto (tgt := 221) C dX12_escape_217 (by decide) ?_
          refine Jr.sub [1, 2, 3, 4, 0] (lv' := [(0, .ref (ad 133)), (2, .int a2), (3, .int a3), (4, .int a4), (5, .int b0)]) rfl ?_
          exact s_X12_escape_221 hn9 C M hD hG hk99 a2 a3 a4 b0 1 T h
noncomputable def f_X12_escape_169 (G : Int32 → Mm → Option (Unit × Mm)) (k99 : Int32 → Int32 → Int32 → Mm → Option (Unit × Mm)) (a2 : Int32) (a3 : Int32) (a5 : Int32) (b0 : Int32) (T : Mm) : Option (Unit × Mm) :=
  if a5 < 96 then (f_X12_escape_188 G k99 a2 a3 b0 a5 T)
  else (f_X12_escape_188 G k99 a2 a3 b0 (a5 - 32) T)
set_option maxRecDepth 100000 in
set_option maxHeartbeats 4000000 in
theorem s_X12_escape_169 {x : JX} {ad : Nat → Nat} {U : Mm} {S0 : Hp} {q : Unit × Mm} {D : Nat} {G : Int32 → Mm → Option (Unit × Mm)}  {k99 : Int32 → Int32 → Int32 → Mm → Option (Unit × Mm)} (hn9 : x_n x = 7) (C : CB x RX12 cX12_escape) (M : CMr x (D + 7) none S0 ad false U eV q) (hD : 40 ≤ D) (hG : ∀ (i : Int32) (T : Mm) (q : Unit × Mm), G i T = some q → Cr D yX12_through cX12_through 8 none [.ref (ad 133), .int i] ad false U T eV q) (hk99 : ∀ (a2 : Int32) (a3 : Int32) (a4 : Int32) (T : Mm), k99 a2 a3 a4 T = some q → Jr x ad false U T [(0, .ref (ad 133)), (2, .int a2), (3, .int a3), (4, .int a4)] 99 []) (a2 : Int32) (a3 : Int32) (a5 : Int32) (b0 : Int32) (T : Mm) (h : f_X12_escape_169 G k99 a2 a3 a5 b0 T = some q) : Jr x ad false U T [(0, .ref (ad 133)), (2, .int a2), (3, .int a3), (5, .int a5)] 169 [.int b0] := by
  unfold f_X12_escape_169 at h
  refine r_istore (lv' := [(4, .int b0), (0, .ref (ad 133)), (2, .int a2), (3, .int a3), (5, .int a5)]) C dX12_escape_169 (by rw [hn9]; decide) rfl ?_
  refine r_iload C dX12_escape_171 4 rfl ?_
  refine r_bipush (v := 96) C dX12_escape_173 (by decide) ?_
  refine r_ic_lt (tgt := 186) C dX12_escape_175 (by decide) h (fun h => ?_) (fun h => ?_)
  · refine r_iload C dX12_escape_186 4 rfl ?_
    refine Jr.sub [1, 2, 3, 0] (lv' := [(0, .ref (ad 133)), (2, .int a2), (3, .int a3), (4, .int b0)]) rfl ?_
    exact s_X12_escape_188 hn9 C M hD hG hk99 a2 a3 b0 a5 T h
  · refine r_iload C dX12_escape_178 4 rfl ?_
    refine r_bipush (v := 32) C dX12_escape_180 (by decide) ?_
    refine r_isub C dX12_escape_182 rfl ?_
    refine r_goto (tgt := 188) C dX12_escape_183 (by decide) ?_
    refine Jr.sub [1, 2, 3, 0] (lv' := [(0, .ref (ad 133)), (2, .int a2), (3, .int a3), (4, .int b0)]) rfl ?_
    exact s_X12_escape_188 hn9 C M hD hG hk99 a2 a3 b0 (a5 - 32) T h
noncomputable def f_X12_escape_b99 (G : Int32 → Mm → Option (Unit × Mm)) (k99 : Int32 → Int32 → Int32 → Mm → Option (Unit × Mm)) (a2 : Int32) (a3 : Int32) (a4 : Int32) (T : Mm) : Option (Unit × Mm) :=
  if a4 = 0 then (some ((), T))
  else (bd (f_X12_readValue T) fun _ T1 =>
  bd (f_X12_peek T1) fun v2 T3 =>
  if (gI T3 1233 133) = 0 then (if v2 < 64 then (some ((), T3))
  else (if v2 = 95 then (some ((), T3))
  else (if v2 ≤ 126 then (bd (f_X12_next T3) fun v4 T5 =>
  if (gI T5 1233 133) = 0 then (if v4 < 96 then (f_X12_escape_169 G k99 a2 a3 v4 0 T5)
  else (f_X12_escape_169 G k99 a2 a3 v4 1 T5))
  else (some ((), T5)))
  else (some ((), T3)))))
  else (some ((), T3)))
set_option maxRecDepth 100000 in
set_option maxHeartbeats 4000000 in
theorem s_X12_escape_b99 {x : JX} {ad : Nat → Nat} {U : Mm} {S0 : Hp} {q : Unit × Mm} {D : Nat} {G : Int32 → Mm → Option (Unit × Mm)}  {k99 : Int32 → Int32 → Int32 → Mm → Option (Unit × Mm)} (hn9 : x_n x = 7) (C : CB x RX12 cX12_escape) (M : CMr x (D + 7) none S0 ad false U eV q) (hD : 40 ≤ D) (hG : ∀ (i : Int32) (T : Mm) (q : Unit × Mm), G i T = some q → Cr D yX12_through cX12_through 8 none [.ref (ad 133), .int i] ad false U T eV q) (hk99 : ∀ (a2 : Int32) (a3 : Int32) (a4 : Int32) (T : Mm), k99 a2 a3 a4 T = some q → Jr x ad false U T [(0, .ref (ad 133)), (2, .int a2), (3, .int a3), (4, .int a4)] 99 []) (a2 : Int32) (a3 : Int32) (a4 : Int32) (T : Mm) (h : f_X12_escape_b99 G k99 a2 a3 a4 T = some q) : Jr x ad false U T [(0, .ref (ad 133)), (2, .int a2), (3, .int a3), (4, .int a4)] 99 [] := by
  unfold f_X12_escape_b99 at h
  refine r_iload C dX12_escape_99 3 rfl ?_
  refine r_if_eq (tgt := 284) C dX12_escape_101 (by decide) h (fun h => ?_) (fun h => ?_)
  · exact r_vret C M dX12_escape_284 h
  · refine r_aload_n C dX12_escape_104 rfl 0 rfl ?_
    refine r_callVN C M h [] [] mlX12_364 mcX12_readValue (fun q9 e9 => s_X12_readValue   e9) kq_133 rfl (by omega) (by decide) rfl rfl (Nat.le_of_ble_eq_true rfl) dX12_escape_105 (fun _ T1 h => ?_)
    refine r_aload_n C dX12_escape_108 rfl 0 rfl ?_
    refine r_callVI C M h [] [] mlX12_358 mcX12_peek (fun q9 e9 => s_X12_peek   e9) kq_133 rfl (by omega) (by decide) rfl rfl (Nat.le_of_ble_eq_true rfl) dX12_escape_109 (fun v2 T3 h => ?_)
    refine r_istore (lv' := [(5, .int v2), (0, .ref (ad 133)), (2, .int a2), (3, .int a3), (4, .int a4)]) C dX12_escape_112 (by rw [hn9]; decide) rfl ?_
    show Jr _ _ _ _ _ _ 114 _
    refine r_aload_n C dX12_escape_114 rfl 1 rfl ?_
    refine r_geti (f := 1233) C flX12_191 dX12_escape_115 kq_133 (by decide) (by decide) rfl ?_
    refine r_if_ne (tgt := 142) C dX12_escape_118 (by decide) h (fun h => ?_) (fun h => ?_)
    · exact r_vret C M dX12_escape_142 h
    · refine r_iload C dX12_escape_121 0 rfl ?_
      refine r_bipush (v := 64) C dX12_escape_123 (by decide) ?_
      refine r_ic_lt (tgt := 142) C dX12_escape_125 (by decide) h (fun h => ?_) (fun h => ?_)
      · exact r_vret C M dX12_escape_142 h
      · refine r_iload C dX12_escape_128 0 rfl ?_
        refine r_bipush (v := 95) C dX12_escape_130 (by decide) ?_
        refine r_ic_eq (tgt := 142) C dX12_escape_132 (by decide) h (fun h => ?_) (fun h => ?_)
        · exact r_vret C M dX12_escape_142 h
        · refine r_iload C dX12_escape_135 0 rfl ?_
          refine r_bipush (v := 126) C dX12_escape_137 (by decide) ?_
          refine r_ic_le (tgt := 143) C dX12_escape_139 (by decide) h (fun h => ?_) (fun h => ?_)
          · refine r_aload_n C dX12_escape_143 rfl 1 rfl ?_
            refine r_callVI C M h [] [] mlX12_289 mcX12_next (fun q9 e9 => s_X12_next   e9) kq_133 rfl (by omega) (by decide) rfl rfl (Nat.le_of_ble_eq_true rfl) dX12_escape_144 (fun v4 T5 h => ?_)
            refine r_istore (lv' := [(5, .int v4), (0, .ref (ad 133)), (2, .int a2), (3, .int a3), (4, .int a4)]) C dX12_escape_147 (by rw [hn9]; decide) rfl ?_
            refine r_aload_n C dX12_escape_149 rfl 1 rfl ?_
            refine r_geti (f := 1233) C flX12_191 dX12_escape_150 kq_133 (by decide) (by decide) rfl ?_
            show Jr _ _ _ _ _ _ 153 _
            refine r_if_eq (tgt := 157) C dX12_escape_153 (by decide) h (fun h => ?_) (fun h => ?_)
            · refine r_iload C dX12_escape_157 0 rfl ?_
              refine r_bipush (v := 96) C dX12_escape_159 (by decide) ?_
              refine r_ic_lt (tgt := 168) C dX12_escape_161 (by decide) h (fun h => ?_) (fun h => ?_)
              · refine r_iconst (v := 0) C dX12_escape_168 (by decide) ?_
                refine Jr.sub [1, 2, 3, 0] (lv' := [(0, .ref (ad 133)), (2, .int a2), (3, .int a3), (5, .int v4)]) rfl ?_
                exact s_X12_escape_169 hn9 C M hD hG hk99 a2 a3 v4 0 T5 h
              · refine r_iconst (v := 1) C dX12_escape_164 (by decide) ?_
                refine r_goto (tgt := 169) C dX12_escape_165 (by decide) ?_
                refine Jr.sub [1, 2, 3, 0] (lv' := [(0, .ref (ad 133)), (2, .int a2), (3, .int a3), (5, .int v4)]) rfl ?_
                exact s_X12_escape_169 hn9 C M hD hG hk99 a2 a3 v4 1 T5 h
            · exact r_vret C M dX12_escape_156 h
          · exact r_vret C M dX12_escape_142 h
noncomputable def f_X12_escape_l99 (G : Int32 → Mm → Option (Unit × Mm)) (n : Nat) : Int32 → Int32 → Int32 → Mm → Option (Unit × Mm) := Nat.rec (fun _ _ _ _ => none) (fun _ ih => f_X12_escape_b99 G ih) n
theorem s_X12_escape_l99 {x : JX} {ad : Nat → Nat} {U : Mm} {S0 : Hp} {q : Unit × Mm} {D : Nat} {G : Int32 → Mm → Option (Unit × Mm)}  (hn9 : x_n x = 7) (C : CB x RX12 cX12_escape) (M : CMr x (D + 7) none S0 ad false U eV q) (hD : 40 ≤ D) (hG : ∀ (i : Int32) (T : Mm) (q : Unit × Mm), G i T = some q → Cr D yX12_through cX12_through 8 none [.ref (ad 133), .int i] ad false U T eV q) : ∀ (n : Nat), ∀ (a2 : Int32) (a3 : Int32) (a4 : Int32) (T : Mm), f_X12_escape_l99 G  n a2 a3 a4 T = some q → Jr x ad false U T [(0, .ref (ad 133)), (2, .int a2), (3, .int a3), (4, .int a4)] 99 [] := by
  intro n
  induction n with
  | zero => intro a2 a3 a4 T  h; exact absurd h (by intro h; cases h)
  | succ n ih => exact fun a2 a3 a4 T  h => s_X12_escape_b99 hn9 C M hD hG (ih) a2 a3 a4 T  h
noncomputable def f_X12_escape_85 (G : Int32 → Mm → Option (Unit × Mm)) (a2 : Int32) (a3 : Int32) (T : Mm) : Option (Unit × Mm) :=
  if (gI T 1233 133) = 0 then (f_X12_escape_l99 G FU a2 a3 1 T)
  else (f_X12_escape_l99 G FU a2 a3 0 T)
set_option maxRecDepth 100000 in
set_option maxHeartbeats 4000000 in
theorem s_X12_escape_85 {x : JX} {ad : Nat → Nat} {U : Mm} {S0 : Hp} {q : Unit × Mm} {D : Nat} {G : Int32 → Mm → Option (Unit × Mm)}  (hn9 : x_n x = 7) (C : CB x RX12 cX12_escape) (M : CMr x (D + 7) none S0 ad false U eV q) (hD : 40 ≤ D) (hG : ∀ (i : Int32) (T : Mm) (q : Unit × Mm), G i T = some q → Cr D yX12_through cX12_through 8 none [.ref (ad 133), .int i] ad false U T eV q) (a2 : Int32) (a3 : Int32) (T : Mm) (h : f_X12_escape_85 G  a2 a3 T = some q) : Jr x ad false U T [(0, .ref (ad 133)), (2, .int a2), (3, .int a3)] 85 [] := by
  unfold f_X12_escape_85 at h
  refine r_aload_n C dX12_escape_85 rfl 0 rfl ?_
  refine r_geti (f := 1233) C flX12_191 dX12_escape_86 kq_133 (by decide) (by decide) rfl ?_
  refine r_if_ne (tgt := 96) C dX12_escape_89 (by decide) h (fun h => ?_) (fun h => ?_)
  · refine r_iconst (v := 0) C dX12_escape_96 (by decide) ?_
    refine r_istore (lv' := [(4, .int 0), (0, .ref (ad 133)), (2, .int a2), (3, .int a3)]) C dX12_escape_97 (by rw [hn9]; decide) rfl ?_
    refine Jr.sub [1, 2, 3, 0] (lv' := [(0, .ref (ad 133)), (2, .int a2), (3, .int a3), (4, .int 0)]) rfl ?_
    exact s_X12_escape_l99 hn9 C M hD hG  FU a2 a3 0 T h
  · refine r_iconst (v := 1) C dX12_escape_92 (by decide) ?_
    refine r_goto (tgt := 97) C dX12_escape_93 (by decide) ?_
    refine r_istore (lv' := [(4, .int 1), (0, .ref (ad 133)), (2, .int a2), (3, .int a3)]) C dX12_escape_97 (by rw [hn9]; decide) rfl ?_
    refine Jr.sub [1, 2, 3, 0] (lv' := [(0, .ref (ad 133)), (2, .int a2), (3, .int a3), (4, .int 1)]) rfl ?_
    exact s_X12_escape_l99 hn9 C M hD hG  FU a2 a3 1 T h
noncomputable def f_X12_escape_35 (G : Int32 → Mm → Option (Unit × Mm)) (a1 : Int32) (T : Mm) : Option (Unit × Mm) :=
  if a1 < 33 then (some ((), T))
  else (if a1 ≤ 47 then (bd (f_X12_next T) fun v1 T2 =>
  bd (f_X12_peek T2) fun v3 T4 =>
  if v3 < 96 then (f_X12_escape_85 G v1 0 T4)
  else (bd (f_X12_peek T4) fun v5 T6 =>
  if 126 < v5 then (f_X12_escape_85 G v1 0 T6)
  else (if (gI T6 1233 133) = 0 then (bd (f_X12_next T6) fun v7 T8 =>
  f_X12_escape_85 G v1 v7 T8)
  else (f_X12_escape_85 G v1 0 T6))))
  else (some ((), T)))
set_option maxRecDepth 100000 in
set_option maxHeartbeats 4000000 in
theorem s_X12_escape_35 {x : JX} {ad : Nat → Nat} {U : Mm} {S0 : Hp} {q : Unit × Mm} {D : Nat} {G : Int32 → Mm → Option (Unit × Mm)}  (hn9 : x_n x = 7) (C : CB x RX12 cX12_escape) (M : CMr x (D + 7) none S0 ad false U eV q) (hD : 40 ≤ D) (hG : ∀ (i : Int32) (T : Mm) (q : Unit × Mm), G i T = some q → Cr D yX12_through cX12_through 8 none [.ref (ad 133), .int i] ad false U T eV q) (a1 : Int32) (T : Mm) (h : f_X12_escape_35 G  a1 T = some q) : Jr x ad false U T [(0, .ref (ad 133)), (1, .int a1)] 35 [] := by
  unfold f_X12_escape_35 at h
  refine r_iload_n C dX12_escape_35 rfl 1 rfl ?_
  refine r_bipush (v := 33) C dX12_escape_36 (by decide) ?_
  refine r_ic_lt (tgt := 47) C dX12_escape_38 (by decide) h (fun h => ?_) (fun h => ?_)
  · exact r_vret C M dX12_escape_47 h
  · refine r_iload_n C dX12_escape_41 rfl 1 rfl ?_
    refine r_bipush (v := 47) C dX12_escape_42 (by decide) ?_
    refine r_ic_le (tgt := 48) C dX12_escape_44 (by decide) h (fun h => ?_) (fun h => ?_)
    · refine r_aload_n C dX12_escape_48 rfl 0 rfl ?_
      refine r_callVI C M h [] [] mlX12_289 mcX12_next (fun q9 e9 => s_X12_next   e9) kq_133 rfl (by omega) (by decide) rfl rfl (Nat.le_of_ble_eq_true rfl) dX12_escape_49 (fun v1 T2 h => ?_)
      refine r_istore_n (lv' := [(2, .int v1), (0, .ref (ad 133)), (1, .int a1)]) C dX12_escape_52 rfl (by rw [hn9]; decide) rfl ?_
      refine r_iconst (v := 0) C dX12_escape_53 (by decide) ?_
      refine r_istore_n (lv' := [(3, .int 0), (2, .int v1), (0, .ref (ad 133)), (1, .int a1)]) C dX12_escape_54 rfl (by rw [hn9]; decide) rfl ?_
      show Jr _ _ _ _ _ _ 55 _
      refine r_aload_n C dX12_escape_55 rfl 2 rfl ?_
      refine r_callVI C M h [] [] mlX12_358 mcX12_peek (fun q9 e9 => s_X12_peek   e9) kq_133 rfl (by omega) (by decide) rfl rfl (Nat.le_of_ble_eq_true rfl) dX12_escape_56 (fun v3 T4 h => ?_)
      refine r_bipush (v := 96) C dX12_escape_59 (by decide) ?_
      refine r_ic_lt (tgt := 85) C dX12_escape_61 (by decide) h (fun h => ?_) (fun h => ?_)
      · refine Jr.sub [2, 1, 0] (lv' := [(0, .ref (ad 133)), (2, .int v1), (3, .int 0)]) rfl ?_
        exact s_X12_escape_85 hn9 C M hD hG  v1 0 T4 h
      · refine r_aload_n C dX12_escape_64 rfl 2 rfl ?_
        refine r_callVI C M h [] [] mlX12_358 mcX12_peek (fun q9 e9 => s_X12_peek   e9) kq_133 rfl (by omega) (by decide) rfl rfl (Nat.le_of_ble_eq_true rfl) dX12_escape_65 (fun v5 T6 h => ?_)
        refine r_bipush (v := 126) C dX12_escape_68 (by decide) ?_
        refine r_ic_gt (tgt := 85) C dX12_escape_70 (by decide) h (fun h => ?_) (fun h => ?_)
        · refine Jr.sub [2, 1, 0] (lv' := [(0, .ref (ad 133)), (2, .int v1), (3, .int 0)]) rfl ?_
          exact s_X12_escape_85 hn9 C M hD hG  v1 0 T6 h
        · refine r_aload_n C dX12_escape_73 rfl 2 rfl ?_
          refine r_geti (f := 1233) C flX12_191 dX12_escape_74 kq_133 (by decide) (by decide) rfl ?_
          refine r_if_ne (tgt := 85) C dX12_escape_77 (by decide) h (fun h => ?_) (fun h => ?_)
          · refine Jr.sub [2, 1, 0] (lv' := [(0, .ref (ad 133)), (2, .int v1), (3, .int 0)]) rfl ?_
            exact s_X12_escape_85 hn9 C M hD hG  v1 0 T6 h
          · refine r_aload_n C dX12_escape_80 rfl 2 rfl ?_
            refine r_callVI C M h [] [] mlX12_289 mcX12_next (fun q9 e9 => s_X12_next   e9) kq_133 rfl (by omega) (by decide) rfl rfl (Nat.le_of_ble_eq_true rfl) dX12_escape_81 (fun v7 T8 h => ?_)
            refine r_istore_n (lv' := [(3, .int v7), (2, .int v1), (0, .ref (ad 133)), (1, .int a1)]) C dX12_escape_84 rfl (by rw [hn9]; decide) rfl ?_
            refine Jr.sub [2, 1, 0] (lv' := [(0, .ref (ad 133)), (2, .int v1), (3, .int v7)]) rfl ?_
            exact s_X12_escape_85 hn9 C M hD hG  v1 v7 T8 h
    · exact r_vret C M dX12_escape_47 h
noncomputable def f_X12_escape (G : Int32 → Mm → Option (Unit × Mm)) (T : Mm) : Option (Unit × Mm) :=
  bd (f_X12_peek T) fun v1 T2 =>
  if v1 < 48 then (f_X12_escape_35 G v1 T2)
  else (if 126 < v1 then (f_X12_escape_35 G v1 T2)
  else (bd (f_X12_next T2) fun v3 T4 =>
  if (gI T4 1233 133) = 0 then (bd (f_X12_pair G v3 T4) fun _ T5 =>
  some ((), T5))
  else (some ((), T4))))
set_option maxRecDepth 100000 in
set_option maxHeartbeats 4000000 in
theorem s_X12_escape {ad : Nat → Nat} {U T : Mm} {q : Unit × Mm} {D : Nat} {G : Int32 → Mm → Option (Unit × Mm)}  (hD : 40 ≤ D) (hG : ∀ (i : Int32) (T : Mm) (q : Unit × Mm), G i T = some q → Cr D yX12_through cX12_through 8 none [.ref (ad 133), .int i] ad false U T eV q) (h : f_X12_escape G  T = some q) : Cr (D + 7) yX12_escape cX12_escape 7 none [.ref (ad 133)] ad false U T eV q := by
  refine cr_of (by decide) (Nat.le_of_ble_eq_true rfl) fun x S0 hn9 C M => ?_
  have C : CB x RX12 cX12_escape := C
  refine Jr.eq (lv' := [(0, .ref (ad 133))]) (st' := []) rfl rfl ?_
  unfold f_X12_escape at h
  refine r_aload_n C dX12_escape_0 rfl 0 rfl ?_
  refine r_callVI C M h [] [] mlX12_358 mcX12_peek (fun q9 e9 => s_X12_peek   e9) kq_133 rfl (by omega) (by decide) rfl rfl (Nat.le_of_ble_eq_true rfl) dX12_escape_1 (fun v1 T2 h => ?_)
  refine r_istore_n (lv' := [(1, .int v1), (0, .ref (ad 133))]) C dX12_escape_4 rfl (by rw [hn9]; decide) rfl ?_
  refine r_iload_n C dX12_escape_5 rfl 0 rfl ?_
  refine r_bipush (v := 48) C dX12_escape_6 (by decide) ?_
  show Jr _ _ _ _ _ _ 8 _
  refine r_ic_lt (tgt := 35) C dX12_escape_8 (by decide) h (fun h => ?_) (fun h => ?_)
  · refine Jr.sub [1, 0] (lv' := [(0, .ref (ad 133)), (1, .int v1)]) rfl ?_
    exact s_X12_escape_35 hn9 C M hD hG  v1 T2 h
  · refine r_iload_n C dX12_escape_11 rfl 0 rfl ?_
    refine r_bipush (v := 126) C dX12_escape_12 (by decide) ?_
    refine r_ic_gt (tgt := 35) C dX12_escape_14 (by decide) h (fun h => ?_) (fun h => ?_)
    · refine Jr.sub [1, 0] (lv' := [(0, .ref (ad 133)), (1, .int v1)]) rfl ?_
      exact s_X12_escape_35 hn9 C M hD hG  v1 T2 h
    · refine r_aload_n C dX12_escape_17 rfl 1 rfl ?_
      refine r_callVI C M h [] [] mlX12_289 mcX12_next (fun q9 e9 => s_X12_next   e9) kq_133 rfl (by omega) (by decide) rfl rfl (Nat.le_of_ble_eq_true rfl) dX12_escape_18 (fun v3 T4 h => ?_)
      refine r_istore_n (lv' := [(2, .int v3), (1, .int v1), (0, .ref (ad 133))]) C dX12_escape_21 rfl (by rw [hn9]; decide) rfl ?_
      refine r_aload_n C dX12_escape_22 rfl 2 rfl ?_
      refine r_geti (f := 1233) C flX12_191 dX12_escape_23 kq_133 (by decide) (by decide) rfl ?_
      show Jr _ _ _ _ _ _ 26 _
      refine r_if_ne (tgt := 34) C dX12_escape_26 (by decide) h (fun h => ?_) (fun h => ?_)
      · exact r_vret C M dX12_escape_34 h
      · refine r_aload_n C dX12_escape_29 rfl 2 rfl ?_
        refine r_iload_n C dX12_escape_30 rfl 0 rfl ?_
        refine r_callVN C M h [.int v3] [] mlX12_361 mcX12_pair (fun q9 e9 => s_X12_pair hD (fun i9 T9 q9 e9 => hG i9 T9 q9 e9) v3  e9) kq_133 rfl (by omega) (by decide) rfl rfl (Nat.le_of_ble_eq_true rfl) dX12_escape_31 (fun _ T5 h => ?_)
        exact r_vret C M dX12_escape_34 h
theorem dX12_tab_0 : decode cX12_tab 0 = .ok (.aload_n 0, 1) := by decide +kernel
theorem dX12_tab_1 : decode cX12_tab 1 = .ok (.getfield 9, 3) := by decide +kernel
theorem dX12_tab_4 : decode cX12_tab 4 = .ok (.sipush 189, 3) := by decide +kernel
theorem dX12_tab_7 : decode cX12_tab 7 = .ok (.iaload, 1) := by decide +kernel
theorem dX12_tab_8 : decode cX12_tab 8 = .ok (.aload_n 0, 1) := by decide +kernel
theorem dX12_tab_9 : decode cX12_tab 9 = .ok (.getfield 9, 3) := by decide +kernel
theorem dX12_tab_12 : decode cX12_tab 12 = .ok (.iconst 2, 1) := by decide +kernel
theorem dX12_tab_13 : decode cX12_tab 13 = .ok (.iaload, 1) := by decide +kernel
theorem dX12_tab_14 : decode cX12_tab 14 = .ok (.if_icmp .ge 15, 3) := by decide +kernel
theorem dX12_tab_17 : decode cX12_tab 17 = .ok (.aload_n 0, 1) := by decide +kernel
theorem dX12_tab_18 : decode cX12_tab 18 = .ok (.aload_n 0, 1) := by decide +kernel
theorem dX12_tab_19 : decode cX12_tab 19 = .ok (.getfield 9, 3) := by decide +kernel
theorem dX12_tab_22 : decode cX12_tab 22 = .ok (.iconst 2, 1) := by decide +kernel
theorem dX12_tab_23 : decode cX12_tab 23 = .ok (.iaload, 1) := by decide +kernel
theorem dX12_tab_24 : decode cX12_tab 24 = .ok (.i2l, 1) := by decide +kernel
theorem dX12_tab_25 : decode cX12_tab 25 = .ok (.invokevirtual 210, 3) := by decide +kernel
theorem dX12_tab_28 : decode cX12_tab 28 = .ok (.return_, 1) := by decide +kernel
theorem dX12_tab_29 : decode cX12_tab 29 = .ok (.ldc2_w 313, 3) := by decide +kernel
theorem dX12_tab_32 : decode cX12_tab 32 = .ok (.aload_n 0, 1) := by decide +kernel
theorem dX12_tab_33 : decode cX12_tab 33 = .ok (.getfield 9, 3) := by decide +kernel
theorem dX12_tab_36 : decode cX12_tab 36 = .ok (.bipush 7, 2) := by decide +kernel
theorem dX12_tab_38 : decode cX12_tab 38 = .ok (.iaload, 1) := by decide +kernel
theorem dX12_tab_39 : decode cX12_tab 39 = .ok (.i2l, 1) := by decide +kernel
theorem dX12_tab_40 : decode cX12_tab 40 = .ok (.lmul, 1) := by decide +kernel
theorem dX12_tab_41 : decode cX12_tab 41 = .ok (.lstore_n 1, 1) := by decide +kernel
theorem dX12_tab_42 : decode cX12_tab 42 = .ok (.lload_n 1, 1) := by decide +kernel
theorem dX12_tab_43 : decode cX12_tab 43 = .ok (.lconst 0, 1) := by decide +kernel
theorem dX12_tab_44 : decode cX12_tab 44 = .ok (.lcmp, 1) := by decide +kernel
theorem dX12_tab_45 : decode cX12_tab 45 = .ok (.ifCond .ne 4, 3) := by decide +kernel
theorem dX12_tab_48 : decode cX12_tab 48 = .ok (.return_, 1) := by decide +kernel
theorem dX12_tab_49 : decode cX12_tab 49 = .ok (.aload_n 0, 1) := by decide +kernel
theorem dX12_tab_50 : decode cX12_tab 50 = .ok (.getfield 9, 3) := by decide +kernel
theorem dX12_tab_53 : decode cX12_tab 53 = .ok (.iconst 2, 1) := by decide +kernel
theorem dX12_tab_54 : decode cX12_tab 54 = .ok (.iaload, 1) := by decide +kernel
theorem dX12_tab_55 : decode cX12_tab 55 = .ok (.i2l, 1) := by decide +kernel
theorem dX12_tab_56 : decode cX12_tab 56 = .ok (.aload_n 0, 1) := by decide +kernel
theorem dX12_tab_57 : decode cX12_tab 57 = .ok (.getfield 9, 3) := by decide +kernel
theorem dX12_tab_60 : decode cX12_tab 60 = .ok (.sipush 189, 3) := by decide +kernel
theorem dX12_tab_63 : decode cX12_tab 63 = .ok (.iaload, 1) := by decide +kernel
theorem dX12_tab_64 : decode cX12_tab 64 = .ok (.aload_n 0, 1) := by decide +kernel
theorem dX12_tab_65 : decode cX12_tab 65 = .ok (.getfield 9, 3) := by decide +kernel
theorem dX12_tab_68 : decode cX12_tab 68 = .ok (.iconst 2, 1) := by decide +kernel
theorem dX12_tab_69 : decode cX12_tab 69 = .ok (.iaload, 1) := by decide +kernel
theorem dX12_tab_70 : decode cX12_tab 70 = .ok (.isub, 1) := by decide +kernel
theorem dX12_tab_71 : decode cX12_tab 71 = .ok (.i2l, 1) := by decide +kernel
theorem dX12_tab_72 : decode cX12_tab 72 = .ok (.lload_n 1, 1) := by decide +kernel
theorem dX12_tab_73 : decode cX12_tab 73 = .ok (.ldiv, 1) := by decide +kernel
theorem dX12_tab_74 : decode cX12_tab 74 = .ok (.lconst 1, 1) := by decide +kernel
theorem dX12_tab_75 : decode cX12_tab 75 = .ok (.ladd, 1) := by decide +kernel
theorem dX12_tab_76 : decode cX12_tab 76 = .ok (.lload_n 1, 1) := by decide +kernel
theorem dX12_tab_77 : decode cX12_tab 77 = .ok (.lmul, 1) := by decide +kernel
theorem dX12_tab_78 : decode cX12_tab 78 = .ok (.ladd, 1) := by decide +kernel
theorem dX12_tab_79 : decode cX12_tab 79 = .ok (.lstore_n 3, 1) := by decide +kernel
theorem dX12_tab_80 : decode cX12_tab 80 = .ok (.lload_n 3, 1) := by decide +kernel
theorem dX12_tab_81 : decode cX12_tab 81 = .ok (.aload_n 0, 1) := by decide +kernel
theorem dX12_tab_82 : decode cX12_tab 82 = .ok (.getfield 9, 3) := by decide +kernel
theorem dX12_tab_85 : decode cX12_tab 85 = .ok (.iconst 3, 1) := by decide +kernel
theorem dX12_tab_86 : decode cX12_tab 86 = .ok (.iaload, 1) := by decide +kernel
theorem dX12_tab_87 : decode cX12_tab 87 = .ok (.i2l, 1) := by decide +kernel
theorem dX12_tab_88 : decode cX12_tab 88 = .ok (.lcmp, 1) := by decide +kernel
theorem dX12_tab_89 : decode cX12_tab 89 = .ok (.ifCond .le 11, 3) := by decide +kernel
theorem dX12_tab_92 : decode cX12_tab 92 = .ok (.aload_n 0, 1) := by decide +kernel
theorem dX12_tab_93 : decode cX12_tab 93 = .ok (.getfield 9, 3) := by decide +kernel
theorem dX12_tab_96 : decode cX12_tab 96 = .ok (.iconst 3, 1) := by decide +kernel
theorem dX12_tab_97 : decode cX12_tab 97 = .ok (.iaload, 1) := by decide +kernel
theorem dX12_tab_98 : decode cX12_tab 98 = .ok (.i2l, 1) := by decide +kernel
theorem dX12_tab_99 : decode cX12_tab 99 = .ok (.lstore_n 3, 1) := by decide +kernel
theorem dX12_tab_100 : decode cX12_tab 100 = .ok (.lload_n 3, 1) := by decide +kernel
theorem dX12_tab_101 : decode cX12_tab 101 = .ok (.aload_n 0, 1) := by decide +kernel
theorem dX12_tab_102 : decode cX12_tab 102 = .ok (.getfield 9, 3) := by decide +kernel
theorem dX12_tab_105 : decode cX12_tab 105 = .ok (.sipush 189, 3) := by decide +kernel
theorem dX12_tab_108 : decode cX12_tab 108 = .ok (.iaload, 1) := by decide +kernel
theorem dX12_tab_109 : decode cX12_tab 109 = .ok (.i2l, 1) := by decide +kernel
theorem dX12_tab_110 : decode cX12_tab 110 = .ok (.lcmp, 1) := by decide +kernel
theorem dX12_tab_111 : decode cX12_tab 111 = .ok (.ifCond .le 8, 3) := by decide +kernel
theorem dX12_tab_114 : decode cX12_tab 114 = .ok (.aload_n 0, 1) := by decide +kernel
theorem dX12_tab_115 : decode cX12_tab 115 = .ok (.lload_n 3, 1) := by decide +kernel
theorem dX12_tab_116 : decode cX12_tab 116 = .ok (.invokevirtual 210, 3) := by decide +kernel
theorem dX12_tab_119 : decode cX12_tab 119 = .ok (.return_, 1) := by decide +kernel
noncomputable def f_X12_tab_100 (a3 : Int64) (T : Mm) : Option (Unit × Mm) :=
  if (lg_cmp a3 (((gA T 134 189)).toInt64)) ≤ 0 then (some ((), T))
  else (bd (f_X12_setX a3 T) fun _ T1 =>
  some ((), T1))
set_option maxRecDepth 100000 in
set_option maxHeartbeats 4000000 in
theorem s_X12_tab_100 {x : JX} {ad : Nat → Nat} {U : Mm} {S0 : Hp} {q : Unit × Mm}  (hn9 : x_n x = 5) (C : CB x RX12 cX12_tab) (M : CMr x 4 none S0 ad false U eV q) (a3 : Int64) (T : Mm) (h : f_X12_tab_100  a3 T = some q) : Jr x ad false U T [(0, .ref (ad 133)), (3, .long a3)] 100 [] := by
  unfold f_X12_tab_100 at h
  refine r_lload_n C dX12_tab_100 rfl 1 rfl ?_
  refine r_aload_n C dX12_tab_101 rfl 0 rfl ?_
  refine r_getp (f := 1200) (j := 134) C flX12_9 dX12_tab_102 kq_133 (by decide) rfl (fun W => pt_1200 kq_133 W) ?_
  refine r_sipush (v := 189) C dX12_tab_105 (by decide) ?_
  refine r_ialdc (n := 192) C 189 dX12_tab_108 kq_134 lq_134 (vp_lit (by decide)) (by decide) ?_
  show Jr _ _ _ _ _ _ 109 _
  refine r_i2l C dX12_tab_109 rfl ?_
  refine r_lcmp C dX12_tab_110 ?_
  refine r_if_le (tgt := 119) C dX12_tab_111 (by decide) h (fun h => ?_) (fun h => ?_)
  · exact r_vret C M dX12_tab_119 h
  · refine r_aload_n C dX12_tab_114 rfl 0 rfl ?_
    refine r_lload_n C dX12_tab_115 rfl 1 rfl ?_
    refine r_callVN C M h [.long a3] [] mlX12_210 mcX12_setX (fun q9 e9 => s_X12_setX a3  e9) kq_133 rfl (by decide) (by decide) rfl rfl (Nat.le_of_ble_eq_true rfl) dX12_tab_116 (fun _ T1 h => ?_)
    exact r_vret C M dX12_tab_119 h
noncomputable def f_X12_tab (T : Mm) : Option (Unit × Mm) :=
  if (gA T 134 2) ≤ (gA T 134 189) then (lb (((8 : Int64) * (((gA T 134 7)).toInt64))) fun v1 =>
  if (lg_cmp v1 0) = 0 then (some ((), T))
  else (gd (¬ v1 = 0) <|
  lb (((((gA T 134 2)).toInt64) + (((((((gA T 134 189) - (gA T 134 2))).toInt64) / v1) + 1) * v1))) fun v3 =>
  if (lg_cmp v3 (((gA T 134 3)).toInt64)) ≤ 0 then (f_X12_tab_100 v3 T)
  else (lb (((gA T 134 3)).toInt64) fun v4 =>
  f_X12_tab_100 v4 T)))
  else (bd (f_X12_setX (((gA T 134 2)).toInt64) T) fun _ T5 =>
  some ((), T5))
set_option maxRecDepth 100000 in
set_option maxHeartbeats 4000000 in
theorem s_X12_tab {ad : Nat → Nat} {U T : Mm} {q : Unit × Mm}  (h : f_X12_tab  T = some q) : Cr 4 yX12_tab cX12_tab 5 none [.ref (ad 133)] ad false U T eV q := by
  refine cr_of (by decide) (Nat.le_of_ble_eq_true rfl) fun x S0 hn9 C M => ?_
  have C : CB x RX12 cX12_tab := C
  refine Jr.eq (lv' := [(0, .ref (ad 133))]) (st' := []) rfl rfl ?_
  unfold f_X12_tab at h
  refine r_aload_n C dX12_tab_0 rfl 0 rfl ?_
  refine r_getp (f := 1200) (j := 134) C flX12_9 dX12_tab_1 kq_133 (by decide) rfl (fun W => pt_1200 kq_133 W) ?_
  refine r_sipush (v := 189) C dX12_tab_4 (by decide) ?_
  refine r_ialdc (n := 192) C 189 dX12_tab_7 kq_134 lq_134 (vp_lit (by decide)) (by decide) ?_
  refine r_aload_n C dX12_tab_8 rfl 0 rfl ?_
  show Jr _ _ _ _ _ _ 9 _
  refine r_getp (f := 1200) (j := 134) C flX12_9 dX12_tab_9 kq_133 (by decide) rfl (fun W => pt_1200 kq_133 W) ?_
  refine r_iconst (v := 2) C dX12_tab_12 (by decide) ?_
  refine r_ialdc (n := 192) C 2 dX12_tab_13 kq_134 lq_134 (vp_lit (by decide)) (by decide) ?_
  refine r_ic_ge (tgt := 29) C dX12_tab_14 (by decide) h (fun h => ?_) (fun h => ?_)
  · refine r_ldc2 (v := 8) C dX12_tab_29 kcX12_313 ?_
    refine r_aload_n C dX12_tab_32 rfl 0 rfl ?_
    refine r_getp (f := 1200) (j := 134) C flX12_9 dX12_tab_33 kq_133 (by decide) rfl (fun W => pt_1200 kq_133 W) ?_
    refine r_bipush (v := 7) C dX12_tab_36 (by decide) ?_
    refine r_ialdc (n := 192) C 7 dX12_tab_38 kq_134 lq_134 (vp_lit (by decide)) (by decide) ?_
    show Jr _ _ _ _ _ _ 39 _
    refine r_i2l C dX12_tab_39 rfl ?_
    refine r_lmul C dX12_tab_40 rfl ?_
    refine r_lbJ h (fun v1 h => ?_)
    refine r_lstore_n (lv' := [(1, .long v1), (0, .ref (ad 133))]) C dX12_tab_41 rfl (by rw [hn9]; decide) rfl ?_
    refine r_lload_n C dX12_tab_42 rfl 0 rfl ?_
    refine r_lconst (v := 0) C dX12_tab_43 (by decide) ?_
    refine r_lcmp C dX12_tab_44 ?_
    show Jr _ _ _ _ _ _ 45 _
    refine r_if_ne (tgt := 49) C dX12_tab_45 (by decide) h (fun h => ?_) (fun h => ?_)
    · refine r_aload_n C dX12_tab_49 rfl 1 rfl ?_
      refine r_getp (f := 1200) (j := 134) C flX12_9 dX12_tab_50 kq_133 (by decide) rfl (fun W => pt_1200 kq_133 W) ?_
      refine r_iconst (v := 2) C dX12_tab_53 (by decide) ?_
      refine r_ialdc (n := 192) C 2 dX12_tab_54 kq_134 lq_134 (vp_lit (by decide)) (by decide) ?_
      refine r_i2l C dX12_tab_55 rfl ?_
      show Jr _ _ _ _ _ _ 56 _
      refine r_aload_n C dX12_tab_56 rfl 1 rfl ?_
      refine r_getp (f := 1200) (j := 134) C flX12_9 dX12_tab_57 kq_133 (by decide) rfl (fun W => pt_1200 kq_133 W) ?_
      refine r_sipush (v := 189) C dX12_tab_60 (by decide) ?_
      refine r_ialdc (n := 192) C 189 dX12_tab_63 kq_134 lq_134 (vp_lit (by decide)) (by decide) ?_
      refine r_aload_n C dX12_tab_64 rfl 1 rfl ?_
      refine r_getp (f := 1200) (j := 134) C flX12_9 dX12_tab_65 kq_133 (by decide) rfl (fun W => pt_1200 kq_133 W) ?_
      show Jr _ _ _ _ _ _ 68 _
      refine r_iconst (v := 2) C dX12_tab_68 (by decide) ?_
      refine r_ialdc (n := 192) C 2 dX12_tab_69 kq_134 lq_134 (vp_lit (by decide)) (by decide) ?_
      refine r_isub C dX12_tab_70 rfl ?_
      refine r_i2l C dX12_tab_71 rfl ?_
      refine r_lload_n C dX12_tab_72 rfl 0 rfl ?_
      refine r_gd h (fun hz2 h => ?_)
      refine r_ldiv C dX12_tab_73 hz2 rfl ?_
      show Jr _ _ _ _ _ _ 74 _
      refine r_lconst (v := 1) C dX12_tab_74 (by decide) ?_
      refine r_ladd C dX12_tab_75 rfl ?_
      refine r_lload_n C dX12_tab_76 rfl 0 rfl ?_
      refine r_lmul C dX12_tab_77 rfl ?_
      refine r_ladd C dX12_tab_78 rfl ?_
      refine r_lbJ h (fun v3 h => ?_)
      refine r_lstore_n (lv' := [(3, .long v3), (1, .long v1), (0, .ref (ad 133))]) C dX12_tab_79 rfl (by rw [hn9]; decide) rfl ?_
      show Jr _ _ _ _ _ _ 80 _
      refine r_lload_n C dX12_tab_80 rfl 0 rfl ?_
      refine r_aload_n C dX12_tab_81 rfl 2 rfl ?_
      refine r_getp (f := 1200) (j := 134) C flX12_9 dX12_tab_82 kq_133 (by decide) rfl (fun W => pt_1200 kq_133 W) ?_
      refine r_iconst (v := 3) C dX12_tab_85 (by decide) ?_
      refine r_ialdc (n := 192) C 3 dX12_tab_86 kq_134 lq_134 (vp_lit (by decide)) (by decide) ?_
      refine r_i2l C dX12_tab_87 rfl ?_
      show Jr _ _ _ _ _ _ 88 _
      refine r_lcmp C dX12_tab_88 ?_
      refine r_if_le (tgt := 100) C dX12_tab_89 (by decide) h (fun h => ?_) (fun h => ?_)
      · refine Jr.sub [2, 0] (lv' := [(0, .ref (ad 133)), (3, .long v3)]) rfl ?_
        exact s_X12_tab_100 hn9 C M  v3 T h
      · refine r_aload_n C dX12_tab_92 rfl 2 rfl ?_
        refine r_getp (f := 1200) (j := 134) C flX12_9 dX12_tab_93 kq_133 (by decide) rfl (fun W => pt_1200 kq_133 W) ?_
        refine r_iconst (v := 3) C dX12_tab_96 (by decide) ?_
        refine r_ialdc (n := 192) C 3 dX12_tab_97 kq_134 lq_134 (vp_lit (by decide)) (by decide) ?_
        refine r_i2l C dX12_tab_98 rfl ?_
        show Jr _ _ _ _ _ _ 99 _
        refine r_lbJ h (fun v4 h => ?_)
        refine r_lstore_n (lv' := [(3, .long v4), (1, .long v1), (0, .ref (ad 133))]) C dX12_tab_99 rfl (by rw [hn9]; decide) rfl ?_
        refine Jr.sub [2, 0] (lv' := [(0, .ref (ad 133)), (3, .long v4)]) rfl ?_
        exact s_X12_tab_100 hn9 C M  v4 T h
    · exact r_vret C M dX12_tab_48 h
  · refine r_aload_n C dX12_tab_17 rfl 0 rfl ?_
    refine r_aload_n C dX12_tab_18 rfl 0 rfl ?_
    refine r_getp (f := 1200) (j := 134) C flX12_9 dX12_tab_19 kq_133 (by decide) rfl (fun W => pt_1200 kq_133 W) ?_
    refine r_iconst (v := 2) C dX12_tab_22 (by decide) ?_
    refine r_ialdc (n := 192) C 2 dX12_tab_23 kq_134 lq_134 (vp_lit (by decide)) (by decide) ?_
    show Jr _ _ _ _ _ _ 24 _
    refine r_i2l C dX12_tab_24 rfl ?_
    refine r_callVN C M h [.long (((gA T 134 2)).toInt64)] [] mlX12_210 mcX12_setX (fun q9 e9 => s_X12_setX (((gA T 134 2)).toInt64)  e9) kq_133 rfl (by decide) (by decide) rfl rfl (Nat.le_of_ble_eq_true rfl) dX12_tab_25 (fun _ T5 h => ?_)
    exact r_vret C M dX12_tab_28 h
